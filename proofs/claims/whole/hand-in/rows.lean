section
-- ===== PART A: goes FIRST, ahead of the names: the tables' words, and 'selects' of the private methods out of them =====
/-- a private method of a class that the tables say can be made, by its rows of tables_1 -/
def lw_okq (q : MethodName × Nat) : Prop := (q.1.cls ≠ "java/lang/invoke/MethodHandle" ∧ q.1.cls ≠ "java/lang/invoke/VarHandle") ∧ Cond.instantiable q.1.cls q.2 ∈ tables_1 ∧ Cond.privateMethod q.1 ∈ tables_1 ∧ Cond.instanceMethod q.1 ∈ tables_1
theorem lw_p0 : lw_okq (⟨"RetiredTimer", "setAllAsAtFirst", "()V"⟩, 12) := ⟨⟨by decide +kernel, by decide +kernel⟩, List.mem_of_getElem? (i := 5) (by decide +kernel), List.mem_of_getElem? (i := 13) (by decide +kernel), List.mem_of_getElem? (i := 14) (by decide +kernel)⟩
theorem lw_p1 : lw_okq (⟨"RetiredTimer", "lastEntryCount", "()I"⟩, 12) := ⟨⟨by decide +kernel, by decide +kernel⟩, List.mem_of_getElem? (i := 5) (by decide +kernel), List.mem_of_getElem? (i := 59) (by decide +kernel), List.mem_of_getElem? (i := 60) (by decide +kernel)⟩
theorem lw_p2 : lw_okq (⟨"RetiredTimer", "distanceToInterrupt", "()J"⟩, 12) := ⟨⟨by decide +kernel, by decide +kernel⟩, List.mem_of_getElem? (i := 5) (by decide +kernel), List.mem_of_getElem? (i := 68) (by decide +kernel), List.mem_of_getElem? (i := 69) (by decide +kernel)⟩
theorem lw_p3 : lw_okq (⟨"RetiredTimer", "interruptDue", "()I"⟩, 12) := ⟨⟨by decide +kernel, by decide +kernel⟩, List.mem_of_getElem? (i := 5) (by decide +kernel), List.mem_of_getElem? (i := 72) (by decide +kernel), List.mem_of_getElem? (i := 73) (by decide +kernel)⟩
theorem lw_p4 : lw_okq (⟨"RetiredTimer", "isOn", "(I)Z"⟩, 12) := ⟨⟨by decide +kernel, by decide +kernel⟩, List.mem_of_getElem? (i := 5) (by decide +kernel), List.mem_of_getElem? (i := 76) (by decide +kernel), List.mem_of_getElem? (i := 77) (by decide +kernel)⟩
theorem lw_p5 : lw_okq (⟨"RetiredTimer", "isInMask", "(I)Z"⟩, 12) := ⟨⟨by decide +kernel, by decide +kernel⟩, List.mem_of_getElem? (i := 5) (by decide +kernel), List.mem_of_getElem? (i := 84) (by decide +kernel), List.mem_of_getElem? (i := 85) (by decide +kernel)⟩
theorem lw_p6 : lw_okq (⟨"RetiredTimer", "distanceToTimer", "()J"⟩, 12) := ⟨⟨by decide +kernel, by decide +kernel⟩, List.mem_of_getElem? (i := 5) (by decide +kernel), List.mem_of_getElem? (i := 88) (by decide +kernel), List.mem_of_getElem? (i := 89) (by decide +kernel)⟩
theorem lw_p7 : lw_okq (⟨"RetiredTimer", "distanceToPeriod", "()J"⟩, 12) := ⟨⟨by decide +kernel, by decide +kernel⟩, List.mem_of_getElem? (i := 5) (by decide +kernel), List.mem_of_getElem? (i := 92) (by decide +kernel), List.mem_of_getElem? (i := 93) (by decide +kernel)⟩
theorem lw_p8 : lw_okq (⟨"RetiredTimer", "distanceToLines", "()J"⟩, 12) := ⟨⟨by decide +kernel, by decide +kernel⟩, List.mem_of_getElem? (i := 5) (by decide +kernel), List.mem_of_getElem? (i := 99) (by decide +kernel), List.mem_of_getElem? (i := 100) (by decide +kernel)⟩
theorem lw_p9 : lw_okq (⟨"RetiredTimer", "advance", "(I)V"⟩, 12) := ⟨⟨by decide +kernel, by decide +kernel⟩, List.mem_of_getElem? (i := 5) (by decide +kernel), List.mem_of_getElem? (i := 106) (by decide +kernel), List.mem_of_getElem? (i := 107) (by decide +kernel)⟩
theorem lw_p10 : lw_okq (⟨"RetiredTimer", "advanceCount", "(I)V"⟩, 12) := ⟨⟨by decide +kernel, by decide +kernel⟩, List.mem_of_getElem? (i := 5) (by decide +kernel), List.mem_of_getElem? (i := 110) (by decide +kernel), List.mem_of_getElem? (i := 111) (by decide +kernel)⟩
theorem lw_p11 : lw_okq (⟨"RetiredTimerModel", "goOn", "()V"⟩, 14) := ⟨⟨by decide +kernel, by decide +kernel⟩, List.mem_of_getElem? (i := 156) (by decide +kernel), List.mem_of_getElem? (i := 209) (by decide +kernel), List.mem_of_getElem? (i := 210) (by decide +kernel)⟩
theorem lw_p12 : lw_okq (⟨"RetiredTimerModel", "due", "()I"⟩, 14) := ⟨⟨by decide +kernel, by decide +kernel⟩, List.mem_of_getElem? (i := 156) (by decide +kernel), List.mem_of_getElem? (i := 218) (by decide +kernel), List.mem_of_getElem? (i := 219) (by decide +kernel)⟩
theorem lw_p13 : lw_okq (⟨"RetiredTimerModel", "linesNow", "()I"⟩, 14) := ⟨⟨by decide +kernel, by decide +kernel⟩, List.mem_of_getElem? (i := 156) (by decide +kernel), List.mem_of_getElem? (i := 222) (by decide +kernel), List.mem_of_getElem? (i := 223) (by decide +kernel)⟩
theorem lw_p14 : lw_okq (⟨"RetiredTimerModel", "step", "()V"⟩, 14) := ⟨⟨by decide +kernel, by decide +kernel⟩, List.mem_of_getElem? (i := 156) (by decide +kernel), List.mem_of_getElem? (i := 226) (by decide +kernel), List.mem_of_getElem? (i := 227) (by decide +kernel)⟩
def lw_privs_1 : List (MethodName × Nat) := [(⟨"RetiredTimer", "setAllAsAtFirst", "()V"⟩, 12), (⟨"RetiredTimer", "lastEntryCount", "()I"⟩, 12), (⟨"RetiredTimer", "distanceToInterrupt", "()J"⟩, 12), (⟨"RetiredTimer", "interruptDue", "()I"⟩, 12), (⟨"RetiredTimer", "isOn", "(I)Z"⟩, 12), (⟨"RetiredTimer", "isInMask", "(I)Z"⟩, 12), (⟨"RetiredTimer", "distanceToTimer", "()J"⟩, 12), (⟨"RetiredTimer", "distanceToPeriod", "()J"⟩, 12), (⟨"RetiredTimer", "distanceToLines", "()J"⟩, 12), (⟨"RetiredTimer", "advance", "(I)V"⟩, 12), (⟨"RetiredTimer", "advanceCount", "(I)V"⟩, 12), (⟨"RetiredTimerModel", "goOn", "()V"⟩, 14), (⟨"RetiredTimerModel", "due", "()I"⟩, 14), (⟨"RetiredTimerModel", "linesNow", "()I"⟩, 14), (⟨"RetiredTimerModel", "step", "()V"⟩, 14)]
theorem lw_r1 : ∀ q ∈ lw_privs_1, lw_okq q := List.forall_mem_cons.mpr ⟨lw_p0, List.forall_mem_cons.mpr ⟨lw_p1, List.forall_mem_cons.mpr ⟨lw_p2, List.forall_mem_cons.mpr ⟨lw_p3, List.forall_mem_cons.mpr ⟨lw_p4, List.forall_mem_cons.mpr ⟨lw_p5, List.forall_mem_cons.mpr ⟨lw_p6, List.forall_mem_cons.mpr ⟨lw_p7, List.forall_mem_cons.mpr ⟨lw_p8, List.forall_mem_cons.mpr ⟨lw_p9, List.forall_mem_cons.mpr ⟨lw_p10, List.forall_mem_cons.mpr ⟨lw_p11, List.forall_mem_cons.mpr ⟨lw_p12, List.forall_mem_cons.mpr ⟨lw_p13, List.forall_mem_cons.mpr ⟨lw_p14, fun _ h => absurd h List.not_mem_nil⟩⟩⟩⟩⟩⟩⟩⟩⟩⟩⟩⟩⟩⟩⟩
def lw_privs : List (MethodName × Nat) := lw_privs_1
def lw_tbl : List Cond := k2_sels lw_privs ++ tables_1
theorem lw_privs_ok : ∀ q ∈ lw_privs, lw_okq q := lw_r1
end
section
/-! ===== BEGIN words of one list among another's, by their places ===== -/
theorem goodIn_r {big : List Cond} (ws : List Cond) (ps : List Nat) (hp : ws = ps.filterMap (fun i => big[i]?)) (h : ws.all goodWord = true) : GoodIn big ws := by
  intro w hw
  have h1 := List.all_eq_true.mp h w hw
  rw [hp] at hw
  obtain ⟨i, -, hi⟩ := List.mem_filterMap.mp hw
  have hm : w ∈ big := by first | exact List.mem_of_getElem? hi | exact List.getElem?_mem hi
  exact ⟨hm, good_of_word h1⟩
theorem goodIn_app {big a b : List Cond} (ha : GoodIn big a) (hb : GoodIn big b) : GoodIn big (a ++ b) := fun w h => (List.mem_append.mp h).elim (ha w) (hb w)
theorem goodIn_ca {big a b : List Cond} {c : Cond} (ha : GoodIn big (c :: a)) (hb : GoodIn big b) : GoodIn big (c :: (a ++ b)) := fun w h => (List.mem_cons.mp h).elim (fun e => ha w (List.mem_cons.mpr (Or.inl e))) (fun h => (List.mem_append.mp h).elim (fun h => ha w (List.mem_cons.mpr (Or.inr h))) (hb w))
theorem goodIn_sub {big ws : List Cond} (hm : ∀ w ∈ ws, w ∈ big) (h : ws.all goodWord = true) : GoodIn big ws := fun w hw => ⟨hm w hw, good_of_word (List.all_eq_true.mp h w hw)⟩
/-! ===== END ===== -/

/-! ===== BEGIN printed: names, fields, word lists, decode rows ===== -/
def RX0 : String := "RetiredTimer"
def TX0 : u_T := fun k => match k with
  | 0 => ("RetiredTimer", "entryCounts", "[I", true)
  | 1 => ("RetiredTimer", "entryLines", "[I", true)
  | 2 => ("RetiredTimer", "entries", "I", false)
  | 3 => ("RetiredTimer", "retired", "I", false)
  | 4 => ("RetiredTimer", "count", "I", false)
  | 5 => ("RetiredTimer", "period", "I", false)
  | 6 => ("RetiredTimer", "counting", "Z", false)
  | 7 => ("RetiredTimer", "pending", "Z", false)
  | 8 => ("RetiredTimer", "mask", "I", false)
  | 9 => ("RetiredTimer", "sr", "I", false)
  | 10 => ("RetiredTimer", "saved", "I", false)
  | _ => ("RetiredTimer", "taken", "I", false)
def tyX0 : Nat → FieldType := fun k => match k with
  | 0 => .array .int
  | 1 => .array .int
  | 2 => .int
  | 3 => .int
  | 4 => .int
  | 5 => .int
  | 6 => .boolean
  | 7 => .boolean
  | 8 => .int
  | 9 => .int
  | 10 => .int
  | _ => .int
abbrev wsX00 : List Cond := u_ws RX0 TX0 12
theorem nmX0 : ∀ a, a < 12 → ∀ b, b < 12 → a ≠ b → (TX0 a).2.1 ≠ (TX0 b).2.1 := by decide +kernel
theorem tyX0_ok : ∀ k, k < 12 → parseFieldDescriptor (TX0 k).2.2.1 = some (tyX0 k) := by decide +kernel
abbrev cX0_init : ByteArray := prog_1_method_1_code
def yX0_init : MethodName := ⟨RX0, "<init>", "()V"⟩
abbrev cX0_entry : ByteArray := prog_1_method_2_code
def yX0_entry : MethodName := ⟨RX0, "entry", "(II)Z"⟩
abbrev cX0_steps : ByteArray := prog_1_method_3_code
def yX0_steps : MethodName := ⟨RX0, "steps", "(I)I"⟩
abbrev cX0_take : ByteArray := prog_1_method_4_code
def yX0_take : MethodName := ⟨RX0, "take", "()I"⟩
abbrev cX0_back : ByteArray := prog_1_method_5_code
def yX0_back : MethodName := ⟨RX0, "back", "()V"⟩
abbrev cX0_mode : ByteArray := prog_1_method_6_code
def yX0_mode : MethodName := ⟨RX0, "mode", "(I)V"⟩
abbrev cX0_mask : ByteArray := prog_1_method_7_code
def yX0_mask : MethodName := ⟨RX0, "mask", "(I)V"⟩
abbrev cX0_timer : ByteArray := prog_1_method_8_code
def yX0_timer : MethodName := ⟨RX0, "timer", "(IZZ)V"⟩
abbrev cX0_count : ByteArray := prog_1_method_9_code
def yX0_count : MethodName := ⟨RX0, "count", "(I)V"⟩
abbrev cX0_reset : ByteArray := prog_1_method_10_code
def yX0_reset : MethodName := ⟨RX0, "reset", "()V"⟩
abbrev cX0_until : ByteArray := prog_1_method_11_code
def yX0_until : MethodName := ⟨RX0, "until", "()I"⟩
abbrev cX0_linesAt : ByteArray := prog_1_method_12_code
def yX0_linesAt : MethodName := ⟨RX0, "linesAt", "(I)I"⟩
abbrev cX0_entryOf : ByteArray := prog_1_method_13_code
def yX0_entryOf : MethodName := ⟨RX0, "entryOf", "(IZ)I"⟩
abbrev cX0_look : ByteArray := prog_1_method_14_code
def yX0_look : MethodName := ⟨RX0, "look", "(I)I"⟩
abbrev cX0_setAllAsAtFirst : ByteArray := prog_1_method_15_code
def yX0_setAllAsAtFirst : MethodName := ⟨RX0, "setAllAsAtFirst", "()V"⟩
abbrev cX0_lastEntryCount : ByteArray := prog_1_method_16_code
def yX0_lastEntryCount : MethodName := ⟨RX0, "lastEntryCount", "()I"⟩
abbrev cX0_interruptDue : ByteArray := prog_1_method_17_code
def yX0_interruptDue : MethodName := ⟨RX0, "interruptDue", "()I"⟩
abbrev cX0_isOn : ByteArray := prog_1_method_18_code
def yX0_isOn : MethodName := ⟨RX0, "isOn", "(I)Z"⟩
abbrev cX0_isInMask : ByteArray := prog_1_method_19_code
def yX0_isInMask : MethodName := ⟨RX0, "isInMask", "(I)Z"⟩
abbrev cX0_distanceToInterrupt : ByteArray := prog_1_method_20_code
def yX0_distanceToInterrupt : MethodName := ⟨RX0, "distanceToInterrupt", "()J"⟩
abbrev cX0_distanceToTimer : ByteArray := prog_1_method_21_code
def yX0_distanceToTimer : MethodName := ⟨RX0, "distanceToTimer", "()J"⟩
abbrev cX0_distanceToLines : ByteArray := prog_1_method_22_code
def yX0_distanceToLines : MethodName := ⟨RX0, "distanceToLines", "()J"⟩
abbrev cX0_distanceToPeriod : ByteArray := prog_1_method_23_code
def yX0_distanceToPeriod : MethodName := ⟨RX0, "distanceToPeriod", "()J"⟩
abbrev cX0_advance : ByteArray := prog_1_method_24_code
def yX0_advance : MethodName := ⟨RX0, "advance", "(I)V"⟩
abbrev cX0_advanceCount : ByteArray := prog_1_method_25_code
def yX0_advanceCount : MethodName := ⟨RX0, "advanceCount", "(I)V"⟩
def RX1 : String := "RetiredTimerModel"
def TX1 : u_T := fun k => match k with
  | 0 => ("RetiredTimerModel", "thrown", "I", false)
  | 1 => ("RetiredTimerModel", "retired", "I", false)
  | 2 => ("RetiredTimerModel", "count", "I", false)
  | 3 => ("RetiredTimerModel", "period", "I", false)
  | 4 => ("RetiredTimerModel", "counting", "Z", false)
  | 5 => ("RetiredTimerModel", "pending", "Z", false)
  | 6 => ("RetiredTimerModel", "mask", "I", false)
  | 7 => ("RetiredTimerModel", "sr", "I", false)
  | 8 => ("RetiredTimerModel", "saved", "I", false)
  | 9 => ("RetiredTimerModel", "taken", "I", false)
  | 10 => ("RetiredTimerModel", "counts", "[I", true)
  | 11 => ("RetiredTimerModel", "values", "[I", true)
  | 12 => ("RetiredTimerModel", "entries", "I", false)
  | _ => ("RetiredTimerModel", "come", "I", false)
def tyX1 : Nat → FieldType := fun k => match k with
  | 0 => .int
  | 1 => .int
  | 2 => .int
  | 3 => .int
  | 4 => .boolean
  | 5 => .boolean
  | 6 => .int
  | 7 => .int
  | 8 => .int
  | 9 => .int
  | 10 => .array .int
  | 11 => .array .int
  | 12 => .int
  | _ => .int
abbrev wsX10 : List Cond := u_ws RX1 TX1 14
theorem nmX1 : ∀ a, a < 14 → ∀ b, b < 14 → a ≠ b → (TX1 a).2.1 ≠ (TX1 b).2.1 := by decide +kernel
theorem tyX1_ok : ∀ k, k < 14 → parseFieldDescriptor (TX1 k).2.2.1 = some (tyX1 k) := by decide +kernel
abbrev cX1_init : ByteArray := prog_3_method_1_code
def yX1_init : MethodName := ⟨RX1, "<init>", "()V"⟩
abbrev cX1_goOn : ByteArray := prog_3_method_3_code
def yX1_goOn : MethodName := ⟨RX1, "goOn", "()V"⟩
abbrev cX1_linesNow : ByteArray := prog_3_method_4_code
def yX1_linesNow : MethodName := ⟨RX1, "linesNow", "()I"⟩
abbrev cX1_due : ByteArray := prog_3_method_5_code
def yX1_due : MethodName := ⟨RX1, "due", "()I"⟩
abbrev cX1_entry : ByteArray := prog_3_method_6_code
def yX1_entry : MethodName := ⟨RX1, "entry", "(II)Z"⟩
abbrev cX1_step : ByteArray := prog_3_method_7_code
def yX1_step : MethodName := ⟨RX1, "step", "()V"⟩
abbrev cX1_steps : ByteArray := prog_3_method_8_code
def yX1_steps : MethodName := ⟨RX1, "steps", "(I)I"⟩
abbrev cX1_take : ByteArray := prog_3_method_9_code
def yX1_take : MethodName := ⟨RX1, "take", "()I"⟩
abbrev cX1_back : ByteArray := prog_3_method_10_code
def yX1_back : MethodName := ⟨RX1, "back", "()V"⟩
def RJ9 : String := "java/lang/Math"
def TJ9 : u_T := fun k => match k with
  | _ => ("", "", "", false)
def tyJ9 : Nat → FieldType := fun k => match k with
  | _ => .int
abbrev wsJ90 : List Cond := u_ws RJ9 TJ9 0
theorem nmJ9 : ∀ a, a < 0 → ∀ b, b < 0 → a ≠ b → (TJ9 a).2.1 ≠ (TJ9 b).2.1 := by decide +kernel
theorem tyJ9_ok : ∀ k, k < 0 → parseFieldDescriptor (TJ9 k).2.2.1 = some (tyJ9 k) := by decide +kernel
abbrev cJ9_min_f86c9 : ByteArray := prog_4_method_70_code
def yJ9_min_f86c9 : MethodName := ⟨RJ9, "min", "(JJ)J"⟩
def RL : String := "RetiredTimerLaw"
abbrev cL_law : ByteArray := code
def yL_law : MethodName := ⟨RL, "law", "([I)Z"⟩
def wsX0_setAllAsAtFirst : List Cond := .code yX0_setAllAsAtFirst cX0_setAllAsAtFirst 1 none :: ([.fieldLink RX0 19 "RetiredTimer" "entries" "I", .fieldLink RX0 28 "RetiredTimer" "retired" "I", .fieldLink RX0 65 "RetiredTimer" "count" "I", .fieldLink RX0 55 "RetiredTimer" "period" "I", .fieldLink RX0 58 "RetiredTimer" "counting" "Z", .fieldLink RX0 62 "RetiredTimer" "pending" "Z", .fieldLink RX0 51 "RetiredTimer" "mask" "I", .fieldLink RX0 42 "RetiredTimer" "sr" "I", .fieldLink RX0 45 "RetiredTimer" "saved" "I", .fieldLink RX0 48 "RetiredTimer" "taken" "I"] ++ wsX00)
def wsX0_init : List Cond := .code yX0_init cX0_init 1 none :: ([.methodLink RX0 3 objectInit, .instanceMethod objectInit, .code objectInit ⟨#[0xb1]⟩ 1 none, .arrayClass .int, .fieldLink RX0 9 "RetiredTimer" "entryCounts" "[I", .fieldLink RX0 13 "RetiredTimer" "entryLines" "[I", .methodLink RX0 16 yX0_setAllAsAtFirst, .instanceMethod yX0_setAllAsAtFirst, .selects RX0 yX0_setAllAsAtFirst yX0_setAllAsAtFirst, .initialized RX0, .code yX0_setAllAsAtFirst cX0_setAllAsAtFirst 1 none, .fieldLink RX0 19 "RetiredTimer" "entries" "I", .fieldLink RX0 28 "RetiredTimer" "retired" "I", .fieldLink RX0 65 "RetiredTimer" "count" "I", .fieldLink RX0 55 "RetiredTimer" "period" "I", .fieldLink RX0 58 "RetiredTimer" "counting" "Z", .fieldLink RX0 62 "RetiredTimer" "pending" "Z", .fieldLink RX0 51 "RetiredTimer" "mask" "I", .fieldLink RX0 42 "RetiredTimer" "sr" "I", .fieldLink RX0 45 "RetiredTimer" "saved" "I", .fieldLink RX0 48 "RetiredTimer" "taken" "I"] ++ wsX00)
def wsX0_lastEntryCount : List Cond := .code yX0_lastEntryCount cX0_lastEntryCount 1 (some .int) :: ([.fieldLink RX0 19 "RetiredTimer" "entries" "I", .fieldLink RX0 9 "RetiredTimer" "entryCounts" "[I"] ++ wsX00)
def wsX0_entry : List Cond := .code yX0_entry cX0_entry 3 (some .boolean) :: ([.fieldLink RX0 19 "RetiredTimer" "entries" "I", .fieldLink RX0 9 "RetiredTimer" "entryCounts" "[I", .fieldLink RX0 13 "RetiredTimer" "entryLines" "[I", .methodLink RX0 23 yX0_lastEntryCount, .instanceMethod yX0_lastEntryCount, .selects RX0 yX0_lastEntryCount yX0_lastEntryCount, .initialized RX0, .code yX0_lastEntryCount cX0_lastEntryCount 1 (some .int)] ++ wsX00)
def wsX0_isOn : List Cond := .code yX0_isOn cX0_isOn 2 (some .boolean) :: ([.fieldLink RX0 42 "RetiredTimer" "sr" "I"] ++ wsX00)
def wsX0_linesAt : List Cond := .code yX0_linesAt cX0_linesAt 4 (some .int) :: ([.fieldLink RX0 19 "RetiredTimer" "entries" "I", .fieldLink RX0 9 "RetiredTimer" "entryCounts" "[I", .fieldLink RX0 13 "RetiredTimer" "entryLines" "[I"] ++ wsX00)
def wsX0_isInMask : List Cond := .code yX0_isInMask cX0_isInMask 2 (some .boolean) :: ([.fieldLink RX0 51 "RetiredTimer" "mask" "I"] ++ wsX00)
def wsX0_interruptDue : List Cond := .code yX0_interruptDue cX0_interruptDue 1 (some .int) :: ([.fieldLink RX0 62 "RetiredTimer" "pending" "Z", .fieldLink RX0 28 "RetiredTimer" "retired" "I", .methodLink RX0 72 yX0_isOn, .instanceMethod yX0_isOn, .selects RX0 yX0_isOn yX0_isOn, .initialized RX0, .code yX0_isOn cX0_isOn 2 (some .boolean), .fieldLink RX0 42 "RetiredTimer" "sr" "I", .methodLink RX0 68 yX0_linesAt, .instanceMethod yX0_linesAt, .selects RX0 yX0_linesAt yX0_linesAt, .code yX0_linesAt cX0_linesAt 4 (some .int), .fieldLink RX0 19 "RetiredTimer" "entries" "I", .fieldLink RX0 9 "RetiredTimer" "entryCounts" "[I", .fieldLink RX0 13 "RetiredTimer" "entryLines" "[I", .methodLink RX0 76 yX0_isInMask, .instanceMethod yX0_isInMask, .selects RX0 yX0_isInMask yX0_isInMask, .code yX0_isInMask cX0_isInMask 2 (some .boolean), .fieldLink RX0 51 "RetiredTimer" "mask" "I"] ++ wsX00)
def wsX0_distanceToPeriod : List Cond := .code yX0_distanceToPeriod cX0_distanceToPeriod 3 (some .long) :: ([.fieldLink RX0 55 "RetiredTimer" "period" "I", .fieldLink RX0 65 "RetiredTimer" "count" "I", .constantLong RX0 96 (4294967295), .constantLong RX0 98 (4294967296)] ++ wsX00)
def wsX0_distanceToTimer : List Cond := .code yX0_distanceToTimer cX0_distanceToTimer 1 (some .long) :: ([.fieldLink RX0 58 "RetiredTimer" "counting" "Z", .constantLong RX0 94 (1099511627776), .methodLink RX0 72 yX0_isOn, .instanceMethod yX0_isOn, .selects RX0 yX0_isOn yX0_isOn, .initialized RX0, .code yX0_isOn cX0_isOn 2 (some .boolean), .fieldLink RX0 42 "RetiredTimer" "sr" "I", .methodLink RX0 91 yX0_distanceToPeriod, .instanceMethod yX0_distanceToPeriod, .selects RX0 yX0_distanceToPeriod yX0_distanceToPeriod, .code yX0_distanceToPeriod cX0_distanceToPeriod 3 (some .long), .fieldLink RX0 55 "RetiredTimer" "period" "I", .fieldLink RX0 65 "RetiredTimer" "count" "I", .constantLong RX0 96 (4294967295), .constantLong RX0 98 (4294967296)] ++ wsX00)
def wsX0_distanceToLines : List Cond := .code yX0_distanceToLines cX0_distanceToLines 2 (some .long) :: ([.constantLong RX0 94 (1099511627776), .fieldLink RX0 19 "RetiredTimer" "entries" "I", .fieldLink RX0 9 "RetiredTimer" "entryCounts" "[I", .fieldLink RX0 28 "RetiredTimer" "retired" "I", .fieldLink RX0 13 "RetiredTimer" "entryLines" "[I", .methodLink RX0 72 yX0_isOn, .instanceMethod yX0_isOn, .selects RX0 yX0_isOn yX0_isOn, .initialized RX0, .code yX0_isOn cX0_isOn 2 (some .boolean), .fieldLink RX0 42 "RetiredTimer" "sr" "I", .methodLink RX0 76 yX0_isInMask, .instanceMethod yX0_isInMask, .selects RX0 yX0_isInMask yX0_isInMask, .code yX0_isInMask cX0_isInMask 2 (some .boolean), .fieldLink RX0 51 "RetiredTimer" "mask" "I"] ++ wsX00)
def wsX0_distanceToInterrupt_r1 : List Cond := [Cond.methodLink RX0 85 Lib.MathLoose.min_long.x, Cond.static Lib.MathLoose.min_long.x, Cond.initialized "java/lang/Math", Cond.code Lib.MathLoose.min_long.x Lib.MathLoose.min_long.code 4 (some .long), Cond.methodLink RX0 39 yX0_interruptDue, Cond.instanceMethod yX0_interruptDue, Cond.selects RX0 yX0_interruptDue yX0_interruptDue, Cond.initialized RX0, Cond.code yX0_interruptDue cX0_interruptDue 1 (some .int), Cond.fieldLink RX0 62 "RetiredTimer" "pending" "Z", Cond.fieldLink RX0 28 "RetiredTimer" "retired" "I", Cond.methodLink RX0 72 yX0_isOn, Cond.instanceMethod yX0_isOn, Cond.selects RX0 yX0_isOn yX0_isOn, Cond.code yX0_isOn cX0_isOn 2 (some .boolean), Cond.fieldLink RX0 42 "RetiredTimer" "sr" "I", Cond.methodLink RX0 68 yX0_linesAt, Cond.instanceMethod yX0_linesAt, Cond.selects RX0 yX0_linesAt yX0_linesAt, Cond.code yX0_linesAt cX0_linesAt 4 (some .int), Cond.fieldLink RX0 19 "RetiredTimer" "entries" "I", Cond.fieldLink RX0 9 "RetiredTimer" "entryCounts" "[I", Cond.fieldLink RX0 13 "RetiredTimer" "entryLines" "[I", Cond.methodLink RX0 76 yX0_isInMask]
def wsX0_distanceToInterrupt_r2 : List Cond := [Cond.instanceMethod yX0_isInMask, Cond.selects RX0 yX0_isInMask yX0_isInMask, Cond.code yX0_isInMask cX0_isInMask 2 (some .boolean), Cond.fieldLink RX0 51 "RetiredTimer" "mask" "I", Cond.methodLink RX0 79 yX0_distanceToTimer, Cond.instanceMethod yX0_distanceToTimer, Cond.selects RX0 yX0_distanceToTimer yX0_distanceToTimer, Cond.code yX0_distanceToTimer cX0_distanceToTimer 1 (some .long), Cond.fieldLink RX0 58 "RetiredTimer" "counting" "Z", Cond.constantLong RX0 94 (1099511627776), Cond.methodLink RX0 91 yX0_distanceToPeriod, Cond.instanceMethod yX0_distanceToPeriod, Cond.selects RX0 yX0_distanceToPeriod yX0_distanceToPeriod, Cond.code yX0_distanceToPeriod cX0_distanceToPeriod 3 (some .long), Cond.fieldLink RX0 55 "RetiredTimer" "period" "I", Cond.fieldLink RX0 65 "RetiredTimer" "count" "I", Cond.constantLong RX0 96 (4294967295), Cond.constantLong RX0 98 (4294967296), Cond.methodLink RX0 82 yX0_distanceToLines, Cond.instanceMethod yX0_distanceToLines, Cond.selects RX0 yX0_distanceToLines yX0_distanceToLines, Cond.code yX0_distanceToLines cX0_distanceToLines 2 (some .long)]
def wsX0_distanceToInterrupt : List Cond := .code yX0_distanceToInterrupt cX0_distanceToInterrupt 1 (some .long) :: ((wsX0_distanceToInterrupt_r1 ++ wsX0_distanceToInterrupt_r2) ++ wsX00)
def wsX0_advanceCount : List Cond := .code yX0_advanceCount cX0_advanceCount 5 none :: ([.fieldLink RX0 65 "RetiredTimer" "count" "I", .fieldLink RX0 62 "RetiredTimer" "pending" "Z", .fieldLink RX0 55 "RetiredTimer" "period" "I", .methodLink RX0 91 yX0_distanceToPeriod, .instanceMethod yX0_distanceToPeriod, .selects RX0 yX0_distanceToPeriod yX0_distanceToPeriod, .initialized RX0, .code yX0_distanceToPeriod cX0_distanceToPeriod 3 (some .long), .constantLong RX0 96 (4294967295), .constantLong RX0 98 (4294967296)] ++ wsX00)
def wsX0_advance : List Cond := .code yX0_advance cX0_advance 2 none :: ([.fieldLink RX0 28 "RetiredTimer" "retired" "I", .fieldLink RX0 58 "RetiredTimer" "counting" "Z", .methodLink RX0 100 yX0_advanceCount, .instanceMethod yX0_advanceCount, .selects RX0 yX0_advanceCount yX0_advanceCount, .initialized RX0, .code yX0_advanceCount cX0_advanceCount 5 none, .fieldLink RX0 65 "RetiredTimer" "count" "I", .fieldLink RX0 62 "RetiredTimer" "pending" "Z", .fieldLink RX0 55 "RetiredTimer" "period" "I", .methodLink RX0 91 yX0_distanceToPeriod, .instanceMethod yX0_distanceToPeriod, .selects RX0 yX0_distanceToPeriod yX0_distanceToPeriod, .code yX0_distanceToPeriod cX0_distanceToPeriod 3 (some .long), .constantLong RX0 96 (4294967295), .constantLong RX0 98 (4294967296)] ++ wsX00)
def wsX0_steps_r1 : List Cond := [Cond.constant RX0 27 (2147483647), Cond.fieldLink RX0 28 "RetiredTimer" "retired" "I", Cond.methodLink RX0 31 yX0_distanceToInterrupt, Cond.instanceMethod yX0_distanceToInterrupt, Cond.selects RX0 yX0_distanceToInterrupt yX0_distanceToInterrupt, Cond.initialized RX0, Cond.code yX0_distanceToInterrupt cX0_distanceToInterrupt 1 (some .long), Cond.methodLink RX0 85 Lib.MathLoose.min_long.x, Cond.static Lib.MathLoose.min_long.x, Cond.initialized "java/lang/Math", Cond.code Lib.MathLoose.min_long.x Lib.MathLoose.min_long.code 4 (some .long), Cond.methodLink RX0 39 yX0_interruptDue, Cond.instanceMethod yX0_interruptDue, Cond.selects RX0 yX0_interruptDue yX0_interruptDue, Cond.code yX0_interruptDue cX0_interruptDue 1 (some .int), Cond.fieldLink RX0 62 "RetiredTimer" "pending" "Z", Cond.methodLink RX0 72 yX0_isOn, Cond.instanceMethod yX0_isOn, Cond.selects RX0 yX0_isOn yX0_isOn, Cond.code yX0_isOn cX0_isOn 2 (some .boolean), Cond.fieldLink RX0 42 "RetiredTimer" "sr" "I", Cond.methodLink RX0 68 yX0_linesAt, Cond.instanceMethod yX0_linesAt, Cond.selects RX0 yX0_linesAt yX0_linesAt]
def wsX0_steps_r2 : List Cond := [Cond.code yX0_linesAt cX0_linesAt 4 (some .int), Cond.fieldLink RX0 19 "RetiredTimer" "entries" "I", Cond.fieldLink RX0 9 "RetiredTimer" "entryCounts" "[I", Cond.fieldLink RX0 13 "RetiredTimer" "entryLines" "[I", Cond.methodLink RX0 76 yX0_isInMask, Cond.instanceMethod yX0_isInMask, Cond.selects RX0 yX0_isInMask yX0_isInMask, Cond.code yX0_isInMask cX0_isInMask 2 (some .boolean), Cond.fieldLink RX0 51 "RetiredTimer" "mask" "I", Cond.methodLink RX0 79 yX0_distanceToTimer, Cond.instanceMethod yX0_distanceToTimer, Cond.selects RX0 yX0_distanceToTimer yX0_distanceToTimer, Cond.code yX0_distanceToTimer cX0_distanceToTimer 1 (some .long), Cond.fieldLink RX0 58 "RetiredTimer" "counting" "Z", Cond.constantLong RX0 94 (1099511627776), Cond.methodLink RX0 91 yX0_distanceToPeriod, Cond.instanceMethod yX0_distanceToPeriod, Cond.selects RX0 yX0_distanceToPeriod yX0_distanceToPeriod, Cond.code yX0_distanceToPeriod cX0_distanceToPeriod 3 (some .long), Cond.fieldLink RX0 55 "RetiredTimer" "period" "I", Cond.fieldLink RX0 65 "RetiredTimer" "count" "I", Cond.constantLong RX0 96 (4294967295), Cond.constantLong RX0 98 (4294967296), Cond.methodLink RX0 82 yX0_distanceToLines]
def wsX0_steps_r3 : List Cond := [Cond.instanceMethod yX0_distanceToLines, Cond.selects RX0 yX0_distanceToLines yX0_distanceToLines, Cond.code yX0_distanceToLines cX0_distanceToLines 2 (some .long), Cond.methodLink RX0 35 yX0_advance, Cond.instanceMethod yX0_advance, Cond.selects RX0 yX0_advance yX0_advance, Cond.code yX0_advance cX0_advance 2 none, Cond.methodLink RX0 100 yX0_advanceCount, Cond.instanceMethod yX0_advanceCount, Cond.selects RX0 yX0_advanceCount yX0_advanceCount, Cond.code yX0_advanceCount cX0_advanceCount 5 none]
def wsX0_steps : List Cond := .code yX0_steps cX0_steps 5 (some .int) :: ((wsX0_steps_r1 ++ (wsX0_steps_r2 ++ wsX0_steps_r3)) ++ wsX00)
def wsX0_take_r1 : List Cond := [Cond.fieldLink RX0 42 "RetiredTimer" "sr" "I", Cond.fieldLink RX0 45 "RetiredTimer" "saved" "I", Cond.fieldLink RX0 48 "RetiredTimer" "taken" "I", Cond.methodLink RX0 39 yX0_interruptDue, Cond.instanceMethod yX0_interruptDue, Cond.selects RX0 yX0_interruptDue yX0_interruptDue, Cond.initialized RX0, Cond.code yX0_interruptDue cX0_interruptDue 1 (some .int), Cond.fieldLink RX0 62 "RetiredTimer" "pending" "Z", Cond.fieldLink RX0 28 "RetiredTimer" "retired" "I", Cond.methodLink RX0 72 yX0_isOn, Cond.instanceMethod yX0_isOn, Cond.selects RX0 yX0_isOn yX0_isOn, Cond.code yX0_isOn cX0_isOn 2 (some .boolean), Cond.methodLink RX0 68 yX0_linesAt, Cond.instanceMethod yX0_linesAt, Cond.selects RX0 yX0_linesAt yX0_linesAt, Cond.code yX0_linesAt cX0_linesAt 4 (some .int), Cond.fieldLink RX0 19 "RetiredTimer" "entries" "I", Cond.fieldLink RX0 9 "RetiredTimer" "entryCounts" "[I", Cond.fieldLink RX0 13 "RetiredTimer" "entryLines" "[I", Cond.methodLink RX0 76 yX0_isInMask, Cond.instanceMethod yX0_isInMask, Cond.selects RX0 yX0_isInMask yX0_isInMask]
def wsX0_take_r2 : List Cond := [Cond.code yX0_isInMask cX0_isInMask 2 (some .boolean), Cond.fieldLink RX0 51 "RetiredTimer" "mask" "I"]
def wsX0_take : List Cond := .code yX0_take cX0_take 2 (some .int) :: ((wsX0_take_r1 ++ wsX0_take_r2) ++ wsX00)
def wsX0_back : List Cond := .code yX0_back cX0_back 1 none :: ([.fieldLink RX0 45 "RetiredTimer" "saved" "I", .fieldLink RX0 42 "RetiredTimer" "sr" "I"] ++ wsX00)
def wsX0_mode : List Cond := .code yX0_mode cX0_mode 2 none :: ([.fieldLink RX0 42 "RetiredTimer" "sr" "I"] ++ wsX00)
def wsX0_mask : List Cond := .code yX0_mask cX0_mask 2 none :: ([.fieldLink RX0 51 "RetiredTimer" "mask" "I"] ++ wsX00)
def wsX0_timer : List Cond := .code yX0_timer cX0_timer 4 none :: ([.constant RX0 54 (268435455), .fieldLink RX0 55 "RetiredTimer" "period" "I", .fieldLink RX0 58 "RetiredTimer" "counting" "Z", .fieldLink RX0 62 "RetiredTimer" "pending" "Z"] ++ wsX00)
def wsX0_count : List Cond := .code yX0_count cX0_count 2 none :: ([.fieldLink RX0 65 "RetiredTimer" "count" "I"] ++ wsX00)
def wsX0_reset : List Cond := .code yX0_reset cX0_reset 1 none :: ([.methodLink RX0 16 yX0_setAllAsAtFirst, .instanceMethod yX0_setAllAsAtFirst, .selects RX0 yX0_setAllAsAtFirst yX0_setAllAsAtFirst, .initialized RX0, .code yX0_setAllAsAtFirst cX0_setAllAsAtFirst 1 none, .fieldLink RX0 19 "RetiredTimer" "entries" "I", .fieldLink RX0 28 "RetiredTimer" "retired" "I", .fieldLink RX0 65 "RetiredTimer" "count" "I", .fieldLink RX0 55 "RetiredTimer" "period" "I", .fieldLink RX0 58 "RetiredTimer" "counting" "Z", .fieldLink RX0 62 "RetiredTimer" "pending" "Z", .fieldLink RX0 51 "RetiredTimer" "mask" "I", .fieldLink RX0 42 "RetiredTimer" "sr" "I", .fieldLink RX0 45 "RetiredTimer" "saved" "I", .fieldLink RX0 48 "RetiredTimer" "taken" "I"] ++ wsX00)
def wsX0_until_r1 : List Cond := [Cond.constant RX0 27 (2147483647), Cond.fieldLink RX0 28 "RetiredTimer" "retired" "I", Cond.methodLink RX0 31 yX0_distanceToInterrupt, Cond.instanceMethod yX0_distanceToInterrupt, Cond.selects RX0 yX0_distanceToInterrupt yX0_distanceToInterrupt, Cond.initialized RX0, Cond.code yX0_distanceToInterrupt cX0_distanceToInterrupt 1 (some .long), Cond.methodLink RX0 85 Lib.MathLoose.min_long.x, Cond.static Lib.MathLoose.min_long.x, Cond.initialized "java/lang/Math", Cond.code Lib.MathLoose.min_long.x Lib.MathLoose.min_long.code 4 (some .long), Cond.methodLink RX0 39 yX0_interruptDue, Cond.instanceMethod yX0_interruptDue, Cond.selects RX0 yX0_interruptDue yX0_interruptDue, Cond.code yX0_interruptDue cX0_interruptDue 1 (some .int), Cond.fieldLink RX0 62 "RetiredTimer" "pending" "Z", Cond.methodLink RX0 72 yX0_isOn, Cond.instanceMethod yX0_isOn, Cond.selects RX0 yX0_isOn yX0_isOn, Cond.code yX0_isOn cX0_isOn 2 (some .boolean), Cond.fieldLink RX0 42 "RetiredTimer" "sr" "I", Cond.methodLink RX0 68 yX0_linesAt, Cond.instanceMethod yX0_linesAt, Cond.selects RX0 yX0_linesAt yX0_linesAt]
def wsX0_until_r2 : List Cond := [Cond.code yX0_linesAt cX0_linesAt 4 (some .int), Cond.fieldLink RX0 19 "RetiredTimer" "entries" "I", Cond.fieldLink RX0 9 "RetiredTimer" "entryCounts" "[I", Cond.fieldLink RX0 13 "RetiredTimer" "entryLines" "[I", Cond.methodLink RX0 76 yX0_isInMask, Cond.instanceMethod yX0_isInMask, Cond.selects RX0 yX0_isInMask yX0_isInMask, Cond.code yX0_isInMask cX0_isInMask 2 (some .boolean), Cond.fieldLink RX0 51 "RetiredTimer" "mask" "I", Cond.methodLink RX0 79 yX0_distanceToTimer, Cond.instanceMethod yX0_distanceToTimer, Cond.selects RX0 yX0_distanceToTimer yX0_distanceToTimer, Cond.code yX0_distanceToTimer cX0_distanceToTimer 1 (some .long), Cond.fieldLink RX0 58 "RetiredTimer" "counting" "Z", Cond.constantLong RX0 94 (1099511627776), Cond.methodLink RX0 91 yX0_distanceToPeriod, Cond.instanceMethod yX0_distanceToPeriod, Cond.selects RX0 yX0_distanceToPeriod yX0_distanceToPeriod, Cond.code yX0_distanceToPeriod cX0_distanceToPeriod 3 (some .long), Cond.fieldLink RX0 55 "RetiredTimer" "period" "I", Cond.fieldLink RX0 65 "RetiredTimer" "count" "I", Cond.constantLong RX0 96 (4294967295), Cond.constantLong RX0 98 (4294967296), Cond.methodLink RX0 82 yX0_distanceToLines]
def wsX0_until_r3 : List Cond := [Cond.instanceMethod yX0_distanceToLines, Cond.selects RX0 yX0_distanceToLines yX0_distanceToLines, Cond.code yX0_distanceToLines cX0_distanceToLines 2 (some .long)]
def wsX0_until : List Cond := .code yX0_until cX0_until 3 (some .int) :: ((wsX0_until_r1 ++ (wsX0_until_r2 ++ wsX0_until_r3)) ++ wsX00)
def wsX0_entryOf : List Cond := .code yX0_entryOf cX0_entryOf 3 (some .int) :: ([.fieldLink RX0 19 "RetiredTimer" "entries" "I", .fieldLink RX0 13 "RetiredTimer" "entryLines" "[I", .fieldLink RX0 9 "RetiredTimer" "entryCounts" "[I"] ++ wsX00)
def wsX0_look_r1 : List Cond := [Cond.fieldLink RX0 28 "RetiredTimer" "retired" "I", Cond.fieldLink RX0 65 "RetiredTimer" "count" "I", Cond.fieldLink RX0 55 "RetiredTimer" "period" "I", Cond.fieldLink RX0 62 "RetiredTimer" "pending" "Z", Cond.fieldLink RX0 58 "RetiredTimer" "counting" "Z", Cond.fieldLink RX0 51 "RetiredTimer" "mask" "I", Cond.fieldLink RX0 42 "RetiredTimer" "sr" "I", Cond.fieldLink RX0 45 "RetiredTimer" "saved" "I", Cond.fieldLink RX0 48 "RetiredTimer" "taken" "I", Cond.fieldLink RX0 19 "RetiredTimer" "entries" "I", Cond.methodLink RX0 68 yX0_linesAt, Cond.instanceMethod yX0_linesAt, Cond.selects RX0 yX0_linesAt yX0_linesAt, Cond.initialized RX0, Cond.code yX0_linesAt cX0_linesAt 4 (some .int), Cond.fieldLink RX0 9 "RetiredTimer" "entryCounts" "[I", Cond.fieldLink RX0 13 "RetiredTimer" "entryLines" "[I", Cond.methodLink RX0 39 yX0_interruptDue, Cond.instanceMethod yX0_interruptDue, Cond.selects RX0 yX0_interruptDue yX0_interruptDue, Cond.code yX0_interruptDue cX0_interruptDue 1 (some .int), Cond.methodLink RX0 72 yX0_isOn, Cond.instanceMethod yX0_isOn, Cond.selects RX0 yX0_isOn yX0_isOn]
def wsX0_look_r2 : List Cond := [Cond.code yX0_isOn cX0_isOn 2 (some .boolean), Cond.methodLink RX0 76 yX0_isInMask, Cond.instanceMethod yX0_isInMask, Cond.selects RX0 yX0_isInMask yX0_isInMask, Cond.code yX0_isInMask cX0_isInMask 2 (some .boolean)]
def wsX0_look : List Cond := .code yX0_look cX0_look 2 (some .int) :: ((wsX0_look_r1 ++ wsX0_look_r2) ++ wsX00)
def wsX1_init : List Cond := .code yX1_init cX1_init 1 none :: ([.methodLink RX1 1 objectInit, .instanceMethod objectInit, .code objectInit ⟨#[0xb1]⟩ 1 none, .fieldLink RX1 7 "RetiredTimerModel" "sr" "I", .arrayClass .int, .fieldLink RX1 13 "RetiredTimerModel" "counts" "[I", .fieldLink RX1 17 "RetiredTimerModel" "values" "[I"] ++ wsX10)
def wsX1_goOn : List Cond := .code yX1_goOn cX1_goOn 1 none :: ([.fieldLink RX1 23 "RetiredTimerModel" "come" "I", .fieldLink RX1 26 "RetiredTimerModel" "entries" "I", .fieldLink RX1 13 "RetiredTimerModel" "counts" "[I", .fieldLink RX1 29 "RetiredTimerModel" "retired" "I"] ++ wsX10)
def wsX1_linesNow : List Cond := .code yX1_linesNow cX1_linesNow 1 (some .int) :: ([.fieldLink RX1 23 "RetiredTimerModel" "come" "I", .fieldLink RX1 17 "RetiredTimerModel" "values" "[I"] ++ wsX10)
def wsX1_due : List Cond := .code yX1_due cX1_due 1 (some .int) :: ([.fieldLink RX1 7 "RetiredTimerModel" "sr" "I", .fieldLink RX1 32 "RetiredTimerModel" "pending" "Z", .fieldLink RX1 40 "RetiredTimerModel" "mask" "I", .methodLink RX1 36 yX1_linesNow, .instanceMethod yX1_linesNow, .selects RX1 yX1_linesNow yX1_linesNow, .initialized RX1, .code yX1_linesNow cX1_linesNow 1 (some .int), .fieldLink RX1 23 "RetiredTimerModel" "come" "I", .fieldLink RX1 17 "RetiredTimerModel" "values" "[I"] ++ wsX10)
def wsX1_entry : List Cond := .code yX1_entry cX1_entry 3 (some .boolean) :: ([.fieldLink RX1 20 "RetiredTimerModel" "thrown" "I", .fieldLink RX1 26 "RetiredTimerModel" "entries" "I", .fieldLink RX1 13 "RetiredTimerModel" "counts" "[I", .fieldLink RX1 17 "RetiredTimerModel" "values" "[I", .methodLink RX1 43 yX1_goOn, .instanceMethod yX1_goOn, .selects RX1 yX1_goOn yX1_goOn, .initialized RX1, .code yX1_goOn cX1_goOn 1 none, .fieldLink RX1 23 "RetiredTimerModel" "come" "I", .fieldLink RX1 29 "RetiredTimerModel" "retired" "I"] ++ wsX10)
def wsX1_step : List Cond := .code yX1_step cX1_step 1 none :: ([.fieldLink RX1 29 "RetiredTimerModel" "retired" "I", .fieldLink RX1 46 "RetiredTimerModel" "counting" "Z", .fieldLink RX1 49 "RetiredTimerModel" "count" "I", .fieldLink RX1 52 "RetiredTimerModel" "period" "I", .fieldLink RX1 32 "RetiredTimerModel" "pending" "Z", .methodLink RX1 43 yX1_goOn, .instanceMethod yX1_goOn, .selects RX1 yX1_goOn yX1_goOn, .initialized RX1, .code yX1_goOn cX1_goOn 1 none, .fieldLink RX1 23 "RetiredTimerModel" "come" "I", .fieldLink RX1 26 "RetiredTimerModel" "entries" "I", .fieldLink RX1 13 "RetiredTimerModel" "counts" "[I"] ++ wsX10)
def wsX1_steps_r1 : List Cond := [Cond.fieldLink RX1 20 "RetiredTimerModel" "thrown" "I", Cond.fieldLink RX1 29 "RetiredTimerModel" "retired" "I", Cond.constant RX1 55 (2147483647), Cond.methodLink RX1 56 yX1_due, Cond.instanceMethod yX1_due, Cond.selects RX1 yX1_due yX1_due, Cond.initialized RX1, Cond.code yX1_due cX1_due 1 (some .int), Cond.fieldLink RX1 7 "RetiredTimerModel" "sr" "I", Cond.fieldLink RX1 32 "RetiredTimerModel" "pending" "Z", Cond.fieldLink RX1 40 "RetiredTimerModel" "mask" "I", Cond.methodLink RX1 36 yX1_linesNow, Cond.instanceMethod yX1_linesNow, Cond.selects RX1 yX1_linesNow yX1_linesNow, Cond.code yX1_linesNow cX1_linesNow 1 (some .int), Cond.fieldLink RX1 23 "RetiredTimerModel" "come" "I", Cond.fieldLink RX1 17 "RetiredTimerModel" "values" "[I", Cond.methodLink RX1 59 yX1_step, Cond.instanceMethod yX1_step, Cond.selects RX1 yX1_step yX1_step, Cond.code yX1_step cX1_step 1 none, Cond.fieldLink RX1 46 "RetiredTimerModel" "counting" "Z", Cond.fieldLink RX1 49 "RetiredTimerModel" "count" "I", Cond.fieldLink RX1 52 "RetiredTimerModel" "period" "I"]
def wsX1_steps_r2 : List Cond := [Cond.methodLink RX1 43 yX1_goOn, Cond.instanceMethod yX1_goOn, Cond.selects RX1 yX1_goOn yX1_goOn, Cond.code yX1_goOn cX1_goOn 1 none, Cond.fieldLink RX1 26 "RetiredTimerModel" "entries" "I", Cond.fieldLink RX1 13 "RetiredTimerModel" "counts" "[I"]
def wsX1_steps : List Cond := .code yX1_steps cX1_steps 3 (some .int) :: ((wsX1_steps_r1 ++ wsX1_steps_r2) ++ wsX10)
def wsX1_take : List Cond := .code yX1_take cX1_take 2 (some .int) :: ([.fieldLink RX1 20 "RetiredTimerModel" "thrown" "I", .fieldLink RX1 7 "RetiredTimerModel" "sr" "I", .fieldLink RX1 62 "RetiredTimerModel" "saved" "I", .fieldLink RX1 65 "RetiredTimerModel" "taken" "I", .methodLink RX1 56 yX1_due, .instanceMethod yX1_due, .selects RX1 yX1_due yX1_due, .initialized RX1, .code yX1_due cX1_due 1 (some .int), .fieldLink RX1 32 "RetiredTimerModel" "pending" "Z", .fieldLink RX1 40 "RetiredTimerModel" "mask" "I", .methodLink RX1 36 yX1_linesNow, .instanceMethod yX1_linesNow, .selects RX1 yX1_linesNow yX1_linesNow, .code yX1_linesNow cX1_linesNow 1 (some .int), .fieldLink RX1 23 "RetiredTimerModel" "come" "I", .fieldLink RX1 17 "RetiredTimerModel" "values" "[I"] ++ wsX10)
def wsX1_back : List Cond := .code yX1_back cX1_back 1 none :: ([.fieldLink RX1 20 "RetiredTimerModel" "thrown" "I", .fieldLink RX1 62 "RetiredTimerModel" "saved" "I", .fieldLink RX1 7 "RetiredTimerModel" "sr" "I"] ++ wsX10)
def wsJ9_min_f86c9 : List Cond := .code yJ9_min_f86c9 cJ9_min_f86c9 4 (some .long) :: ([])
def wsL_law_r1 : List Cond := [Cond.classLink RL 7 RX0, Cond.instantiable RX0 12, Cond.initialized RX0, Cond.classLink RL 10 RX1, Cond.instantiable RX1 14, Cond.initialized RX1, Cond.methodLink RL 9 yX0_init, Cond.instanceMethod yX0_init, Cond.code yX0_init cX0_init 1 none, Cond.methodLink RX0 3 objectInit, Cond.instanceMethod objectInit, Cond.code objectInit ⟨#[0xb1]⟩ 1 none, Cond.arrayClass .int, Cond.fieldLink RX0 9 "RetiredTimer" "entryCounts" "[I", Cond.fieldLink RX0 13 "RetiredTimer" "entryLines" "[I", Cond.methodLink RX0 16 yX0_setAllAsAtFirst, Cond.instanceMethod yX0_setAllAsAtFirst, Cond.selects RX0 yX0_setAllAsAtFirst yX0_setAllAsAtFirst, Cond.code yX0_setAllAsAtFirst cX0_setAllAsAtFirst 1 none, Cond.fieldLink RX0 19 "RetiredTimer" "entries" "I", Cond.fieldLink RX0 28 "RetiredTimer" "retired" "I", Cond.fieldLink RX0 65 "RetiredTimer" "count" "I", Cond.fieldLink RX0 55 "RetiredTimer" "period" "I", Cond.fieldLink RX0 58 "RetiredTimer" "counting" "Z"]
def wsL_law_r2 : List Cond := [Cond.fieldLink RX0 62 "RetiredTimer" "pending" "Z", Cond.fieldLink RX0 51 "RetiredTimer" "mask" "I", Cond.fieldLink RX0 42 "RetiredTimer" "sr" "I", Cond.fieldLink RX0 45 "RetiredTimer" "saved" "I", Cond.fieldLink RX0 48 "RetiredTimer" "taken" "I", Cond.methodLink RL 12 yX1_init, Cond.instanceMethod yX1_init, Cond.code yX1_init cX1_init 1 none, Cond.methodLink RX1 1 objectInit, Cond.fieldLink RX1 7 "RetiredTimerModel" "sr" "I", Cond.fieldLink RX1 13 "RetiredTimerModel" "counts" "[I", Cond.fieldLink RX1 17 "RetiredTimerModel" "values" "[I", Cond.methodLink RL 13 yX0_entry, Cond.instanceMethod yX0_entry, Cond.selects RX0 yX0_entry yX0_entry, Cond.code yX0_entry cX0_entry 3 (some .boolean), Cond.methodLink RX0 23 yX0_lastEntryCount, Cond.instanceMethod yX0_lastEntryCount, Cond.selects RX0 yX0_lastEntryCount yX0_lastEntryCount, Cond.code yX0_lastEntryCount cX0_lastEntryCount 1 (some .int), Cond.methodLink RL 17 yX1_entry, Cond.instanceMethod yX1_entry, Cond.selects RX1 yX1_entry yX1_entry, Cond.code yX1_entry cX1_entry 3 (some .boolean)]
def wsL_law_r3 : List Cond := [Cond.fieldLink RX1 20 "RetiredTimerModel" "thrown" "I", Cond.fieldLink RX1 26 "RetiredTimerModel" "entries" "I", Cond.methodLink RX1 43 yX1_goOn, Cond.instanceMethod yX1_goOn, Cond.selects RX1 yX1_goOn yX1_goOn, Cond.code yX1_goOn cX1_goOn 1 none, Cond.fieldLink RX1 23 "RetiredTimerModel" "come" "I", Cond.fieldLink RX1 29 "RetiredTimerModel" "retired" "I", Cond.methodLink RL 18 yX0_steps, Cond.instanceMethod yX0_steps, Cond.selects RX0 yX0_steps yX0_steps, Cond.code yX0_steps cX0_steps 5 (some .int), Cond.constant RX0 27 (2147483647), Cond.methodLink RX0 31 yX0_distanceToInterrupt, Cond.instanceMethod yX0_distanceToInterrupt, Cond.selects RX0 yX0_distanceToInterrupt yX0_distanceToInterrupt, Cond.code yX0_distanceToInterrupt cX0_distanceToInterrupt 1 (some .long), Cond.methodLink RX0 85 Lib.MathLoose.min_long.x, Cond.static Lib.MathLoose.min_long.x, Cond.initialized "java/lang/Math", Cond.code Lib.MathLoose.min_long.x Lib.MathLoose.min_long.code 4 (some .long), Cond.methodLink RX0 39 yX0_interruptDue, Cond.instanceMethod yX0_interruptDue, Cond.selects RX0 yX0_interruptDue yX0_interruptDue]
def wsL_law_r4 : List Cond := [Cond.code yX0_interruptDue cX0_interruptDue 1 (some .int), Cond.methodLink RX0 72 yX0_isOn, Cond.instanceMethod yX0_isOn, Cond.selects RX0 yX0_isOn yX0_isOn, Cond.code yX0_isOn cX0_isOn 2 (some .boolean), Cond.methodLink RX0 68 yX0_linesAt, Cond.instanceMethod yX0_linesAt, Cond.selects RX0 yX0_linesAt yX0_linesAt, Cond.code yX0_linesAt cX0_linesAt 4 (some .int), Cond.methodLink RX0 76 yX0_isInMask, Cond.instanceMethod yX0_isInMask, Cond.selects RX0 yX0_isInMask yX0_isInMask, Cond.code yX0_isInMask cX0_isInMask 2 (some .boolean), Cond.methodLink RX0 79 yX0_distanceToTimer, Cond.instanceMethod yX0_distanceToTimer, Cond.selects RX0 yX0_distanceToTimer yX0_distanceToTimer, Cond.code yX0_distanceToTimer cX0_distanceToTimer 1 (some .long), Cond.constantLong RX0 94 (1099511627776), Cond.methodLink RX0 91 yX0_distanceToPeriod, Cond.instanceMethod yX0_distanceToPeriod, Cond.selects RX0 yX0_distanceToPeriod yX0_distanceToPeriod, Cond.code yX0_distanceToPeriod cX0_distanceToPeriod 3 (some .long), Cond.constantLong RX0 96 (4294967295), Cond.constantLong RX0 98 (4294967296)]
def wsL_law_r5 : List Cond := [Cond.methodLink RX0 82 yX0_distanceToLines, Cond.instanceMethod yX0_distanceToLines, Cond.selects RX0 yX0_distanceToLines yX0_distanceToLines, Cond.code yX0_distanceToLines cX0_distanceToLines 2 (some .long), Cond.methodLink RX0 35 yX0_advance, Cond.instanceMethod yX0_advance, Cond.selects RX0 yX0_advance yX0_advance, Cond.code yX0_advance cX0_advance 2 none, Cond.methodLink RX0 100 yX0_advanceCount, Cond.instanceMethod yX0_advanceCount, Cond.selects RX0 yX0_advanceCount yX0_advanceCount, Cond.code yX0_advanceCount cX0_advanceCount 5 none, Cond.methodLink RL 22 yX1_steps, Cond.instanceMethod yX1_steps, Cond.selects RX1 yX1_steps yX1_steps, Cond.code yX1_steps cX1_steps 3 (some .int), Cond.constant RX1 55 (2147483647), Cond.methodLink RX1 56 yX1_due, Cond.instanceMethod yX1_due, Cond.selects RX1 yX1_due yX1_due, Cond.code yX1_due cX1_due 1 (some .int), Cond.fieldLink RX1 32 "RetiredTimerModel" "pending" "Z", Cond.fieldLink RX1 40 "RetiredTimerModel" "mask" "I", Cond.methodLink RX1 36 yX1_linesNow]
def wsL_law_r6 : List Cond := [Cond.instanceMethod yX1_linesNow, Cond.selects RX1 yX1_linesNow yX1_linesNow, Cond.code yX1_linesNow cX1_linesNow 1 (some .int), Cond.methodLink RX1 59 yX1_step, Cond.instanceMethod yX1_step, Cond.selects RX1 yX1_step yX1_step, Cond.code yX1_step cX1_step 1 none, Cond.fieldLink RX1 46 "RetiredTimerModel" "counting" "Z", Cond.fieldLink RX1 49 "RetiredTimerModel" "count" "I", Cond.fieldLink RX1 52 "RetiredTimerModel" "period" "I", Cond.methodLink RL 23 yX0_take, Cond.instanceMethod yX0_take, Cond.selects RX0 yX0_take yX0_take, Cond.code yX0_take cX0_take 2 (some .int), Cond.methodLink RL 27 yX1_take, Cond.instanceMethod yX1_take, Cond.selects RX1 yX1_take yX1_take, Cond.code yX1_take cX1_take 2 (some .int), Cond.fieldLink RX1 62 "RetiredTimerModel" "saved" "I", Cond.fieldLink RX1 65 "RetiredTimerModel" "taken" "I", Cond.methodLink RL 28 yX0_back, Cond.instanceMethod yX0_back, Cond.selects RX0 yX0_back yX0_back, Cond.code yX0_back cX0_back 1 none]
def wsL_law_r7 : List Cond := [Cond.methodLink RL 31 yX1_back, Cond.instanceMethod yX1_back, Cond.selects RX1 yX1_back yX1_back, Cond.code yX1_back cX1_back 1 none, Cond.methodLink RL 32 yX0_mode, Cond.instanceMethod yX0_mode, Cond.selects RX0 yX0_mode yX0_mode, Cond.code yX0_mode cX0_mode 2 none, Cond.methodLink RL 37 yX0_mask, Cond.instanceMethod yX0_mask, Cond.selects RX0 yX0_mask yX0_mask, Cond.code yX0_mask cX0_mask 2 none, Cond.methodLink RL 41 yX0_timer, Cond.instanceMethod yX0_timer, Cond.selects RX0 yX0_timer yX0_timer, Cond.code yX0_timer cX0_timer 4 none, Cond.constant RX0 54 (268435455), Cond.methodLink RL 46 yX0_count, Cond.instanceMethod yX0_count, Cond.selects RX0 yX0_count yX0_count, Cond.code yX0_count cX0_count 2 none, Cond.methodLink RL 50 yX0_reset, Cond.instanceMethod yX0_reset, Cond.selects RX0 yX0_reset yX0_reset]
def wsL_law_r8 : List Cond := [Cond.code yX0_reset cX0_reset 1 none, Cond.methodLink RL 54 yX0_until, Cond.instanceMethod yX0_until, Cond.selects RX0 yX0_until yX0_until, Cond.code yX0_until cX0_until 3 (some .int), Cond.methodLink RL 58 yX0_linesAt, Cond.methodLink RL 62 yX0_entryOf, Cond.instanceMethod yX0_entryOf, Cond.selects RX0 yX0_entryOf yX0_entryOf, Cond.code yX0_entryOf cX0_entryOf 3 (some .int), Cond.methodLink RL 67 yX0_look, Cond.instanceMethod yX0_look, Cond.selects RX0 yX0_look yX0_look, Cond.code yX0_look cX0_look 2 (some .int)]
def wsL_law : List Cond := (wsL_law_r1 ++ (wsL_law_r2 ++ (wsL_law_r3 ++ (wsL_law_r4 ++ (wsL_law_r5 ++ (wsL_law_r6 ++ (wsL_law_r7 ++ wsL_law_r8))))))) ++ wsX00 ++ wsX10 ++ ([] : List Cond)
set_option maxRecDepth 20000 in
theorem wsL_law_in : ∀ w ∈ wsL_law, w ∈ lw_tbl := fun w h => (goodIn_p wsL_law [23, 26, 30, 174, 72, 76, 222, 226, 80, 85, 119, 89, 93, 97, 101, 105, 109, 116, 123, 127, 230, 235, 239, 243, 131, 247, 135, 251, 139, 143, 147, 152, 156, 160, 165, 169] (by decide +kernel) (by decide +kernel) w h).1
theorem inlX0 : ∀ w ∈ wsX00, w ∈ wsL_law := fun _ h => List.mem_append_left _ (List.mem_append_left _ (List.mem_append_right _ h))
theorem inX0 : ∀ w ∈ wsX00, w ∈ lw_tbl := fun w h => wsL_law_in w (inlX0 w h)
theorem inlX1 : ∀ w ∈ wsX10, w ∈ wsL_law := fun _ h => List.mem_append_left _ (List.mem_append_right _ h)
theorem inX1 : ∀ w ∈ wsX10, w ∈ lw_tbl := fun w h => wsL_law_in w (inlX1 w h)
theorem inJ9 : ∀ w ∈ wsJ90, w ∈ lw_tbl := by decide +kernel
set_option maxRecDepth 20000 in
theorem ggX0_init_X0_setAllAsAtFirst : GoodIn wsX0_init wsX0_setAllAsAtFirst := goodIn_r _ [11, 12, 13, 14, 15, 16, 17, 18, 19, 20, 21, 22, 23, 24, 25, 26, 27, 28, 29, 30, 31, 32, 33] (by decide +kernel) (by decide +kernel)
set_option maxRecDepth 20000 in
theorem gX0_init_X0_setAllAsAtFirst : GoodIn wsX0_init (wsV RX0 16 RX0 yX0_setAllAsAtFirst wsX0_setAllAsAtFirst) := goodIn_app (goodIn_of _ (by decide +kernel)) ggX0_init_X0_setAllAsAtFirst
theorem dX0_init_0 : decode cX0_init 0 = .ok (.aload_n 0, 1) := by decide +kernel
theorem dX0_init_1 : decode cX0_init 1 = .ok (.invokespecial 3, 3) := by decide +kernel
theorem dX0_init_4 : decode cX0_init 4 = .ok (.aload_n 0, 1) := by decide +kernel
theorem dX0_init_5 : decode cX0_init 5 = .ok (.bipush 32, 2) := by decide +kernel
theorem dX0_init_7 : decode cX0_init 7 = .ok (.newarray .int, 2) := by decide +kernel
theorem dX0_init_9 : decode cX0_init 9 = .ok (.putfield 9, 3) := by decide +kernel
theorem dX0_init_12 : decode cX0_init 12 = .ok (.aload_n 0, 1) := by decide +kernel
theorem dX0_init_13 : decode cX0_init 13 = .ok (.bipush 32, 2) := by decide +kernel
theorem dX0_init_15 : decode cX0_init 15 = .ok (.newarray .int, 2) := by decide +kernel
theorem dX0_init_17 : decode cX0_init 17 = .ok (.putfield 13, 3) := by decide +kernel
theorem dX0_init_20 : decode cX0_init 20 = .ok (.aload_n 0, 1) := by decide +kernel
theorem dX0_init_21 : decode cX0_init 21 = .ok (.invokevirtual 16, 3) := by decide +kernel
theorem dX0_init_24 : decode cX0_init 24 = .ok (.return_, 1) := by decide +kernel
set_option maxRecDepth 20000 in
theorem ggX0_entry_X0_lastEntryCount : GoodIn wsX0_entry wsX0_lastEntryCount := goodIn_r _ [8, 1, 2, 9, 10, 11, 12, 13, 14, 15, 16, 17, 18, 19, 20] (by decide +kernel) (by decide +kernel)
set_option maxRecDepth 20000 in
theorem gX0_entry_X0_lastEntryCount : GoodIn wsX0_entry (wsV RX0 23 RX0 yX0_lastEntryCount wsX0_lastEntryCount) := goodIn_app (goodIn_of _ (by decide +kernel)) ggX0_entry_X0_lastEntryCount
theorem dX0_entry_0 : decode cX0_entry 0 = .ok (.aload_n 0, 1) := by decide +kernel
theorem dX0_entry_1 : decode cX0_entry 1 = .ok (.getfield 19, 3) := by decide +kernel
theorem dX0_entry_4 : decode cX0_entry 4 = .ok (.bipush 32, 2) := by decide +kernel
theorem dX0_entry_6 : decode cX0_entry 6 = .ok (.if_icmp .ge 11, 3) := by decide +kernel
theorem dX0_entry_9 : decode cX0_entry 9 = .ok (.iload_n 1, 1) := by decide +kernel
theorem dX0_entry_10 : decode cX0_entry 10 = .ok (.aload_n 0, 1) := by decide +kernel
theorem dX0_entry_11 : decode cX0_entry 11 = .ok (.invokevirtual 23, 3) := by decide +kernel
theorem dX0_entry_14 : decode cX0_entry 14 = .ok (.if_icmp .gt 5, 3) := by decide +kernel
theorem dX0_entry_17 : decode cX0_entry 17 = .ok (.iconst 0, 1) := by decide +kernel
theorem dX0_entry_18 : decode cX0_entry 18 = .ok (.ireturn, 1) := by decide +kernel
theorem dX0_entry_19 : decode cX0_entry 19 = .ok (.aload_n 0, 1) := by decide +kernel
theorem dX0_entry_20 : decode cX0_entry 20 = .ok (.getfield 9, 3) := by decide +kernel
theorem dX0_entry_23 : decode cX0_entry 23 = .ok (.aload_n 0, 1) := by decide +kernel
theorem dX0_entry_24 : decode cX0_entry 24 = .ok (.getfield 19, 3) := by decide +kernel
theorem dX0_entry_27 : decode cX0_entry 27 = .ok (.iload_n 1, 1) := by decide +kernel
theorem dX0_entry_28 : decode cX0_entry 28 = .ok (.iastore, 1) := by decide +kernel
theorem dX0_entry_29 : decode cX0_entry 29 = .ok (.aload_n 0, 1) := by decide +kernel
theorem dX0_entry_30 : decode cX0_entry 30 = .ok (.getfield 13, 3) := by decide +kernel
theorem dX0_entry_33 : decode cX0_entry 33 = .ok (.aload_n 0, 1) := by decide +kernel
theorem dX0_entry_34 : decode cX0_entry 34 = .ok (.getfield 19, 3) := by decide +kernel
theorem dX0_entry_37 : decode cX0_entry 37 = .ok (.iload_n 2, 1) := by decide +kernel
theorem dX0_entry_38 : decode cX0_entry 38 = .ok (.iastore, 1) := by decide +kernel
theorem dX0_entry_39 : decode cX0_entry 39 = .ok (.aload_n 0, 1) := by decide +kernel
theorem dX0_entry_40 : decode cX0_entry 40 = .ok (.dup, 1) := by decide +kernel
theorem dX0_entry_41 : decode cX0_entry 41 = .ok (.getfield 19, 3) := by decide +kernel
theorem dX0_entry_44 : decode cX0_entry 44 = .ok (.iconst 1, 1) := by decide +kernel
theorem dX0_entry_45 : decode cX0_entry 45 = .ok (.iadd, 1) := by decide +kernel
theorem dX0_entry_46 : decode cX0_entry 46 = .ok (.putfield 19, 3) := by decide +kernel
theorem dX0_entry_49 : decode cX0_entry 49 = .ok (.iconst 1, 1) := by decide +kernel
theorem dX0_entry_50 : decode cX0_entry 50 = .ok (.ireturn, 1) := by decide +kernel
set_option maxRecDepth 20000 in
theorem ggX0_steps_X0_distanceToInterrupt : GoodIn wsX0_steps wsX0_distanceToInterrupt := goodIn_r _ [7, 8, 9, 10, 11, 12, 13, 14, 6, 15, 16, 2, 17, 18, 19, 20, 21, 22, 23, 24, 25, 26, 27, 28, 29, 30, 31, 32, 33, 34, 35, 36, 37, 38, 39, 40, 41, 42, 43, 44, 45, 46, 47, 48, 49, 50, 51, 60, 61, 62, 63, 64, 65, 66, 67, 68, 69, 70, 71] (by decide +kernel) (by decide +kernel)
set_option maxRecDepth 20000 in
theorem gX0_steps_X0_distanceToInterrupt : GoodIn wsX0_steps (wsV RX0 31 RX0 yX0_distanceToInterrupt wsX0_distanceToInterrupt) := goodIn_app (goodIn_of _ (by decide +kernel)) ggX0_steps_X0_distanceToInterrupt
set_option maxRecDepth 20000 in
theorem ggX0_steps_X0_advance : GoodIn wsX0_steps wsX0_advance := goodIn_r _ [55, 2, 38, 56, 57, 58, 6, 59, 45, 16, 44, 40, 41, 42, 43, 46, 47, 60, 61, 62, 63, 64, 65, 66, 67, 68, 69, 70, 71] (by decide +kernel) (by decide +kernel)
set_option maxRecDepth 20000 in
theorem gX0_steps_X0_advance : GoodIn wsX0_steps (wsV RX0 35 RX0 yX0_advance wsX0_advance) := goodIn_app (goodIn_of _ (by decide +kernel)) ggX0_steps_X0_advance
theorem dX0_steps_0 : decode cX0_steps 0 = .ok (.iload_n 1, 1) := by decide +kernel
theorem dX0_steps_1 : decode cX0_steps 1 = .ok (.iconst 1, 1) := by decide +kernel
theorem dX0_steps_2 : decode cX0_steps 2 = .ok (.if_icmp .lt 21, 3) := by decide +kernel
theorem dX0_steps_5 : decode cX0_steps 5 = .ok (.iload_n 1, 1) := by decide +kernel
theorem dX0_steps_6 : decode cX0_steps 6 = .ok (.sipush 20000, 3) := by decide +kernel
theorem dX0_steps_9 : decode cX0_steps 9 = .ok (.if_icmp .gt 14, 3) := by decide +kernel
theorem dX0_steps_12 : decode cX0_steps 12 = .ok (.iload_n 1, 1) := by decide +kernel
theorem dX0_steps_13 : decode cX0_steps 13 = .ok (.ldc 27, 2) := by decide +kernel
theorem dX0_steps_15 : decode cX0_steps 15 = .ok (.aload_n 0, 1) := by decide +kernel
theorem dX0_steps_16 : decode cX0_steps 16 = .ok (.getfield 28, 3) := by decide +kernel
theorem dX0_steps_19 : decode cX0_steps 19 = .ok (.isub, 1) := by decide +kernel
theorem dX0_steps_20 : decode cX0_steps 20 = .ok (.if_icmp .le 5, 3) := by decide +kernel
theorem dX0_steps_23 : decode cX0_steps 23 = .ok (.iconst (-1), 1) := by decide +kernel
theorem dX0_steps_24 : decode cX0_steps 24 = .ok (.ireturn, 1) := by decide +kernel
theorem dX0_steps_25 : decode cX0_steps 25 = .ok (.aload_n 0, 1) := by decide +kernel
theorem dX0_steps_26 : decode cX0_steps 26 = .ok (.invokevirtual 31, 3) := by decide +kernel
theorem dX0_steps_29 : decode cX0_steps 29 = .ok (.lstore_n 2, 1) := by decide +kernel
theorem dX0_steps_30 : decode cX0_steps 30 = .ok (.lload_n 2, 1) := by decide +kernel
theorem dX0_steps_31 : decode cX0_steps 31 = .ok (.iload_n 1, 1) := by decide +kernel
theorem dX0_steps_32 : decode cX0_steps 32 = .ok (.i2l, 1) := by decide +kernel
theorem dX0_steps_33 : decode cX0_steps 33 = .ok (.lcmp, 1) := by decide +kernel
theorem dX0_steps_34 : decode cX0_steps 34 = .ok (.ifCond .ge 8, 3) := by decide +kernel
theorem dX0_steps_37 : decode cX0_steps 37 = .ok (.lload_n 2, 1) := by decide +kernel
theorem dX0_steps_38 : decode cX0_steps 38 = .ok (.l2i, 1) := by decide +kernel
theorem dX0_steps_39 : decode cX0_steps 39 = .ok (.goto 4, 3) := by decide +kernel
theorem dX0_steps_42 : decode cX0_steps 42 = .ok (.iload_n 1, 1) := by decide +kernel
theorem dX0_steps_43 : decode cX0_steps 43 = .ok (.istore 4, 2) := by decide +kernel
theorem dX0_steps_45 : decode cX0_steps 45 = .ok (.aload_n 0, 1) := by decide +kernel
theorem dX0_steps_46 : decode cX0_steps 46 = .ok (.iload 4, 2) := by decide +kernel
theorem dX0_steps_48 : decode cX0_steps 48 = .ok (.invokevirtual 35, 3) := by decide +kernel
theorem dX0_steps_51 : decode cX0_steps 51 = .ok (.iload 4, 2) := by decide +kernel
theorem dX0_steps_53 : decode cX0_steps 53 = .ok (.ireturn, 1) := by decide +kernel
set_option maxRecDepth 20000 in
theorem ggX0_take_X0_interruptDue : GoodIn wsX0_take wsX0_interruptDue := goodIn_r _ [8, 9, 10, 11, 12, 13, 7, 14, 1, 15, 16, 17, 18, 19, 20, 21, 22, 23, 24, 25, 26, 27, 28, 29, 30, 31, 32, 33, 34, 35, 36, 37, 38] (by decide +kernel) (by decide +kernel)
set_option maxRecDepth 20000 in
theorem gX0_take_X0_interruptDue : GoodIn wsX0_take (wsV RX0 39 RX0 yX0_interruptDue wsX0_interruptDue) := goodIn_app (goodIn_of _ (by decide +kernel)) ggX0_take_X0_interruptDue
theorem dX0_take_0 : decode cX0_take 0 = .ok (.aload_n 0, 1) := by decide +kernel
theorem dX0_take_1 : decode cX0_take 1 = .ok (.invokevirtual 39, 3) := by decide +kernel
theorem dX0_take_4 : decode cX0_take 4 = .ok (.istore_n 1, 1) := by decide +kernel
theorem dX0_take_5 : decode cX0_take 5 = .ok (.iload_n 1, 1) := by decide +kernel
theorem dX0_take_6 : decode cX0_take 6 = .ok (.ifCond .eq 34, 3) := by decide +kernel
theorem dX0_take_9 : decode cX0_take 9 = .ok (.aload_n 0, 1) := by decide +kernel
theorem dX0_take_10 : decode cX0_take 10 = .ok (.aload_n 0, 1) := by decide +kernel
theorem dX0_take_11 : decode cX0_take 11 = .ok (.getfield 42, 3) := by decide +kernel
theorem dX0_take_14 : decode cX0_take 14 = .ok (.putfield 45, 3) := by decide +kernel
theorem dX0_take_17 : decode cX0_take 17 = .ok (.aload_n 0, 1) := by decide +kernel
theorem dX0_take_18 : decode cX0_take 18 = .ok (.aload_n 0, 1) := by decide +kernel
theorem dX0_take_19 : decode cX0_take 19 = .ok (.getfield 42, 3) := by decide +kernel
theorem dX0_take_22 : decode cX0_take 22 = .ok (.bipush 32, 2) := by decide +kernel
theorem dX0_take_24 : decode cX0_take 24 = .ok (.iand, 1) := by decide +kernel
theorem dX0_take_25 : decode cX0_take 25 = .ok (.iconst 1, 1) := by decide +kernel
theorem dX0_take_26 : decode cX0_take 26 = .ok (.ior, 1) := by decide +kernel
theorem dX0_take_27 : decode cX0_take 27 = .ok (.putfield 42, 3) := by decide +kernel
theorem dX0_take_30 : decode cX0_take 30 = .ok (.aload_n 0, 1) := by decide +kernel
theorem dX0_take_31 : decode cX0_take 31 = .ok (.dup, 1) := by decide +kernel
theorem dX0_take_32 : decode cX0_take 32 = .ok (.getfield 48, 3) := by decide +kernel
theorem dX0_take_35 : decode cX0_take 35 = .ok (.iconst 1, 1) := by decide +kernel
theorem dX0_take_36 : decode cX0_take 36 = .ok (.iadd, 1) := by decide +kernel
theorem dX0_take_37 : decode cX0_take 37 = .ok (.putfield 48, 3) := by decide +kernel
theorem dX0_take_40 : decode cX0_take 40 = .ok (.iload_n 1, 1) := by decide +kernel
theorem dX0_take_41 : decode cX0_take 41 = .ok (.ireturn, 1) := by decide +kernel
theorem dX0_back_0 : decode cX0_back 0 = .ok (.aload_n 0, 1) := by decide +kernel
theorem dX0_back_1 : decode cX0_back 1 = .ok (.aload_n 0, 1) := by decide +kernel
theorem dX0_back_2 : decode cX0_back 2 = .ok (.getfield 45, 3) := by decide +kernel
theorem dX0_back_5 : decode cX0_back 5 = .ok (.putfield 42, 3) := by decide +kernel
theorem dX0_back_8 : decode cX0_back 8 = .ok (.return_, 1) := by decide +kernel
theorem dX0_mode_0 : decode cX0_mode 0 = .ok (.aload_n 0, 1) := by decide +kernel
theorem dX0_mode_1 : decode cX0_mode 1 = .ok (.iload_n 1, 1) := by decide +kernel
theorem dX0_mode_2 : decode cX0_mode 2 = .ok (.bipush 39, 2) := by decide +kernel
theorem dX0_mode_4 : decode cX0_mode 4 = .ok (.iand, 1) := by decide +kernel
theorem dX0_mode_5 : decode cX0_mode 5 = .ok (.putfield 42, 3) := by decide +kernel
theorem dX0_mode_8 : decode cX0_mode 8 = .ok (.return_, 1) := by decide +kernel
theorem dX0_mask_0 : decode cX0_mask 0 = .ok (.aload_n 0, 1) := by decide +kernel
theorem dX0_mask_1 : decode cX0_mask 1 = .ok (.iload_n 1, 1) := by decide +kernel
theorem dX0_mask_2 : decode cX0_mask 2 = .ok (.putfield 51, 3) := by decide +kernel
theorem dX0_mask_5 : decode cX0_mask 5 = .ok (.return_, 1) := by decide +kernel
theorem dX0_timer_0 : decode cX0_timer 0 = .ok (.aload_n 0, 1) := by decide +kernel
theorem dX0_timer_1 : decode cX0_timer 1 = .ok (.iload_n 1, 1) := by decide +kernel
theorem dX0_timer_2 : decode cX0_timer 2 = .ok (.ldc 54, 2) := by decide +kernel
theorem dX0_timer_4 : decode cX0_timer 4 = .ok (.iand, 1) := by decide +kernel
theorem dX0_timer_5 : decode cX0_timer 5 = .ok (.putfield 55, 3) := by decide +kernel
theorem dX0_timer_8 : decode cX0_timer 8 = .ok (.aload_n 0, 1) := by decide +kernel
theorem dX0_timer_9 : decode cX0_timer 9 = .ok (.iload_n 2, 1) := by decide +kernel
theorem dX0_timer_10 : decode cX0_timer 10 = .ok (.putfield 58, 3) := by decide +kernel
theorem dX0_timer_13 : decode cX0_timer 13 = .ok (.aload_n 0, 1) := by decide +kernel
theorem dX0_timer_14 : decode cX0_timer 14 = .ok (.iload_n 3, 1) := by decide +kernel
theorem dX0_timer_15 : decode cX0_timer 15 = .ok (.putfield 62, 3) := by decide +kernel
theorem dX0_timer_18 : decode cX0_timer 18 = .ok (.return_, 1) := by decide +kernel
theorem dX0_count_0 : decode cX0_count 0 = .ok (.aload_n 0, 1) := by decide +kernel
theorem dX0_count_1 : decode cX0_count 1 = .ok (.iload_n 1, 1) := by decide +kernel
theorem dX0_count_2 : decode cX0_count 2 = .ok (.putfield 65, 3) := by decide +kernel
theorem dX0_count_5 : decode cX0_count 5 = .ok (.return_, 1) := by decide +kernel
set_option maxRecDepth 20000 in
theorem ggX0_reset_X0_setAllAsAtFirst : GoodIn wsX0_reset wsX0_setAllAsAtFirst := goodIn_r _ [5, 6, 7, 8, 9, 10, 11, 12, 13, 14, 15, 16, 17, 18, 19, 20, 21, 22, 23, 24, 25, 26, 27] (by decide +kernel) (by decide +kernel)
set_option maxRecDepth 20000 in
theorem gX0_reset_X0_setAllAsAtFirst : GoodIn wsX0_reset (wsV RX0 16 RX0 yX0_setAllAsAtFirst wsX0_setAllAsAtFirst) := goodIn_app (goodIn_of _ (by decide +kernel)) ggX0_reset_X0_setAllAsAtFirst
theorem dX0_reset_0 : decode cX0_reset 0 = .ok (.aload_n 0, 1) := by decide +kernel
theorem dX0_reset_1 : decode cX0_reset 1 = .ok (.invokevirtual 16, 3) := by decide +kernel
theorem dX0_reset_4 : decode cX0_reset 4 = .ok (.return_, 1) := by decide +kernel
set_option maxRecDepth 20000 in
theorem ggX0_until_X0_distanceToInterrupt : GoodIn wsX0_until wsX0_distanceToInterrupt := goodIn_r _ [7, 8, 9, 10, 11, 12, 13, 14, 6, 15, 16, 2, 17, 18, 19, 20, 21, 22, 23, 24, 25, 26, 27, 28, 29, 30, 31, 32, 33, 34, 35, 36, 37, 38, 39, 40, 41, 42, 43, 44, 45, 46, 47, 48, 49, 50, 51, 52, 53, 54, 55, 56, 57, 58, 59, 60, 61, 62, 63] (by decide +kernel) (by decide +kernel)
set_option maxRecDepth 20000 in
theorem gX0_until_X0_distanceToInterrupt : GoodIn wsX0_until (wsV RX0 31 RX0 yX0_distanceToInterrupt wsX0_distanceToInterrupt) := goodIn_app (goodIn_of _ (by decide +kernel)) ggX0_until_X0_distanceToInterrupt
theorem dX0_until_0 : decode cX0_until 0 = .ok (.aload_n 0, 1) := by decide +kernel
theorem dX0_until_1 : decode cX0_until 1 = .ok (.invokevirtual 31, 3) := by decide +kernel
theorem dX0_until_4 : decode cX0_until 4 = .ok (.lstore_n 1, 1) := by decide +kernel
theorem dX0_until_5 : decode cX0_until 5 = .ok (.lload_n 1, 1) := by decide +kernel
theorem dX0_until_6 : decode cX0_until 6 = .ok (.ldc 27, 2) := by decide +kernel
theorem dX0_until_8 : decode cX0_until 8 = .ok (.aload_n 0, 1) := by decide +kernel
theorem dX0_until_9 : decode cX0_until 9 = .ok (.getfield 28, 3) := by decide +kernel
theorem dX0_until_12 : decode cX0_until 12 = .ok (.isub, 1) := by decide +kernel
theorem dX0_until_13 : decode cX0_until 13 = .ok (.i2l, 1) := by decide +kernel
theorem dX0_until_14 : decode cX0_until 14 = .ok (.lcmp, 1) := by decide +kernel
theorem dX0_until_15 : decode cX0_until 15 = .ok (.ifCond .gt 8, 3) := by decide +kernel
theorem dX0_until_18 : decode cX0_until 18 = .ok (.lload_n 1, 1) := by decide +kernel
theorem dX0_until_19 : decode cX0_until 19 = .ok (.l2i, 1) := by decide +kernel
theorem dX0_until_20 : decode cX0_until 20 = .ok (.goto 4, 3) := by decide +kernel
theorem dX0_until_23 : decode cX0_until 23 = .ok (.iconst (-1), 1) := by decide +kernel
theorem dX0_until_24 : decode cX0_until 24 = .ok (.ireturn, 1) := by decide +kernel
theorem dX0_linesAt_0 : decode cX0_linesAt 0 = .ok (.iconst 0, 1) := by decide +kernel
theorem dX0_linesAt_1 : decode cX0_linesAt 1 = .ok (.istore_n 2, 1) := by decide +kernel
theorem dX0_linesAt_2 : decode cX0_linesAt 2 = .ok (.iconst 0, 1) := by decide +kernel
theorem dX0_linesAt_3 : decode cX0_linesAt 3 = .ok (.istore_n 3, 1) := by decide +kernel
theorem dX0_linesAt_4 : decode cX0_linesAt 4 = .ok (.iload_n 3, 1) := by decide +kernel
theorem dX0_linesAt_5 : decode cX0_linesAt 5 = .ok (.aload_n 0, 1) := by decide +kernel
theorem dX0_linesAt_6 : decode cX0_linesAt 6 = .ok (.getfield 19, 3) := by decide +kernel
theorem dX0_linesAt_9 : decode cX0_linesAt 9 = .ok (.if_icmp .ge 32, 3) := by decide +kernel
theorem dX0_linesAt_12 : decode cX0_linesAt 12 = .ok (.iload_n 3, 1) := by decide +kernel
theorem dX0_linesAt_13 : decode cX0_linesAt 13 = .ok (.bipush 32, 2) := by decide +kernel
theorem dX0_linesAt_15 : decode cX0_linesAt 15 = .ok (.if_icmp .ge 26, 3) := by decide +kernel
theorem dX0_linesAt_18 : decode cX0_linesAt 18 = .ok (.aload_n 0, 1) := by decide +kernel
theorem dX0_linesAt_19 : decode cX0_linesAt 19 = .ok (.getfield 9, 3) := by decide +kernel
theorem dX0_linesAt_22 : decode cX0_linesAt 22 = .ok (.iload_n 3, 1) := by decide +kernel
theorem dX0_linesAt_23 : decode cX0_linesAt 23 = .ok (.iaload, 1) := by decide +kernel
theorem dX0_linesAt_24 : decode cX0_linesAt 24 = .ok (.iload_n 1, 1) := by decide +kernel
theorem dX0_linesAt_25 : decode cX0_linesAt 25 = .ok (.if_icmp .gt 10, 3) := by decide +kernel
theorem dX0_linesAt_28 : decode cX0_linesAt 28 = .ok (.aload_n 0, 1) := by decide +kernel
theorem dX0_linesAt_29 : decode cX0_linesAt 29 = .ok (.getfield 13, 3) := by decide +kernel
theorem dX0_linesAt_32 : decode cX0_linesAt 32 = .ok (.iload_n 3, 1) := by decide +kernel
theorem dX0_linesAt_33 : decode cX0_linesAt 33 = .ok (.iaload, 1) := by decide +kernel
theorem dX0_linesAt_34 : decode cX0_linesAt 34 = .ok (.istore_n 2, 1) := by decide +kernel
theorem dX0_linesAt_35 : decode cX0_linesAt 35 = .ok (.iinc 3 1, 3) := by decide +kernel
theorem dX0_linesAt_38 : decode cX0_linesAt 38 = .ok (.goto (-34), 3) := by decide +kernel
theorem dX0_linesAt_41 : decode cX0_linesAt 41 = .ok (.iload_n 2, 1) := by decide +kernel
theorem dX0_linesAt_42 : decode cX0_linesAt 42 = .ok (.ireturn, 1) := by decide +kernel
theorem dX0_entryOf_0 : decode cX0_entryOf 0 = .ok (.iload_n 1, 1) := by decide +kernel
theorem dX0_entryOf_1 : decode cX0_entryOf 1 = .ok (.ifCond .lt 17, 3) := by decide +kernel
theorem dX0_entryOf_4 : decode cX0_entryOf 4 = .ok (.iload_n 1, 1) := by decide +kernel
theorem dX0_entryOf_5 : decode cX0_entryOf 5 = .ok (.aload_n 0, 1) := by decide +kernel
theorem dX0_entryOf_6 : decode cX0_entryOf 6 = .ok (.getfield 19, 3) := by decide +kernel
theorem dX0_entryOf_9 : decode cX0_entryOf 9 = .ok (.if_icmp .ge 9, 3) := by decide +kernel
theorem dX0_entryOf_12 : decode cX0_entryOf 12 = .ok (.iload_n 1, 1) := by decide +kernel
theorem dX0_entryOf_13 : decode cX0_entryOf 13 = .ok (.bipush 32, 2) := by decide +kernel
theorem dX0_entryOf_15 : decode cX0_entryOf 15 = .ok (.if_icmp .lt 5, 3) := by decide +kernel
theorem dX0_entryOf_18 : decode cX0_entryOf 18 = .ok (.iconst (-1), 1) := by decide +kernel
theorem dX0_entryOf_19 : decode cX0_entryOf 19 = .ok (.ireturn, 1) := by decide +kernel
theorem dX0_entryOf_20 : decode cX0_entryOf 20 = .ok (.iload_n 2, 1) := by decide +kernel
theorem dX0_entryOf_21 : decode cX0_entryOf 21 = .ok (.ifCond .eq 12, 3) := by decide +kernel
theorem dX0_entryOf_24 : decode cX0_entryOf 24 = .ok (.aload_n 0, 1) := by decide +kernel
theorem dX0_entryOf_25 : decode cX0_entryOf 25 = .ok (.getfield 13, 3) := by decide +kernel
theorem dX0_entryOf_28 : decode cX0_entryOf 28 = .ok (.iload_n 1, 1) := by decide +kernel
theorem dX0_entryOf_29 : decode cX0_entryOf 29 = .ok (.iaload, 1) := by decide +kernel
theorem dX0_entryOf_30 : decode cX0_entryOf 30 = .ok (.goto 9, 3) := by decide +kernel
theorem dX0_entryOf_33 : decode cX0_entryOf 33 = .ok (.aload_n 0, 1) := by decide +kernel
theorem dX0_entryOf_34 : decode cX0_entryOf 34 = .ok (.getfield 9, 3) := by decide +kernel
theorem dX0_entryOf_37 : decode cX0_entryOf 37 = .ok (.iload_n 1, 1) := by decide +kernel
theorem dX0_entryOf_38 : decode cX0_entryOf 38 = .ok (.iaload, 1) := by decide +kernel
theorem dX0_entryOf_39 : decode cX0_entryOf 39 = .ok (.ireturn, 1) := by decide +kernel
set_option maxRecDepth 20000 in
theorem ggX0_look_X0_linesAt : GoodIn wsX0_look wsX0_linesAt := goodIn_r _ [15, 10, 16, 17, 30, 31, 32, 33, 34, 35, 36, 37, 38, 39, 40, 41] (by decide +kernel) (by decide +kernel)
set_option maxRecDepth 20000 in
theorem gX0_look_X0_linesAt : GoodIn wsX0_look (wsV RX0 68 RX0 yX0_linesAt wsX0_linesAt) := goodIn_app (goodIn_of _ (by decide +kernel)) ggX0_look_X0_linesAt
set_option maxRecDepth 20000 in
theorem ggX0_look_X0_interruptDue : GoodIn wsX0_look wsX0_interruptDue := goodIn_r _ [21, 4, 1, 22, 23, 24, 14, 25, 7, 11, 12, 13, 15, 10, 16, 17, 26, 27, 28, 29, 6, 30, 31, 32, 33, 34, 35, 36, 37, 38, 39, 40, 41] (by decide +kernel) (by decide +kernel)
set_option maxRecDepth 20000 in
theorem gX0_look_X0_interruptDue : GoodIn wsX0_look (wsV RX0 39 RX0 yX0_interruptDue wsX0_interruptDue) := goodIn_app (goodIn_of _ (by decide +kernel)) ggX0_look_X0_interruptDue
theorem dX0_look_0 : decode cX0_look 0 = .ok (.iload_n 1, 1) := by decide +kernel
theorem dX0_look_1 : decode cX0_look 1 = .ok (.tableswitch 143 0 11 #[63, 68, 73, 78, 91, 104, 109, 118, 123, 128, 133, 138], 63) := by decide +kernel
theorem dX0_look_64 : decode cX0_look 64 = .ok (.aload_n 0, 1) := by decide +kernel
theorem dX0_look_65 : decode cX0_look 65 = .ok (.getfield 28, 3) := by decide +kernel
theorem dX0_look_68 : decode cX0_look 68 = .ok (.ireturn, 1) := by decide +kernel
theorem dX0_look_69 : decode cX0_look 69 = .ok (.aload_n 0, 1) := by decide +kernel
theorem dX0_look_70 : decode cX0_look 70 = .ok (.getfield 65, 3) := by decide +kernel
theorem dX0_look_73 : decode cX0_look 73 = .ok (.ireturn, 1) := by decide +kernel
theorem dX0_look_74 : decode cX0_look 74 = .ok (.aload_n 0, 1) := by decide +kernel
theorem dX0_look_75 : decode cX0_look 75 = .ok (.getfield 55, 3) := by decide +kernel
theorem dX0_look_78 : decode cX0_look 78 = .ok (.ireturn, 1) := by decide +kernel
theorem dX0_look_79 : decode cX0_look 79 = .ok (.aload_n 0, 1) := by decide +kernel
theorem dX0_look_80 : decode cX0_look 80 = .ok (.getfield 62, 3) := by decide +kernel
theorem dX0_look_83 : decode cX0_look 83 = .ok (.ifCond .eq 7, 3) := by decide +kernel
theorem dX0_look_86 : decode cX0_look 86 = .ok (.iconst 1, 1) := by decide +kernel
theorem dX0_look_87 : decode cX0_look 87 = .ok (.goto 4, 3) := by decide +kernel
theorem dX0_look_90 : decode cX0_look 90 = .ok (.iconst 0, 1) := by decide +kernel
theorem dX0_look_91 : decode cX0_look 91 = .ok (.ireturn, 1) := by decide +kernel
theorem dX0_look_92 : decode cX0_look 92 = .ok (.aload_n 0, 1) := by decide +kernel
theorem dX0_look_93 : decode cX0_look 93 = .ok (.getfield 58, 3) := by decide +kernel
theorem dX0_look_96 : decode cX0_look 96 = .ok (.ifCond .eq 7, 3) := by decide +kernel
theorem dX0_look_99 : decode cX0_look 99 = .ok (.iconst 1, 1) := by decide +kernel
theorem dX0_look_100 : decode cX0_look 100 = .ok (.goto 4, 3) := by decide +kernel
theorem dX0_look_103 : decode cX0_look 103 = .ok (.iconst 0, 1) := by decide +kernel
theorem dX0_look_104 : decode cX0_look 104 = .ok (.ireturn, 1) := by decide +kernel
theorem dX0_look_105 : decode cX0_look 105 = .ok (.aload_n 0, 1) := by decide +kernel
theorem dX0_look_106 : decode cX0_look 106 = .ok (.getfield 51, 3) := by decide +kernel
theorem dX0_look_109 : decode cX0_look 109 = .ok (.ireturn, 1) := by decide +kernel
theorem dX0_look_110 : decode cX0_look 110 = .ok (.aload_n 0, 1) := by decide +kernel
theorem dX0_look_111 : decode cX0_look 111 = .ok (.aload_n 0, 1) := by decide +kernel
theorem dX0_look_112 : decode cX0_look 112 = .ok (.getfield 28, 3) := by decide +kernel
theorem dX0_look_115 : decode cX0_look 115 = .ok (.invokevirtual 68, 3) := by decide +kernel
theorem dX0_look_118 : decode cX0_look 118 = .ok (.ireturn, 1) := by decide +kernel
theorem dX0_look_119 : decode cX0_look 119 = .ok (.aload_n 0, 1) := by decide +kernel
theorem dX0_look_120 : decode cX0_look 120 = .ok (.getfield 42, 3) := by decide +kernel
theorem dX0_look_123 : decode cX0_look 123 = .ok (.ireturn, 1) := by decide +kernel
theorem dX0_look_124 : decode cX0_look 124 = .ok (.aload_n 0, 1) := by decide +kernel
theorem dX0_look_125 : decode cX0_look 125 = .ok (.getfield 45, 3) := by decide +kernel
theorem dX0_look_128 : decode cX0_look 128 = .ok (.ireturn, 1) := by decide +kernel
theorem dX0_look_129 : decode cX0_look 129 = .ok (.aload_n 0, 1) := by decide +kernel
theorem dX0_look_130 : decode cX0_look 130 = .ok (.getfield 48, 3) := by decide +kernel
theorem dX0_look_133 : decode cX0_look 133 = .ok (.ireturn, 1) := by decide +kernel
theorem dX0_look_134 : decode cX0_look 134 = .ok (.aload_n 0, 1) := by decide +kernel
theorem dX0_look_135 : decode cX0_look 135 = .ok (.getfield 19, 3) := by decide +kernel
theorem dX0_look_138 : decode cX0_look 138 = .ok (.ireturn, 1) := by decide +kernel
theorem dX0_look_139 : decode cX0_look 139 = .ok (.aload_n 0, 1) := by decide +kernel
theorem dX0_look_140 : decode cX0_look 140 = .ok (.invokevirtual 39, 3) := by decide +kernel
theorem dX0_look_143 : decode cX0_look 143 = .ok (.ireturn, 1) := by decide +kernel
theorem dX0_look_144 : decode cX0_look 144 = .ok (.iconst (-1), 1) := by decide +kernel
theorem dX0_look_145 : decode cX0_look 145 = .ok (.ireturn, 1) := by decide +kernel
theorem dX0_setAllAsAtFirst_0 : decode cX0_setAllAsAtFirst 0 = .ok (.aload_n 0, 1) := by decide +kernel
theorem dX0_setAllAsAtFirst_1 : decode cX0_setAllAsAtFirst 1 = .ok (.iconst 0, 1) := by decide +kernel
theorem dX0_setAllAsAtFirst_2 : decode cX0_setAllAsAtFirst 2 = .ok (.putfield 19, 3) := by decide +kernel
theorem dX0_setAllAsAtFirst_5 : decode cX0_setAllAsAtFirst 5 = .ok (.aload_n 0, 1) := by decide +kernel
theorem dX0_setAllAsAtFirst_6 : decode cX0_setAllAsAtFirst 6 = .ok (.iconst 0, 1) := by decide +kernel
theorem dX0_setAllAsAtFirst_7 : decode cX0_setAllAsAtFirst 7 = .ok (.putfield 28, 3) := by decide +kernel
theorem dX0_setAllAsAtFirst_10 : decode cX0_setAllAsAtFirst 10 = .ok (.aload_n 0, 1) := by decide +kernel
theorem dX0_setAllAsAtFirst_11 : decode cX0_setAllAsAtFirst 11 = .ok (.iconst 0, 1) := by decide +kernel
theorem dX0_setAllAsAtFirst_12 : decode cX0_setAllAsAtFirst 12 = .ok (.putfield 65, 3) := by decide +kernel
theorem dX0_setAllAsAtFirst_15 : decode cX0_setAllAsAtFirst 15 = .ok (.aload_n 0, 1) := by decide +kernel
theorem dX0_setAllAsAtFirst_16 : decode cX0_setAllAsAtFirst 16 = .ok (.iconst 0, 1) := by decide +kernel
theorem dX0_setAllAsAtFirst_17 : decode cX0_setAllAsAtFirst 17 = .ok (.putfield 55, 3) := by decide +kernel
theorem dX0_setAllAsAtFirst_20 : decode cX0_setAllAsAtFirst 20 = .ok (.aload_n 0, 1) := by decide +kernel
theorem dX0_setAllAsAtFirst_21 : decode cX0_setAllAsAtFirst 21 = .ok (.iconst 0, 1) := by decide +kernel
theorem dX0_setAllAsAtFirst_22 : decode cX0_setAllAsAtFirst 22 = .ok (.putfield 58, 3) := by decide +kernel
theorem dX0_setAllAsAtFirst_25 : decode cX0_setAllAsAtFirst 25 = .ok (.aload_n 0, 1) := by decide +kernel
theorem dX0_setAllAsAtFirst_26 : decode cX0_setAllAsAtFirst 26 = .ok (.iconst 0, 1) := by decide +kernel
theorem dX0_setAllAsAtFirst_27 : decode cX0_setAllAsAtFirst 27 = .ok (.putfield 62, 3) := by decide +kernel
theorem dX0_setAllAsAtFirst_30 : decode cX0_setAllAsAtFirst 30 = .ok (.aload_n 0, 1) := by decide +kernel
theorem dX0_setAllAsAtFirst_31 : decode cX0_setAllAsAtFirst 31 = .ok (.iconst 0, 1) := by decide +kernel
theorem dX0_setAllAsAtFirst_32 : decode cX0_setAllAsAtFirst 32 = .ok (.putfield 51, 3) := by decide +kernel
theorem dX0_setAllAsAtFirst_35 : decode cX0_setAllAsAtFirst 35 = .ok (.aload_n 0, 1) := by decide +kernel
theorem dX0_setAllAsAtFirst_36 : decode cX0_setAllAsAtFirst 36 = .ok (.iconst 1, 1) := by decide +kernel
theorem dX0_setAllAsAtFirst_37 : decode cX0_setAllAsAtFirst 37 = .ok (.putfield 42, 3) := by decide +kernel
theorem dX0_setAllAsAtFirst_40 : decode cX0_setAllAsAtFirst 40 = .ok (.aload_n 0, 1) := by decide +kernel
theorem dX0_setAllAsAtFirst_41 : decode cX0_setAllAsAtFirst 41 = .ok (.iconst 0, 1) := by decide +kernel
theorem dX0_setAllAsAtFirst_42 : decode cX0_setAllAsAtFirst 42 = .ok (.putfield 45, 3) := by decide +kernel
theorem dX0_setAllAsAtFirst_45 : decode cX0_setAllAsAtFirst 45 = .ok (.aload_n 0, 1) := by decide +kernel
theorem dX0_setAllAsAtFirst_46 : decode cX0_setAllAsAtFirst 46 = .ok (.iconst 0, 1) := by decide +kernel
theorem dX0_setAllAsAtFirst_47 : decode cX0_setAllAsAtFirst 47 = .ok (.putfield 48, 3) := by decide +kernel
theorem dX0_setAllAsAtFirst_50 : decode cX0_setAllAsAtFirst 50 = .ok (.return_, 1) := by decide +kernel
theorem dX0_lastEntryCount_0 : decode cX0_lastEntryCount 0 = .ok (.aload_n 0, 1) := by decide +kernel
theorem dX0_lastEntryCount_1 : decode cX0_lastEntryCount 1 = .ok (.getfield 19, 3) := by decide +kernel
theorem dX0_lastEntryCount_4 : decode cX0_lastEntryCount 4 = .ok (.ifCond .le 26, 3) := by decide +kernel
theorem dX0_lastEntryCount_7 : decode cX0_lastEntryCount 7 = .ok (.aload_n 0, 1) := by decide +kernel
theorem dX0_lastEntryCount_8 : decode cX0_lastEntryCount 8 = .ok (.getfield 19, 3) := by decide +kernel
theorem dX0_lastEntryCount_11 : decode cX0_lastEntryCount 11 = .ok (.bipush 32, 2) := by decide +kernel
theorem dX0_lastEntryCount_13 : decode cX0_lastEntryCount 13 = .ok (.if_icmp .gt 17, 3) := by decide +kernel
theorem dX0_lastEntryCount_16 : decode cX0_lastEntryCount 16 = .ok (.aload_n 0, 1) := by decide +kernel
theorem dX0_lastEntryCount_17 : decode cX0_lastEntryCount 17 = .ok (.getfield 9, 3) := by decide +kernel
theorem dX0_lastEntryCount_20 : decode cX0_lastEntryCount 20 = .ok (.aload_n 0, 1) := by decide +kernel
theorem dX0_lastEntryCount_21 : decode cX0_lastEntryCount 21 = .ok (.getfield 19, 3) := by decide +kernel
theorem dX0_lastEntryCount_24 : decode cX0_lastEntryCount 24 = .ok (.iconst 1, 1) := by decide +kernel
theorem dX0_lastEntryCount_25 : decode cX0_lastEntryCount 25 = .ok (.isub, 1) := by decide +kernel
theorem dX0_lastEntryCount_26 : decode cX0_lastEntryCount 26 = .ok (.iaload, 1) := by decide +kernel
theorem dX0_lastEntryCount_27 : decode cX0_lastEntryCount 27 = .ok (.goto 4, 3) := by decide +kernel
theorem dX0_lastEntryCount_30 : decode cX0_lastEntryCount 30 = .ok (.iconst (-1), 1) := by decide +kernel
theorem dX0_lastEntryCount_31 : decode cX0_lastEntryCount 31 = .ok (.ireturn, 1) := by decide +kernel
set_option maxRecDepth 20000 in
theorem ggX0_interruptDue_X0_isOn : GoodIn wsX0_interruptDue wsX0_isOn := goodIn_r _ [7, 8, 21, 22, 23, 24, 25, 26, 27, 28, 29, 30, 31, 32] (by decide +kernel) (by decide +kernel)
set_option maxRecDepth 20000 in
theorem gX0_interruptDue_X0_isOn : GoodIn wsX0_interruptDue (wsV RX0 72 RX0 yX0_isOn wsX0_isOn) := goodIn_app (goodIn_of _ (by decide +kernel)) ggX0_interruptDue_X0_isOn
set_option maxRecDepth 20000 in
theorem ggX0_interruptDue_X0_linesAt : GoodIn wsX0_interruptDue wsX0_linesAt := goodIn_r _ [12, 13, 14, 15, 21, 22, 23, 24, 25, 26, 27, 28, 29, 30, 31, 32] (by decide +kernel) (by decide +kernel)
set_option maxRecDepth 20000 in
theorem gX0_interruptDue_X0_linesAt : GoodIn wsX0_interruptDue (wsV RX0 68 RX0 yX0_linesAt wsX0_linesAt) := goodIn_app (goodIn_of _ (by decide +kernel)) ggX0_interruptDue_X0_linesAt
set_option maxRecDepth 20000 in
theorem ggX0_interruptDue_X0_isInMask : GoodIn wsX0_interruptDue wsX0_isInMask := goodIn_r _ [19, 20, 21, 22, 23, 24, 25, 26, 27, 28, 29, 30, 31, 32] (by decide +kernel) (by decide +kernel)
set_option maxRecDepth 20000 in
theorem gX0_interruptDue_X0_isInMask : GoodIn wsX0_interruptDue (wsV RX0 76 RX0 yX0_isInMask wsX0_isInMask) := goodIn_app (goodIn_of _ (by decide +kernel)) ggX0_interruptDue_X0_isInMask
theorem dX0_interruptDue_0 : decode cX0_interruptDue 0 = .ok (.aload_n 0, 1) := by decide +kernel
theorem dX0_interruptDue_1 : decode cX0_interruptDue 1 = .ok (.iconst 2, 1) := by decide +kernel
theorem dX0_interruptDue_2 : decode cX0_interruptDue 2 = .ok (.invokevirtual 72, 3) := by decide +kernel
theorem dX0_interruptDue_5 : decode cX0_interruptDue 5 = .ok (.ifCond .eq 12, 3) := by decide +kernel
theorem dX0_interruptDue_8 : decode cX0_interruptDue 8 = .ok (.aload_n 0, 1) := by decide +kernel
theorem dX0_interruptDue_9 : decode cX0_interruptDue 9 = .ok (.getfield 62, 3) := by decide +kernel
theorem dX0_interruptDue_12 : decode cX0_interruptDue 12 = .ok (.ifCond .eq 5, 3) := by decide +kernel
theorem dX0_interruptDue_15 : decode cX0_interruptDue 15 = .ok (.iconst 5, 1) := by decide +kernel
theorem dX0_interruptDue_16 : decode cX0_interruptDue 16 = .ok (.ireturn, 1) := by decide +kernel
theorem dX0_interruptDue_17 : decode cX0_interruptDue 17 = .ok (.aload_n 0, 1) := by decide +kernel
theorem dX0_interruptDue_18 : decode cX0_interruptDue 18 = .ok (.iconst 4, 1) := by decide +kernel
theorem dX0_interruptDue_19 : decode cX0_interruptDue 19 = .ok (.invokevirtual 72, 3) := by decide +kernel
theorem dX0_interruptDue_22 : decode cX0_interruptDue 22 = .ok (.ifCond .eq 21, 3) := by decide +kernel
theorem dX0_interruptDue_25 : decode cX0_interruptDue 25 = .ok (.aload_n 0, 1) := by decide +kernel
theorem dX0_interruptDue_26 : decode cX0_interruptDue 26 = .ok (.aload_n 0, 1) := by decide +kernel
theorem dX0_interruptDue_27 : decode cX0_interruptDue 27 = .ok (.aload_n 0, 1) := by decide +kernel
theorem dX0_interruptDue_28 : decode cX0_interruptDue 28 = .ok (.getfield 28, 3) := by decide +kernel
theorem dX0_interruptDue_31 : decode cX0_interruptDue 31 = .ok (.invokevirtual 68, 3) := by decide +kernel
theorem dX0_interruptDue_34 : decode cX0_interruptDue 34 = .ok (.invokevirtual 76, 3) := by decide +kernel
theorem dX0_interruptDue_37 : decode cX0_interruptDue 37 = .ok (.ifCond .eq 6, 3) := by decide +kernel
theorem dX0_interruptDue_40 : decode cX0_interruptDue 40 = .ok (.bipush 8, 2) := by decide +kernel
theorem dX0_interruptDue_42 : decode cX0_interruptDue 42 = .ok (.ireturn, 1) := by decide +kernel
theorem dX0_interruptDue_43 : decode cX0_interruptDue 43 = .ok (.iconst 0, 1) := by decide +kernel
theorem dX0_interruptDue_44 : decode cX0_interruptDue 44 = .ok (.ireturn, 1) := by decide +kernel
theorem dX0_isOn_0 : decode cX0_isOn 0 = .ok (.aload_n 0, 1) := by decide +kernel
theorem dX0_isOn_1 : decode cX0_isOn 1 = .ok (.getfield 42, 3) := by decide +kernel
theorem dX0_isOn_4 : decode cX0_isOn 4 = .ok (.iload_n 1, 1) := by decide +kernel
theorem dX0_isOn_5 : decode cX0_isOn 5 = .ok (.iand, 1) := by decide +kernel
theorem dX0_isOn_6 : decode cX0_isOn 6 = .ok (.ifCond .eq 7, 3) := by decide +kernel
theorem dX0_isOn_9 : decode cX0_isOn 9 = .ok (.iconst 1, 1) := by decide +kernel
theorem dX0_isOn_10 : decode cX0_isOn 10 = .ok (.goto 4, 3) := by decide +kernel
theorem dX0_isOn_13 : decode cX0_isOn 13 = .ok (.iconst 0, 1) := by decide +kernel
theorem dX0_isOn_14 : decode cX0_isOn 14 = .ok (.ireturn, 1) := by decide +kernel
theorem dX0_isInMask_0 : decode cX0_isInMask 0 = .ok (.iload_n 1, 1) := by decide +kernel
theorem dX0_isInMask_1 : decode cX0_isInMask 1 = .ok (.aload_n 0, 1) := by decide +kernel
theorem dX0_isInMask_2 : decode cX0_isInMask 2 = .ok (.getfield 51, 3) := by decide +kernel
theorem dX0_isInMask_5 : decode cX0_isInMask 5 = .ok (.iand, 1) := by decide +kernel
theorem dX0_isInMask_6 : decode cX0_isInMask 6 = .ok (.ifCond .eq 7, 3) := by decide +kernel
theorem dX0_isInMask_9 : decode cX0_isInMask 9 = .ok (.iconst 1, 1) := by decide +kernel
theorem dX0_isInMask_10 : decode cX0_isInMask 10 = .ok (.goto 4, 3) := by decide +kernel
theorem dX0_isInMask_13 : decode cX0_isInMask 13 = .ok (.iconst 0, 1) := by decide +kernel
theorem dX0_isInMask_14 : decode cX0_isInMask 14 = .ok (.ireturn, 1) := by decide +kernel
set_option maxRecDepth 20000 in
theorem ggX0_distanceToInterrupt_X0_interruptDue : GoodIn wsX0_distanceToInterrupt wsX0_interruptDue := goodIn_r _ [9, 10, 11, 12, 13, 14, 8, 15, 16, 17, 18, 19, 20, 21, 22, 23, 24, 25, 26, 27, 28, 47, 48, 49, 50, 51, 52, 53, 54, 55, 56, 57, 58] (by decide +kernel) (by decide +kernel)
set_option maxRecDepth 20000 in
theorem gX0_distanceToInterrupt_X0_interruptDue : GoodIn wsX0_distanceToInterrupt (wsV RX0 39 RX0 yX0_interruptDue wsX0_interruptDue) := goodIn_app (goodIn_of _ (by decide +kernel)) ggX0_distanceToInterrupt_X0_interruptDue
set_option maxRecDepth 20000 in
theorem ggX0_distanceToInterrupt_X0_distanceToTimer : GoodIn wsX0_distanceToInterrupt wsX0_distanceToTimer := goodIn_r _ [32, 33, 34, 12, 13, 14, 8, 15, 16, 35, 36, 37, 38, 39, 40, 41, 42, 47, 48, 49, 50, 51, 52, 53, 54, 55, 56, 57, 58] (by decide +kernel) (by decide +kernel)
set_option maxRecDepth 20000 in
theorem gX0_distanceToInterrupt_X0_distanceToTimer : GoodIn wsX0_distanceToInterrupt (wsV RX0 79 RX0 yX0_distanceToTimer wsX0_distanceToTimer) := goodIn_app (goodIn_of _ (by decide +kernel)) ggX0_distanceToInterrupt_X0_distanceToTimer
set_option maxRecDepth 20000 in
theorem ggX0_distanceToInterrupt_X0_distanceToLines : GoodIn wsX0_distanceToInterrupt wsX0_distanceToLines := goodIn_r _ [46, 34, 21, 22, 11, 23, 12, 13, 14, 8, 15, 16, 24, 25, 26, 27, 28, 47, 48, 49, 50, 51, 52, 53, 54, 55, 56, 57, 58] (by decide +kernel) (by decide +kernel)
set_option maxRecDepth 20000 in
theorem gX0_distanceToInterrupt_X0_distanceToLines : GoodIn wsX0_distanceToInterrupt (wsV RX0 82 RX0 yX0_distanceToLines wsX0_distanceToLines) := goodIn_app (goodIn_of _ (by decide +kernel)) ggX0_distanceToInterrupt_X0_distanceToLines
theorem dX0_distanceToInterrupt_0 : decode cX0_distanceToInterrupt 0 = .ok (.aload_n 0, 1) := by decide +kernel
theorem dX0_distanceToInterrupt_1 : decode cX0_distanceToInterrupt 1 = .ok (.invokevirtual 39, 3) := by decide +kernel
theorem dX0_distanceToInterrupt_4 : decode cX0_distanceToInterrupt 4 = .ok (.ifCond .eq 5, 3) := by decide +kernel
theorem dX0_distanceToInterrupt_7 : decode cX0_distanceToInterrupt 7 = .ok (.lconst 0, 1) := by decide +kernel
theorem dX0_distanceToInterrupt_8 : decode cX0_distanceToInterrupt 8 = .ok (.lreturn, 1) := by decide +kernel
theorem dX0_distanceToInterrupt_9 : decode cX0_distanceToInterrupt 9 = .ok (.aload_n 0, 1) := by decide +kernel
theorem dX0_distanceToInterrupt_10 : decode cX0_distanceToInterrupt 10 = .ok (.invokevirtual 79, 3) := by decide +kernel
theorem dX0_distanceToInterrupt_13 : decode cX0_distanceToInterrupt 13 = .ok (.aload_n 0, 1) := by decide +kernel
theorem dX0_distanceToInterrupt_14 : decode cX0_distanceToInterrupt 14 = .ok (.invokevirtual 82, 3) := by decide +kernel
theorem dX0_distanceToInterrupt_17 : decode cX0_distanceToInterrupt 17 = .ok (.invokestatic 85, 3) := by decide +kernel
theorem dX0_distanceToInterrupt_20 : decode cX0_distanceToInterrupt 20 = .ok (.lreturn, 1) := by decide +kernel
set_option maxRecDepth 20000 in
theorem ggX0_distanceToTimer_X0_isOn : GoodIn wsX0_distanceToTimer wsX0_isOn := goodIn_r _ [7, 8, 17, 18, 19, 20, 21, 22, 23, 24, 25, 26, 27, 28] (by decide +kernel) (by decide +kernel)
set_option maxRecDepth 20000 in
theorem gX0_distanceToTimer_X0_isOn : GoodIn wsX0_distanceToTimer (wsV RX0 72 RX0 yX0_isOn wsX0_isOn) := goodIn_app (goodIn_of _ (by decide +kernel)) ggX0_distanceToTimer_X0_isOn
set_option maxRecDepth 20000 in
theorem ggX0_distanceToTimer_X0_distanceToPeriod : GoodIn wsX0_distanceToTimer wsX0_distanceToPeriod := goodIn_r _ [12, 13, 14, 15, 16, 17, 18, 19, 20, 21, 22, 23, 24, 25, 26, 27, 28] (by decide +kernel) (by decide +kernel)
set_option maxRecDepth 20000 in
theorem gX0_distanceToTimer_X0_distanceToPeriod : GoodIn wsX0_distanceToTimer (wsV RX0 91 RX0 yX0_distanceToPeriod wsX0_distanceToPeriod) := goodIn_app (goodIn_of _ (by decide +kernel)) ggX0_distanceToTimer_X0_distanceToPeriod
theorem dX0_distanceToTimer_0 : decode cX0_distanceToTimer 0 = .ok (.aload_n 0, 1) := by decide +kernel
theorem dX0_distanceToTimer_1 : decode cX0_distanceToTimer 1 = .ok (.iconst 2, 1) := by decide +kernel
theorem dX0_distanceToTimer_2 : decode cX0_distanceToTimer 2 = .ok (.invokevirtual 72, 3) := by decide +kernel
theorem dX0_distanceToTimer_5 : decode cX0_distanceToTimer 5 = .ok (.ifCond .eq 17, 3) := by decide +kernel
theorem dX0_distanceToTimer_8 : decode cX0_distanceToTimer 8 = .ok (.aload_n 0, 1) := by decide +kernel
theorem dX0_distanceToTimer_9 : decode cX0_distanceToTimer 9 = .ok (.getfield 58, 3) := by decide +kernel
theorem dX0_distanceToTimer_12 : decode cX0_distanceToTimer 12 = .ok (.ifCond .eq 10, 3) := by decide +kernel
theorem dX0_distanceToTimer_15 : decode cX0_distanceToTimer 15 = .ok (.aload_n 0, 1) := by decide +kernel
theorem dX0_distanceToTimer_16 : decode cX0_distanceToTimer 16 = .ok (.invokevirtual 91, 3) := by decide +kernel
theorem dX0_distanceToTimer_19 : decode cX0_distanceToTimer 19 = .ok (.goto 6, 3) := by decide +kernel
theorem dX0_distanceToTimer_22 : decode cX0_distanceToTimer 22 = .ok (.ldc2_w 94, 3) := by decide +kernel
theorem dX0_distanceToTimer_25 : decode cX0_distanceToTimer 25 = .ok (.lreturn, 1) := by decide +kernel
set_option maxRecDepth 20000 in
theorem ggX0_distanceToLines_X0_isOn : GoodIn wsX0_distanceToLines wsX0_isOn := goodIn_r _ [10, 11, 17, 18, 19, 20, 21, 22, 23, 24, 25, 26, 27, 28] (by decide +kernel) (by decide +kernel)
set_option maxRecDepth 20000 in
theorem gX0_distanceToLines_X0_isOn : GoodIn wsX0_distanceToLines (wsV RX0 72 RX0 yX0_isOn wsX0_isOn) := goodIn_app (goodIn_of _ (by decide +kernel)) ggX0_distanceToLines_X0_isOn
set_option maxRecDepth 20000 in
theorem ggX0_distanceToLines_X0_isInMask : GoodIn wsX0_distanceToLines wsX0_isInMask := goodIn_r _ [15, 16, 17, 18, 19, 20, 21, 22, 23, 24, 25, 26, 27, 28] (by decide +kernel) (by decide +kernel)
set_option maxRecDepth 20000 in
theorem gX0_distanceToLines_X0_isInMask : GoodIn wsX0_distanceToLines (wsV RX0 76 RX0 yX0_isInMask wsX0_isInMask) := goodIn_app (goodIn_of _ (by decide +kernel)) ggX0_distanceToLines_X0_isInMask
theorem dX0_distanceToLines_0 : decode cX0_distanceToLines 0 = .ok (.aload_n 0, 1) := by decide +kernel
theorem dX0_distanceToLines_1 : decode cX0_distanceToLines 1 = .ok (.iconst 4, 1) := by decide +kernel
theorem dX0_distanceToLines_2 : decode cX0_distanceToLines 2 = .ok (.invokevirtual 72, 3) := by decide +kernel
theorem dX0_distanceToLines_5 : decode cX0_distanceToLines 5 = .ok (.ifCond .ne 7, 3) := by decide +kernel
theorem dX0_distanceToLines_8 : decode cX0_distanceToLines 8 = .ok (.ldc2_w 94, 3) := by decide +kernel
theorem dX0_distanceToLines_11 : decode cX0_distanceToLines 11 = .ok (.lreturn, 1) := by decide +kernel
theorem dX0_distanceToLines_12 : decode cX0_distanceToLines 12 = .ok (.iconst 0, 1) := by decide +kernel
theorem dX0_distanceToLines_13 : decode cX0_distanceToLines 13 = .ok (.istore_n 1, 1) := by decide +kernel
theorem dX0_distanceToLines_14 : decode cX0_distanceToLines 14 = .ok (.iload_n 1, 1) := by decide +kernel
theorem dX0_distanceToLines_15 : decode cX0_distanceToLines 15 = .ok (.aload_n 0, 1) := by decide +kernel
theorem dX0_distanceToLines_16 : decode cX0_distanceToLines 16 = .ok (.getfield 19, 3) := by decide +kernel
theorem dX0_distanceToLines_19 : decode cX0_distanceToLines 19 = .ok (.if_icmp .ge 54, 3) := by decide +kernel
theorem dX0_distanceToLines_22 : decode cX0_distanceToLines 22 = .ok (.iload_n 1, 1) := by decide +kernel
theorem dX0_distanceToLines_23 : decode cX0_distanceToLines 23 = .ok (.bipush 32, 2) := by decide +kernel
theorem dX0_distanceToLines_25 : decode cX0_distanceToLines 25 = .ok (.if_icmp .ge 48, 3) := by decide +kernel
theorem dX0_distanceToLines_28 : decode cX0_distanceToLines 28 = .ok (.aload_n 0, 1) := by decide +kernel
theorem dX0_distanceToLines_29 : decode cX0_distanceToLines 29 = .ok (.getfield 9, 3) := by decide +kernel
theorem dX0_distanceToLines_32 : decode cX0_distanceToLines 32 = .ok (.iload_n 1, 1) := by decide +kernel
theorem dX0_distanceToLines_33 : decode cX0_distanceToLines 33 = .ok (.iaload, 1) := by decide +kernel
theorem dX0_distanceToLines_34 : decode cX0_distanceToLines 34 = .ok (.aload_n 0, 1) := by decide +kernel
theorem dX0_distanceToLines_35 : decode cX0_distanceToLines 35 = .ok (.getfield 28, 3) := by decide +kernel
theorem dX0_distanceToLines_38 : decode cX0_distanceToLines 38 = .ok (.if_icmp .le 29, 3) := by decide +kernel
theorem dX0_distanceToLines_41 : decode cX0_distanceToLines 41 = .ok (.aload_n 0, 1) := by decide +kernel
theorem dX0_distanceToLines_42 : decode cX0_distanceToLines 42 = .ok (.aload_n 0, 1) := by decide +kernel
theorem dX0_distanceToLines_43 : decode cX0_distanceToLines 43 = .ok (.getfield 13, 3) := by decide +kernel
theorem dX0_distanceToLines_46 : decode cX0_distanceToLines 46 = .ok (.iload_n 1, 1) := by decide +kernel
theorem dX0_distanceToLines_47 : decode cX0_distanceToLines 47 = .ok (.iaload, 1) := by decide +kernel
theorem dX0_distanceToLines_48 : decode cX0_distanceToLines 48 = .ok (.invokevirtual 76, 3) := by decide +kernel
theorem dX0_distanceToLines_51 : decode cX0_distanceToLines 51 = .ok (.ifCond .eq 16, 3) := by decide +kernel
theorem dX0_distanceToLines_54 : decode cX0_distanceToLines 54 = .ok (.aload_n 0, 1) := by decide +kernel
theorem dX0_distanceToLines_55 : decode cX0_distanceToLines 55 = .ok (.getfield 9, 3) := by decide +kernel
theorem dX0_distanceToLines_58 : decode cX0_distanceToLines 58 = .ok (.iload_n 1, 1) := by decide +kernel
theorem dX0_distanceToLines_59 : decode cX0_distanceToLines 59 = .ok (.iaload, 1) := by decide +kernel
theorem dX0_distanceToLines_60 : decode cX0_distanceToLines 60 = .ok (.aload_n 0, 1) := by decide +kernel
theorem dX0_distanceToLines_61 : decode cX0_distanceToLines 61 = .ok (.getfield 28, 3) := by decide +kernel
theorem dX0_distanceToLines_64 : decode cX0_distanceToLines 64 = .ok (.isub, 1) := by decide +kernel
theorem dX0_distanceToLines_65 : decode cX0_distanceToLines 65 = .ok (.i2l, 1) := by decide +kernel
theorem dX0_distanceToLines_66 : decode cX0_distanceToLines 66 = .ok (.lreturn, 1) := by decide +kernel
theorem dX0_distanceToLines_67 : decode cX0_distanceToLines 67 = .ok (.iinc 1 1, 3) := by decide +kernel
theorem dX0_distanceToLines_70 : decode cX0_distanceToLines 70 = .ok (.goto (-56), 3) := by decide +kernel
theorem dX0_distanceToLines_73 : decode cX0_distanceToLines 73 = .ok (.ldc2_w 94, 3) := by decide +kernel
theorem dX0_distanceToLines_76 : decode cX0_distanceToLines 76 = .ok (.lreturn, 1) := by decide +kernel
theorem dX0_distanceToPeriod_0 : decode cX0_distanceToPeriod 0 = .ok (.aload_n 0, 1) := by decide +kernel
theorem dX0_distanceToPeriod_1 : decode cX0_distanceToPeriod 1 = .ok (.getfield 55, 3) := by decide +kernel
theorem dX0_distanceToPeriod_4 : decode cX0_distanceToPeriod 4 = .ok (.i2l, 1) := by decide +kernel
theorem dX0_distanceToPeriod_5 : decode cX0_distanceToPeriod 5 = .ok (.aload_n 0, 1) := by decide +kernel
theorem dX0_distanceToPeriod_6 : decode cX0_distanceToPeriod 6 = .ok (.getfield 65, 3) := by decide +kernel
theorem dX0_distanceToPeriod_9 : decode cX0_distanceToPeriod 9 = .ok (.i2l, 1) := by decide +kernel
theorem dX0_distanceToPeriod_10 : decode cX0_distanceToPeriod 10 = .ok (.lsub, 1) := by decide +kernel
theorem dX0_distanceToPeriod_11 : decode cX0_distanceToPeriod 11 = .ok (.ldc2_w 96, 3) := by decide +kernel
theorem dX0_distanceToPeriod_14 : decode cX0_distanceToPeriod 14 = .ok (.land, 1) := by decide +kernel
theorem dX0_distanceToPeriod_15 : decode cX0_distanceToPeriod 15 = .ok (.lstore_n 1, 1) := by decide +kernel
theorem dX0_distanceToPeriod_16 : decode cX0_distanceToPeriod 16 = .ok (.lload_n 1, 1) := by decide +kernel
theorem dX0_distanceToPeriod_17 : decode cX0_distanceToPeriod 17 = .ok (.lconst 0, 1) := by decide +kernel
theorem dX0_distanceToPeriod_18 : decode cX0_distanceToPeriod 18 = .ok (.lcmp, 1) := by decide +kernel
theorem dX0_distanceToPeriod_19 : decode cX0_distanceToPeriod 19 = .ok (.ifCond .ne 9, 3) := by decide +kernel
theorem dX0_distanceToPeriod_22 : decode cX0_distanceToPeriod 22 = .ok (.ldc2_w 98, 3) := by decide +kernel
theorem dX0_distanceToPeriod_25 : decode cX0_distanceToPeriod 25 = .ok (.goto 4, 3) := by decide +kernel
theorem dX0_distanceToPeriod_28 : decode cX0_distanceToPeriod 28 = .ok (.lload_n 1, 1) := by decide +kernel
theorem dX0_distanceToPeriod_29 : decode cX0_distanceToPeriod 29 = .ok (.lreturn, 1) := by decide +kernel
set_option maxRecDepth 20000 in
theorem ggX0_advance_X0_advanceCount : GoodIn wsX0_advance wsX0_advanceCount := goodIn_r _ [7, 8, 9, 10, 11, 12, 13, 6, 14, 15, 16, 17, 18, 19, 20, 21, 22, 23, 24, 25, 26, 27, 28] (by decide +kernel) (by decide +kernel)
set_option maxRecDepth 20000 in
theorem gX0_advance_X0_advanceCount : GoodIn wsX0_advance (wsV RX0 100 RX0 yX0_advanceCount wsX0_advanceCount) := goodIn_app (goodIn_of _ (by decide +kernel)) ggX0_advance_X0_advanceCount
theorem dX0_advance_0 : decode cX0_advance 0 = .ok (.aload_n 0, 1) := by decide +kernel
theorem dX0_advance_1 : decode cX0_advance 1 = .ok (.dup, 1) := by decide +kernel
theorem dX0_advance_2 : decode cX0_advance 2 = .ok (.getfield 28, 3) := by decide +kernel
theorem dX0_advance_5 : decode cX0_advance 5 = .ok (.iload_n 1, 1) := by decide +kernel
theorem dX0_advance_6 : decode cX0_advance 6 = .ok (.iadd, 1) := by decide +kernel
theorem dX0_advance_7 : decode cX0_advance 7 = .ok (.putfield 28, 3) := by decide +kernel
theorem dX0_advance_10 : decode cX0_advance 10 = .ok (.aload_n 0, 1) := by decide +kernel
theorem dX0_advance_11 : decode cX0_advance 11 = .ok (.getfield 58, 3) := by decide +kernel
theorem dX0_advance_14 : decode cX0_advance 14 = .ok (.ifCond .eq 8, 3) := by decide +kernel
theorem dX0_advance_17 : decode cX0_advance 17 = .ok (.aload_n 0, 1) := by decide +kernel
theorem dX0_advance_18 : decode cX0_advance 18 = .ok (.iload_n 1, 1) := by decide +kernel
theorem dX0_advance_19 : decode cX0_advance 19 = .ok (.invokevirtual 100, 3) := by decide +kernel
theorem dX0_advance_22 : decode cX0_advance 22 = .ok (.return_, 1) := by decide +kernel
set_option maxRecDepth 20000 in
theorem ggX0_advanceCount_X0_distanceToPeriod : GoodIn wsX0_advanceCount wsX0_distanceToPeriod := goodIn_r _ [8, 3, 1, 9, 10, 11, 12, 13, 14, 15, 16, 17, 18, 19, 20, 21, 22] (by decide +kernel) (by decide +kernel)
set_option maxRecDepth 20000 in
theorem gX0_advanceCount_X0_distanceToPeriod : GoodIn wsX0_advanceCount (wsV RX0 91 RX0 yX0_distanceToPeriod wsX0_distanceToPeriod) := goodIn_app (goodIn_of _ (by decide +kernel)) ggX0_advanceCount_X0_distanceToPeriod
theorem dX0_advanceCount_0 : decode cX0_advanceCount 0 = .ok (.aload_n 0, 1) := by decide +kernel
theorem dX0_advanceCount_1 : decode cX0_advanceCount 1 = .ok (.invokevirtual 91, 3) := by decide +kernel
theorem dX0_advanceCount_4 : decode cX0_advanceCount 4 = .ok (.lstore_n 2, 1) := by decide +kernel
theorem dX0_advanceCount_5 : decode cX0_advanceCount 5 = .ok (.iload_n 1, 1) := by decide +kernel
theorem dX0_advanceCount_6 : decode cX0_advanceCount 6 = .ok (.i2l, 1) := by decide +kernel
theorem dX0_advanceCount_7 : decode cX0_advanceCount 7 = .ok (.lload_n 2, 1) := by decide +kernel
theorem dX0_advanceCount_8 : decode cX0_advanceCount 8 = .ok (.lcmp, 1) := by decide +kernel
theorem dX0_advanceCount_9 : decode cX0_advanceCount 9 = .ok (.ifCond .ge 14, 3) := by decide +kernel
theorem dX0_advanceCount_12 : decode cX0_advanceCount 12 = .ok (.aload_n 0, 1) := by decide +kernel
theorem dX0_advanceCount_13 : decode cX0_advanceCount 13 = .ok (.dup, 1) := by decide +kernel
theorem dX0_advanceCount_14 : decode cX0_advanceCount 14 = .ok (.getfield 65, 3) := by decide +kernel
theorem dX0_advanceCount_17 : decode cX0_advanceCount 17 = .ok (.iload_n 1, 1) := by decide +kernel
theorem dX0_advanceCount_18 : decode cX0_advanceCount 18 = .ok (.iadd, 1) := by decide +kernel
theorem dX0_advanceCount_19 : decode cX0_advanceCount 19 = .ok (.putfield 65, 3) := by decide +kernel
theorem dX0_advanceCount_22 : decode cX0_advanceCount 22 = .ok (.return_, 1) := by decide +kernel
theorem dX0_advanceCount_23 : decode cX0_advanceCount 23 = .ok (.aload_n 0, 1) := by decide +kernel
theorem dX0_advanceCount_24 : decode cX0_advanceCount 24 = .ok (.iconst 1, 1) := by decide +kernel
theorem dX0_advanceCount_25 : decode cX0_advanceCount 25 = .ok (.putfield 62, 3) := by decide +kernel
theorem dX0_advanceCount_28 : decode cX0_advanceCount 28 = .ok (.iload_n 1, 1) := by decide +kernel
theorem dX0_advanceCount_29 : decode cX0_advanceCount 29 = .ok (.lload_n 2, 1) := by decide +kernel
theorem dX0_advanceCount_30 : decode cX0_advanceCount 30 = .ok (.l2i, 1) := by decide +kernel
theorem dX0_advanceCount_31 : decode cX0_advanceCount 31 = .ok (.isub, 1) := by decide +kernel
theorem dX0_advanceCount_32 : decode cX0_advanceCount 32 = .ok (.istore 4, 2) := by decide +kernel
theorem dX0_advanceCount_34 : decode cX0_advanceCount 34 = .ok (.aload_n 0, 1) := by decide +kernel
theorem dX0_advanceCount_35 : decode cX0_advanceCount 35 = .ok (.aload_n 0, 1) := by decide +kernel
theorem dX0_advanceCount_36 : decode cX0_advanceCount 36 = .ok (.getfield 55, 3) := by decide +kernel
theorem dX0_advanceCount_39 : decode cX0_advanceCount 39 = .ok (.ifCond .ne 8, 3) := by decide +kernel
theorem dX0_advanceCount_42 : decode cX0_advanceCount 42 = .ok (.iload 4, 2) := by decide +kernel
theorem dX0_advanceCount_44 : decode cX0_advanceCount 44 = .ok (.goto 10, 3) := by decide +kernel
theorem dX0_advanceCount_47 : decode cX0_advanceCount 47 = .ok (.iload 4, 2) := by decide +kernel
theorem dX0_advanceCount_49 : decode cX0_advanceCount 49 = .ok (.aload_n 0, 1) := by decide +kernel
theorem dX0_advanceCount_50 : decode cX0_advanceCount 50 = .ok (.getfield 55, 3) := by decide +kernel
theorem dX0_advanceCount_53 : decode cX0_advanceCount 53 = .ok (.irem, 1) := by decide +kernel
theorem dX0_advanceCount_54 : decode cX0_advanceCount 54 = .ok (.putfield 65, 3) := by decide +kernel
theorem dX0_advanceCount_57 : decode cX0_advanceCount 57 = .ok (.return_, 1) := by decide +kernel
theorem dX1_init_0 : decode cX1_init 0 = .ok (.aload_n 0, 1) := by decide +kernel
theorem dX1_init_1 : decode cX1_init 1 = .ok (.invokespecial 1, 3) := by decide +kernel
theorem dX1_init_4 : decode cX1_init 4 = .ok (.aload_n 0, 1) := by decide +kernel
theorem dX1_init_5 : decode cX1_init 5 = .ok (.iconst 1, 1) := by decide +kernel
theorem dX1_init_6 : decode cX1_init 6 = .ok (.putfield 7, 3) := by decide +kernel
theorem dX1_init_9 : decode cX1_init 9 = .ok (.aload_n 0, 1) := by decide +kernel
theorem dX1_init_10 : decode cX1_init 10 = .ok (.bipush 32, 2) := by decide +kernel
theorem dX1_init_12 : decode cX1_init 12 = .ok (.newarray .int, 2) := by decide +kernel
theorem dX1_init_14 : decode cX1_init 14 = .ok (.putfield 13, 3) := by decide +kernel
theorem dX1_init_17 : decode cX1_init 17 = .ok (.aload_n 0, 1) := by decide +kernel
theorem dX1_init_18 : decode cX1_init 18 = .ok (.bipush 32, 2) := by decide +kernel
theorem dX1_init_20 : decode cX1_init 20 = .ok (.newarray .int, 2) := by decide +kernel
theorem dX1_init_22 : decode cX1_init 22 = .ok (.putfield 17, 3) := by decide +kernel
theorem dX1_init_25 : decode cX1_init 25 = .ok (.return_, 1) := by decide +kernel
theorem dX1_goOn_0 : decode cX1_goOn 0 = .ok (.aload_n 0, 1) := by decide +kernel
theorem dX1_goOn_1 : decode cX1_goOn 1 = .ok (.getfield 23, 3) := by decide +kernel
theorem dX1_goOn_4 : decode cX1_goOn 4 = .ok (.aload_n 0, 1) := by decide +kernel
theorem dX1_goOn_5 : decode cX1_goOn 5 = .ok (.getfield 26, 3) := by decide +kernel
theorem dX1_goOn_8 : decode cX1_goOn 8 = .ok (.if_icmp .ge 32, 3) := by decide +kernel
theorem dX1_goOn_11 : decode cX1_goOn 11 = .ok (.aload_n 0, 1) := by decide +kernel
theorem dX1_goOn_12 : decode cX1_goOn 12 = .ok (.getfield 13, 3) := by decide +kernel
theorem dX1_goOn_15 : decode cX1_goOn 15 = .ok (.aload_n 0, 1) := by decide +kernel
theorem dX1_goOn_16 : decode cX1_goOn 16 = .ok (.getfield 23, 3) := by decide +kernel
theorem dX1_goOn_19 : decode cX1_goOn 19 = .ok (.iaload, 1) := by decide +kernel
theorem dX1_goOn_20 : decode cX1_goOn 20 = .ok (.aload_n 0, 1) := by decide +kernel
theorem dX1_goOn_21 : decode cX1_goOn 21 = .ok (.getfield 29, 3) := by decide +kernel
theorem dX1_goOn_24 : decode cX1_goOn 24 = .ok (.if_icmp .gt 16, 3) := by decide +kernel
theorem dX1_goOn_27 : decode cX1_goOn 27 = .ok (.aload_n 0, 1) := by decide +kernel
theorem dX1_goOn_28 : decode cX1_goOn 28 = .ok (.dup, 1) := by decide +kernel
theorem dX1_goOn_29 : decode cX1_goOn 29 = .ok (.getfield 23, 3) := by decide +kernel
theorem dX1_goOn_32 : decode cX1_goOn 32 = .ok (.iconst 1, 1) := by decide +kernel
theorem dX1_goOn_33 : decode cX1_goOn 33 = .ok (.iadd, 1) := by decide +kernel
theorem dX1_goOn_34 : decode cX1_goOn 34 = .ok (.putfield 23, 3) := by decide +kernel
theorem dX1_goOn_37 : decode cX1_goOn 37 = .ok (.goto (-37), 3) := by decide +kernel
theorem dX1_goOn_40 : decode cX1_goOn 40 = .ok (.return_, 1) := by decide +kernel
theorem dX1_linesNow_0 : decode cX1_linesNow 0 = .ok (.aload_n 0, 1) := by decide +kernel
theorem dX1_linesNow_1 : decode cX1_linesNow 1 = .ok (.getfield 23, 3) := by decide +kernel
theorem dX1_linesNow_4 : decode cX1_linesNow 4 = .ok (.ifCond .le 17, 3) := by decide +kernel
theorem dX1_linesNow_7 : decode cX1_linesNow 7 = .ok (.aload_n 0, 1) := by decide +kernel
theorem dX1_linesNow_8 : decode cX1_linesNow 8 = .ok (.getfield 17, 3) := by decide +kernel
theorem dX1_linesNow_11 : decode cX1_linesNow 11 = .ok (.aload_n 0, 1) := by decide +kernel
theorem dX1_linesNow_12 : decode cX1_linesNow 12 = .ok (.getfield 23, 3) := by decide +kernel
theorem dX1_linesNow_15 : decode cX1_linesNow 15 = .ok (.iconst 1, 1) := by decide +kernel
theorem dX1_linesNow_16 : decode cX1_linesNow 16 = .ok (.isub, 1) := by decide +kernel
theorem dX1_linesNow_17 : decode cX1_linesNow 17 = .ok (.iaload, 1) := by decide +kernel
theorem dX1_linesNow_18 : decode cX1_linesNow 18 = .ok (.goto 4, 3) := by decide +kernel
theorem dX1_linesNow_21 : decode cX1_linesNow 21 = .ok (.iconst 0, 1) := by decide +kernel
theorem dX1_linesNow_22 : decode cX1_linesNow 22 = .ok (.ireturn, 1) := by decide +kernel
set_option maxRecDepth 20000 in
theorem ggX1_due_X1_linesNow : GoodIn wsX1_due wsX1_linesNow := goodIn_r _ [8, 9, 10, 11, 12, 13, 14, 15, 16, 17, 18, 19, 20, 21, 22, 23, 24] (by decide +kernel) (by decide +kernel)
set_option maxRecDepth 20000 in
theorem gX1_due_X1_linesNow : GoodIn wsX1_due (wsV RX1 36 RX1 yX1_linesNow wsX1_linesNow) := goodIn_app (goodIn_of _ (by decide +kernel)) ggX1_due_X1_linesNow
theorem dX1_due_0 : decode cX1_due 0 = .ok (.aload_n 0, 1) := by decide +kernel
theorem dX1_due_1 : decode cX1_due 1 = .ok (.getfield 7, 3) := by decide +kernel
theorem dX1_due_4 : decode cX1_due 4 = .ok (.iconst 2, 1) := by decide +kernel
theorem dX1_due_5 : decode cX1_due 5 = .ok (.iand, 1) := by decide +kernel
theorem dX1_due_6 : decode cX1_due 6 = .ok (.ifCond .eq 12, 3) := by decide +kernel
theorem dX1_due_9 : decode cX1_due 9 = .ok (.aload_n 0, 1) := by decide +kernel
theorem dX1_due_10 : decode cX1_due 10 = .ok (.getfield 32, 3) := by decide +kernel
theorem dX1_due_13 : decode cX1_due 13 = .ok (.ifCond .eq 5, 3) := by decide +kernel
theorem dX1_due_16 : decode cX1_due 16 = .ok (.iconst 5, 1) := by decide +kernel
theorem dX1_due_17 : decode cX1_due 17 = .ok (.ireturn, 1) := by decide +kernel
theorem dX1_due_18 : decode cX1_due 18 = .ok (.aload_n 0, 1) := by decide +kernel
theorem dX1_due_19 : decode cX1_due 19 = .ok (.getfield 7, 3) := by decide +kernel
theorem dX1_due_22 : decode cX1_due 22 = .ok (.iconst 4, 1) := by decide +kernel
theorem dX1_due_23 : decode cX1_due 23 = .ok (.iand, 1) := by decide +kernel
theorem dX1_due_24 : decode cX1_due 24 = .ok (.ifCond .eq 20, 3) := by decide +kernel
theorem dX1_due_27 : decode cX1_due 27 = .ok (.aload_n 0, 1) := by decide +kernel
theorem dX1_due_28 : decode cX1_due 28 = .ok (.invokevirtual 36, 3) := by decide +kernel
theorem dX1_due_31 : decode cX1_due 31 = .ok (.aload_n 0, 1) := by decide +kernel
theorem dX1_due_32 : decode cX1_due 32 = .ok (.getfield 40, 3) := by decide +kernel
theorem dX1_due_35 : decode cX1_due 35 = .ok (.iand, 1) := by decide +kernel
theorem dX1_due_36 : decode cX1_due 36 = .ok (.ifCond .eq 8, 3) := by decide +kernel
theorem dX1_due_39 : decode cX1_due 39 = .ok (.bipush 8, 2) := by decide +kernel
theorem dX1_due_41 : decode cX1_due 41 = .ok (.goto 4, 3) := by decide +kernel
theorem dX1_due_44 : decode cX1_due 44 = .ok (.iconst 0, 1) := by decide +kernel
theorem dX1_due_45 : decode cX1_due 45 = .ok (.ireturn, 1) := by decide +kernel
set_option maxRecDepth 20000 in
theorem ggX1_entry_X1_goOn : GoodIn wsX1_entry wsX1_goOn := goodIn_r _ [9, 10, 2, 3, 11, 12, 13, 14, 15, 16, 17, 18, 19, 20, 21, 22, 23, 24, 25] (by decide +kernel) (by decide +kernel)
set_option maxRecDepth 20000 in
theorem gX1_entry_X1_goOn : GoodIn wsX1_entry (wsV RX1 43 RX1 yX1_goOn wsX1_goOn) := goodIn_app (goodIn_of _ (by decide +kernel)) ggX1_entry_X1_goOn
theorem dX1_entry_0 : decode cX1_entry 0 = .ok (.aload_n 0, 1) := by decide +kernel
theorem dX1_entry_1 : decode cX1_entry 1 = .ok (.iconst 0, 1) := by decide +kernel
theorem dX1_entry_2 : decode cX1_entry 2 = .ok (.putfield 20, 3) := by decide +kernel
theorem dX1_entry_5 : decode cX1_entry 5 = .ok (.iload_n 1, 1) := by decide +kernel
theorem dX1_entry_6 : decode cX1_entry 6 = .ok (.ifCond .lt 45, 3) := by decide +kernel
theorem dX1_entry_9 : decode cX1_entry 9 = .ok (.aload_n 0, 1) := by decide +kernel
theorem dX1_entry_10 : decode cX1_entry 10 = .ok (.getfield 26, 3) := by decide +kernel
theorem dX1_entry_13 : decode cX1_entry 13 = .ok (.bipush 32, 2) := by decide +kernel
theorem dX1_entry_15 : decode cX1_entry 15 = .ok (.if_icmp .eq 36, 3) := by decide +kernel
theorem dX1_entry_18 : decode cX1_entry 18 = .ok (.aload_n 0, 1) := by decide +kernel
theorem dX1_entry_19 : decode cX1_entry 19 = .ok (.getfield 26, 3) := by decide +kernel
theorem dX1_entry_22 : decode cX1_entry 22 = .ok (.ifCond .le 31, 3) := by decide +kernel
theorem dX1_entry_25 : decode cX1_entry 25 = .ok (.iload_n 1, 1) := by decide +kernel
theorem dX1_entry_26 : decode cX1_entry 26 = .ok (.aload_n 0, 1) := by decide +kernel
theorem dX1_entry_27 : decode cX1_entry 27 = .ok (.getfield 13, 3) := by decide +kernel
theorem dX1_entry_30 : decode cX1_entry 30 = .ok (.aload_n 0, 1) := by decide +kernel
theorem dX1_entry_31 : decode cX1_entry 31 = .ok (.getfield 26, 3) := by decide +kernel
theorem dX1_entry_34 : decode cX1_entry 34 = .ok (.ifCond .le 12, 3) := by decide +kernel
theorem dX1_entry_37 : decode cX1_entry 37 = .ok (.aload_n 0, 1) := by decide +kernel
theorem dX1_entry_38 : decode cX1_entry 38 = .ok (.getfield 26, 3) := by decide +kernel
theorem dX1_entry_41 : decode cX1_entry 41 = .ok (.iconst 1, 1) := by decide +kernel
theorem dX1_entry_42 : decode cX1_entry 42 = .ok (.isub, 1) := by decide +kernel
theorem dX1_entry_43 : decode cX1_entry 43 = .ok (.goto 4, 3) := by decide +kernel
theorem dX1_entry_46 : decode cX1_entry 46 = .ok (.iconst 0, 1) := by decide +kernel
theorem dX1_entry_47 : decode cX1_entry 47 = .ok (.iaload, 1) := by decide +kernel
theorem dX1_entry_48 : decode cX1_entry 48 = .ok (.if_icmp .gt 5, 3) := by decide +kernel
theorem dX1_entry_51 : decode cX1_entry 51 = .ok (.iconst 0, 1) := by decide +kernel
theorem dX1_entry_52 : decode cX1_entry 52 = .ok (.ireturn, 1) := by decide +kernel
theorem dX1_entry_53 : decode cX1_entry 53 = .ok (.aload_n 0, 1) := by decide +kernel
theorem dX1_entry_54 : decode cX1_entry 54 = .ok (.getfield 13, 3) := by decide +kernel
theorem dX1_entry_57 : decode cX1_entry 57 = .ok (.aload_n 0, 1) := by decide +kernel
theorem dX1_entry_58 : decode cX1_entry 58 = .ok (.getfield 26, 3) := by decide +kernel
theorem dX1_entry_61 : decode cX1_entry 61 = .ok (.iload_n 1, 1) := by decide +kernel
theorem dX1_entry_62 : decode cX1_entry 62 = .ok (.iastore, 1) := by decide +kernel
theorem dX1_entry_63 : decode cX1_entry 63 = .ok (.aload_n 0, 1) := by decide +kernel
theorem dX1_entry_64 : decode cX1_entry 64 = .ok (.getfield 17, 3) := by decide +kernel
theorem dX1_entry_67 : decode cX1_entry 67 = .ok (.aload_n 0, 1) := by decide +kernel
theorem dX1_entry_68 : decode cX1_entry 68 = .ok (.getfield 26, 3) := by decide +kernel
theorem dX1_entry_71 : decode cX1_entry 71 = .ok (.iload_n 2, 1) := by decide +kernel
theorem dX1_entry_72 : decode cX1_entry 72 = .ok (.iastore, 1) := by decide +kernel
theorem dX1_entry_73 : decode cX1_entry 73 = .ok (.aload_n 0, 1) := by decide +kernel
theorem dX1_entry_74 : decode cX1_entry 74 = .ok (.dup, 1) := by decide +kernel
theorem dX1_entry_75 : decode cX1_entry 75 = .ok (.getfield 26, 3) := by decide +kernel
theorem dX1_entry_78 : decode cX1_entry 78 = .ok (.iconst 1, 1) := by decide +kernel
theorem dX1_entry_79 : decode cX1_entry 79 = .ok (.iadd, 1) := by decide +kernel
theorem dX1_entry_80 : decode cX1_entry 80 = .ok (.putfield 26, 3) := by decide +kernel
theorem dX1_entry_83 : decode cX1_entry 83 = .ok (.aload_n 0, 1) := by decide +kernel
theorem dX1_entry_84 : decode cX1_entry 84 = .ok (.invokevirtual 43, 3) := by decide +kernel
theorem dX1_entry_87 : decode cX1_entry 87 = .ok (.iconst 1, 1) := by decide +kernel
theorem dX1_entry_88 : decode cX1_entry 88 = .ok (.ireturn, 1) := by decide +kernel
set_option maxRecDepth 20000 in
theorem ggX1_step_X1_goOn : GoodIn wsX1_step wsX1_goOn := goodIn_r _ [10, 11, 12, 13, 1, 14, 15, 16, 17, 18, 19, 20, 21, 22, 23, 24, 25, 26, 27] (by decide +kernel) (by decide +kernel)
set_option maxRecDepth 20000 in
theorem gX1_step_X1_goOn : GoodIn wsX1_step (wsV RX1 43 RX1 yX1_goOn wsX1_goOn) := goodIn_app (goodIn_of _ (by decide +kernel)) ggX1_step_X1_goOn
theorem dX1_step_0 : decode cX1_step 0 = .ok (.aload_n 0, 1) := by decide +kernel
theorem dX1_step_1 : decode cX1_step 1 = .ok (.dup, 1) := by decide +kernel
theorem dX1_step_2 : decode cX1_step 2 = .ok (.getfield 29, 3) := by decide +kernel
theorem dX1_step_5 : decode cX1_step 5 = .ok (.iconst 1, 1) := by decide +kernel
theorem dX1_step_6 : decode cX1_step 6 = .ok (.iadd, 1) := by decide +kernel
theorem dX1_step_7 : decode cX1_step 7 = .ok (.putfield 29, 3) := by decide +kernel
theorem dX1_step_10 : decode cX1_step 10 = .ok (.aload_n 0, 1) := by decide +kernel
theorem dX1_step_11 : decode cX1_step 11 = .ok (.getfield 46, 3) := by decide +kernel
theorem dX1_step_14 : decode cX1_step 14 = .ok (.ifCond .eq 34, 3) := by decide +kernel
theorem dX1_step_17 : decode cX1_step 17 = .ok (.aload_n 0, 1) := by decide +kernel
theorem dX1_step_18 : decode cX1_step 18 = .ok (.dup, 1) := by decide +kernel
theorem dX1_step_19 : decode cX1_step 19 = .ok (.getfield 49, 3) := by decide +kernel
theorem dX1_step_22 : decode cX1_step 22 = .ok (.iconst 1, 1) := by decide +kernel
theorem dX1_step_23 : decode cX1_step 23 = .ok (.iadd, 1) := by decide +kernel
theorem dX1_step_24 : decode cX1_step 24 = .ok (.putfield 49, 3) := by decide +kernel
theorem dX1_step_27 : decode cX1_step 27 = .ok (.aload_n 0, 1) := by decide +kernel
theorem dX1_step_28 : decode cX1_step 28 = .ok (.getfield 49, 3) := by decide +kernel
theorem dX1_step_31 : decode cX1_step 31 = .ok (.aload_n 0, 1) := by decide +kernel
theorem dX1_step_32 : decode cX1_step 32 = .ok (.getfield 52, 3) := by decide +kernel
theorem dX1_step_35 : decode cX1_step 35 = .ok (.if_icmp .ne 13, 3) := by decide +kernel
theorem dX1_step_38 : decode cX1_step 38 = .ok (.aload_n 0, 1) := by decide +kernel
theorem dX1_step_39 : decode cX1_step 39 = .ok (.iconst 1, 1) := by decide +kernel
theorem dX1_step_40 : decode cX1_step 40 = .ok (.putfield 32, 3) := by decide +kernel
theorem dX1_step_43 : decode cX1_step 43 = .ok (.aload_n 0, 1) := by decide +kernel
theorem dX1_step_44 : decode cX1_step 44 = .ok (.iconst 0, 1) := by decide +kernel
theorem dX1_step_45 : decode cX1_step 45 = .ok (.putfield 49, 3) := by decide +kernel
theorem dX1_step_48 : decode cX1_step 48 = .ok (.aload_n 0, 1) := by decide +kernel
theorem dX1_step_49 : decode cX1_step 49 = .ok (.invokevirtual 43, 3) := by decide +kernel
theorem dX1_step_52 : decode cX1_step 52 = .ok (.return_, 1) := by decide +kernel
set_option maxRecDepth 20000 in
theorem ggX1_steps_X1_due : GoodIn wsX1_steps wsX1_due := goodIn_r _ [8, 9, 10, 11, 12, 13, 14, 7, 15, 16, 17, 31, 32, 33, 34, 35, 36, 37, 38, 39, 40, 41, 42, 43, 44] (by decide +kernel) (by decide +kernel)
set_option maxRecDepth 20000 in
theorem gX1_steps_X1_due : GoodIn wsX1_steps (wsV RX1 56 RX1 yX1_due wsX1_due) := goodIn_app (goodIn_of _ (by decide +kernel)) ggX1_steps_X1_due
set_option maxRecDepth 20000 in
theorem ggX1_steps_X1_step : GoodIn wsX1_steps wsX1_step := goodIn_r _ [21, 2, 22, 23, 24, 10, 25, 26, 27, 7, 28, 16, 29, 30, 31, 32, 33, 34, 35, 36, 37, 38, 39, 40, 41, 42, 43, 44] (by decide +kernel) (by decide +kernel)
set_option maxRecDepth 20000 in
theorem gX1_steps_X1_step : GoodIn wsX1_steps (wsV RX1 59 RX1 yX1_step wsX1_step) := goodIn_app (goodIn_of _ (by decide +kernel)) ggX1_steps_X1_step
theorem dX1_steps_0 : decode cX1_steps 0 = .ok (.aload_n 0, 1) := by decide +kernel
theorem dX1_steps_1 : decode cX1_steps 1 = .ok (.iconst 0, 1) := by decide +kernel
theorem dX1_steps_2 : decode cX1_steps 2 = .ok (.putfield 20, 3) := by decide +kernel
theorem dX1_steps_5 : decode cX1_steps 5 = .ok (.iload_n 1, 1) := by decide +kernel
theorem dX1_steps_6 : decode cX1_steps 6 = .ok (.iconst 1, 1) := by decide +kernel
theorem dX1_steps_7 : decode cX1_steps 7 = .ok (.if_icmp .lt 21, 3) := by decide +kernel
theorem dX1_steps_10 : decode cX1_steps 10 = .ok (.iload_n 1, 1) := by decide +kernel
theorem dX1_steps_11 : decode cX1_steps 11 = .ok (.sipush 20000, 3) := by decide +kernel
theorem dX1_steps_14 : decode cX1_steps 14 = .ok (.if_icmp .gt 14, 3) := by decide +kernel
theorem dX1_steps_17 : decode cX1_steps 17 = .ok (.aload_n 0, 1) := by decide +kernel
theorem dX1_steps_18 : decode cX1_steps 18 = .ok (.getfield 29, 3) := by decide +kernel
theorem dX1_steps_21 : decode cX1_steps 21 = .ok (.ldc 55, 2) := by decide +kernel
theorem dX1_steps_23 : decode cX1_steps 23 = .ok (.iload_n 1, 1) := by decide +kernel
theorem dX1_steps_24 : decode cX1_steps 24 = .ok (.isub, 1) := by decide +kernel
theorem dX1_steps_25 : decode cX1_steps 25 = .ok (.if_icmp .le 5, 3) := by decide +kernel
theorem dX1_steps_28 : decode cX1_steps 28 = .ok (.iconst (-1), 1) := by decide +kernel
theorem dX1_steps_29 : decode cX1_steps 29 = .ok (.ireturn, 1) := by decide +kernel
theorem dX1_steps_30 : decode cX1_steps 30 = .ok (.iconst 0, 1) := by decide +kernel
theorem dX1_steps_31 : decode cX1_steps 31 = .ok (.istore_n 2, 1) := by decide +kernel
theorem dX1_steps_32 : decode cX1_steps 32 = .ok (.iload_n 2, 1) := by decide +kernel
theorem dX1_steps_33 : decode cX1_steps 33 = .ok (.iload_n 1, 1) := by decide +kernel
theorem dX1_steps_34 : decode cX1_steps 34 = .ok (.if_icmp .ge 20, 3) := by decide +kernel
theorem dX1_steps_37 : decode cX1_steps 37 = .ok (.aload_n 0, 1) := by decide +kernel
theorem dX1_steps_38 : decode cX1_steps 38 = .ok (.invokevirtual 56, 3) := by decide +kernel
theorem dX1_steps_41 : decode cX1_steps 41 = .ok (.ifCond .ne 13, 3) := by decide +kernel
theorem dX1_steps_44 : decode cX1_steps 44 = .ok (.aload_n 0, 1) := by decide +kernel
theorem dX1_steps_45 : decode cX1_steps 45 = .ok (.invokevirtual 59, 3) := by decide +kernel
theorem dX1_steps_48 : decode cX1_steps 48 = .ok (.iinc 2 1, 3) := by decide +kernel
theorem dX1_steps_51 : decode cX1_steps 51 = .ok (.goto (-19), 3) := by decide +kernel
theorem dX1_steps_54 : decode cX1_steps 54 = .ok (.iload_n 2, 1) := by decide +kernel
theorem dX1_steps_55 : decode cX1_steps 55 = .ok (.ireturn, 1) := by decide +kernel
set_option maxRecDepth 20000 in
theorem ggX1_take_X1_due : GoodIn wsX1_take wsX1_due := goodIn_r _ [9, 2, 10, 11, 12, 13, 14, 8, 15, 16, 17, 18, 19, 20, 21, 22, 23, 24, 25, 26, 27, 28, 29, 30, 31] (by decide +kernel) (by decide +kernel)
set_option maxRecDepth 20000 in
theorem gX1_take_X1_due : GoodIn wsX1_take (wsV RX1 56 RX1 yX1_due wsX1_due) := goodIn_app (goodIn_of _ (by decide +kernel)) ggX1_take_X1_due
theorem dX1_take_0 : decode cX1_take 0 = .ok (.aload_n 0, 1) := by decide +kernel
theorem dX1_take_1 : decode cX1_take 1 = .ok (.iconst 0, 1) := by decide +kernel
theorem dX1_take_2 : decode cX1_take 2 = .ok (.putfield 20, 3) := by decide +kernel
theorem dX1_take_5 : decode cX1_take 5 = .ok (.aload_n 0, 1) := by decide +kernel
theorem dX1_take_6 : decode cX1_take 6 = .ok (.invokevirtual 56, 3) := by decide +kernel
theorem dX1_take_9 : decode cX1_take 9 = .ok (.istore_n 1, 1) := by decide +kernel
theorem dX1_take_10 : decode cX1_take 10 = .ok (.iload_n 1, 1) := by decide +kernel
theorem dX1_take_11 : decode cX1_take 11 = .ok (.ifCond .le 34, 3) := by decide +kernel
theorem dX1_take_14 : decode cX1_take 14 = .ok (.aload_n 0, 1) := by decide +kernel
theorem dX1_take_15 : decode cX1_take 15 = .ok (.aload_n 0, 1) := by decide +kernel
theorem dX1_take_16 : decode cX1_take 16 = .ok (.getfield 7, 3) := by decide +kernel
theorem dX1_take_19 : decode cX1_take 19 = .ok (.putfield 62, 3) := by decide +kernel
theorem dX1_take_22 : decode cX1_take 22 = .ok (.aload_n 0, 1) := by decide +kernel
theorem dX1_take_23 : decode cX1_take 23 = .ok (.aload_n 0, 1) := by decide +kernel
theorem dX1_take_24 : decode cX1_take 24 = .ok (.getfield 7, 3) := by decide +kernel
theorem dX1_take_27 : decode cX1_take 27 = .ok (.bipush 32, 2) := by decide +kernel
theorem dX1_take_29 : decode cX1_take 29 = .ok (.iand, 1) := by decide +kernel
theorem dX1_take_30 : decode cX1_take 30 = .ok (.iconst 1, 1) := by decide +kernel
theorem dX1_take_31 : decode cX1_take 31 = .ok (.ior, 1) := by decide +kernel
theorem dX1_take_32 : decode cX1_take 32 = .ok (.putfield 7, 3) := by decide +kernel
theorem dX1_take_35 : decode cX1_take 35 = .ok (.aload_n 0, 1) := by decide +kernel
theorem dX1_take_36 : decode cX1_take 36 = .ok (.dup, 1) := by decide +kernel
theorem dX1_take_37 : decode cX1_take 37 = .ok (.getfield 65, 3) := by decide +kernel
theorem dX1_take_40 : decode cX1_take 40 = .ok (.iconst 1, 1) := by decide +kernel
theorem dX1_take_41 : decode cX1_take 41 = .ok (.iadd, 1) := by decide +kernel
theorem dX1_take_42 : decode cX1_take 42 = .ok (.putfield 65, 3) := by decide +kernel
theorem dX1_take_45 : decode cX1_take 45 = .ok (.iload_n 1, 1) := by decide +kernel
theorem dX1_take_46 : decode cX1_take 46 = .ok (.ireturn, 1) := by decide +kernel
theorem dX1_back_0 : decode cX1_back 0 = .ok (.aload_n 0, 1) := by decide +kernel
theorem dX1_back_1 : decode cX1_back 1 = .ok (.iconst 0, 1) := by decide +kernel
theorem dX1_back_2 : decode cX1_back 2 = .ok (.putfield 20, 3) := by decide +kernel
theorem dX1_back_5 : decode cX1_back 5 = .ok (.aload_n 0, 1) := by decide +kernel
theorem dX1_back_6 : decode cX1_back 6 = .ok (.aload_n 0, 1) := by decide +kernel
theorem dX1_back_7 : decode cX1_back 7 = .ok (.getfield 62, 3) := by decide +kernel
theorem dX1_back_10 : decode cX1_back 10 = .ok (.putfield 7, 3) := by decide +kernel
theorem dX1_back_13 : decode cX1_back 13 = .ok (.return_, 1) := by decide +kernel
theorem dJ9_min_f86c9_0 : decode cJ9_min_f86c9 0 = .ok (.lload_n 0, 1) := by decide +kernel
theorem dJ9_min_f86c9_1 : decode cJ9_min_f86c9 1 = .ok (.lload_n 2, 1) := by decide +kernel
theorem dJ9_min_f86c9_2 : decode cJ9_min_f86c9 2 = .ok (.lcmp, 1) := by decide +kernel
theorem dJ9_min_f86c9_3 : decode cJ9_min_f86c9 3 = .ok (.ifCond .gt 7, 3) := by decide +kernel
theorem dJ9_min_f86c9_6 : decode cJ9_min_f86c9 6 = .ok (.lload_n 0, 1) := by decide +kernel
theorem dJ9_min_f86c9_7 : decode cJ9_min_f86c9 7 = .ok (.goto 4, 3) := by decide +kernel
theorem dJ9_min_f86c9_10 : decode cJ9_min_f86c9 10 = .ok (.lload_n 2, 1) := by decide +kernel
theorem dJ9_min_f86c9_11 : decode cJ9_min_f86c9 11 = .ok (.lreturn, 1) := by decide +kernel
set_option maxRecDepth 20000 in
theorem ggL_law_X0_init : GoodIn wsL_law wsX0_init := goodIn_r _ [8, 9, 10, 11, 12, 13, 14, 15, 16, 17, 2, 18, 19, 20, 21, 22, 23, 24, 25, 26, 27, 28, 182, 183, 184, 185, 186, 187, 188, 189, 190, 191, 192, 193] (by decide +kernel) (by decide +kernel)
set_option maxRecDepth 20000 in
theorem gL_law_X0_init : GoodIn wsL_law (wsX0_init) := ggL_law_X0_init
set_option maxRecDepth 20000 in
theorem ggL_law_X1_init : GoodIn wsL_law wsX1_init := goodIn_r _ [31, 32, 10, 11, 33, 12, 34, 35, 194, 195, 196, 197, 198, 199, 200, 201, 202, 203, 204, 205, 206, 207] (by decide +kernel) (by decide +kernel)
set_option maxRecDepth 20000 in
theorem gL_law_X1_init : GoodIn wsL_law (wsX1_init) := ggL_law_X1_init
set_option maxRecDepth 20000 in
theorem ggL_law_X0_entry : GoodIn wsL_law wsX0_entry := goodIn_r _ [39, 19, 13, 14, 40, 41, 42, 2, 43, 182, 183, 184, 185, 186, 187, 188, 189, 190, 191, 192, 193] (by decide +kernel) (by decide +kernel)
set_option maxRecDepth 20000 in
theorem gL_law_X0_entry : GoodIn wsL_law (wsV RL 13 RX0 yX0_entry wsX0_entry) := goodIn_app (goodIn_of _ (by decide +kernel)) ggL_law_X0_entry
set_option maxRecDepth 20000 in
theorem ggL_law_X1_entry : GoodIn wsL_law wsX1_entry := goodIn_r _ [47, 48, 49, 34, 35, 50, 51, 52, 5, 53, 54, 55, 194, 195, 196, 197, 198, 199, 200, 201, 202, 203, 204, 205, 206, 207] (by decide +kernel) (by decide +kernel)
set_option maxRecDepth 20000 in
theorem gL_law_X1_entry : GoodIn wsL_law (wsV RL 17 RX1 yX1_entry wsX1_entry) := goodIn_app (goodIn_of _ (by decide +kernel)) ggL_law_X1_entry
set_option maxRecDepth 20000 in
theorem ggL_law_X0_steps : GoodIn wsL_law wsX0_steps := goodIn_r _ [59, 60, 20, 61, 62, 63, 2, 64, 65, 66, 67, 68, 69, 70, 71, 72, 24, 73, 74, 75, 76, 26, 77, 78, 79, 80, 19, 13, 14, 81, 82, 83, 84, 25, 85, 86, 87, 88, 23, 89, 90, 91, 92, 93, 22, 21, 94, 95, 96, 97, 98, 99, 100, 101, 102, 103, 104, 105, 106, 107, 182, 183, 184, 185, 186, 187, 188, 189, 190, 191, 192, 193] (by decide +kernel) (by decide +kernel)
set_option maxRecDepth 20000 in
theorem gL_law_X0_steps : GoodIn wsL_law (wsV RL 18 RX0 yX0_steps wsX0_steps) := goodIn_app (goodIn_of _ (by decide +kernel)) ggL_law_X0_steps
set_option maxRecDepth 20000 in
theorem ggL_law_X1_steps : GoodIn wsL_law wsX1_steps := goodIn_r _ [111, 48, 55, 112, 113, 114, 115, 5, 116, 33, 117, 118, 119, 120, 121, 122, 54, 35, 123, 124, 125, 126, 127, 128, 129, 50, 51, 52, 53, 49, 34, 194, 195, 196, 197, 198, 199, 200, 201, 202, 203, 204, 205, 206, 207] (by decide +kernel) (by decide +kernel)
set_option maxRecDepth 20000 in
theorem gL_law_X1_steps : GoodIn wsL_law (wsV RL 22 RX1 yX1_steps wsX1_steps) := goodIn_app (goodIn_of _ (by decide +kernel)) ggL_law_X1_steps
set_option maxRecDepth 20000 in
theorem ggL_law_X0_take : GoodIn wsL_law wsX0_take := goodIn_r _ [133, 26, 27, 28, 69, 70, 71, 2, 72, 24, 20, 73, 74, 75, 76, 77, 78, 79, 80, 19, 13, 14, 81, 82, 83, 84, 25, 182, 183, 184, 185, 186, 187, 188, 189, 190, 191, 192, 193] (by decide +kernel) (by decide +kernel)
set_option maxRecDepth 20000 in
theorem gL_law_X0_take : GoodIn wsL_law (wsV RL 23 RX0 yX0_take wsX0_take) := goodIn_app (goodIn_of _ (by decide +kernel)) ggL_law_X0_take
set_option maxRecDepth 20000 in
theorem ggL_law_X1_take : GoodIn wsL_law wsX1_take := goodIn_r _ [137, 48, 33, 138, 139, 113, 114, 115, 5, 116, 117, 118, 119, 120, 121, 122, 54, 35, 194, 195, 196, 197, 198, 199, 200, 201, 202, 203, 204, 205, 206, 207] (by decide +kernel) (by decide +kernel)
set_option maxRecDepth 20000 in
theorem gL_law_X1_take : GoodIn wsL_law (wsV RL 27 RX1 yX1_take wsX1_take) := goodIn_app (goodIn_of _ (by decide +kernel)) ggL_law_X1_take
set_option maxRecDepth 20000 in
theorem ggL_law_X0_back : GoodIn wsL_law wsX0_back := goodIn_r _ [143, 27, 26, 182, 183, 184, 185, 186, 187, 188, 189, 190, 191, 192, 193] (by decide +kernel) (by decide +kernel)
set_option maxRecDepth 20000 in
theorem gL_law_X0_back : GoodIn wsL_law (wsV RL 28 RX0 yX0_back wsX0_back) := goodIn_app (goodIn_of _ (by decide +kernel)) ggL_law_X0_back
set_option maxRecDepth 20000 in
theorem ggL_law_X1_back : GoodIn wsL_law wsX1_back := goodIn_r _ [147, 48, 138, 33, 194, 195, 196, 197, 198, 199, 200, 201, 202, 203, 204, 205, 206, 207] (by decide +kernel) (by decide +kernel)
set_option maxRecDepth 20000 in
theorem gL_law_X1_back : GoodIn wsL_law (wsV RL 31 RX1 yX1_back wsX1_back) := goodIn_app (goodIn_of _ (by decide +kernel)) ggL_law_X1_back
set_option maxRecDepth 20000 in
theorem ggL_law_X0_mode : GoodIn wsL_law wsX0_mode := goodIn_r _ [151, 26, 182, 183, 184, 185, 186, 187, 188, 189, 190, 191, 192, 193] (by decide +kernel) (by decide +kernel)
set_option maxRecDepth 20000 in
theorem gL_law_X0_mode : GoodIn wsL_law (wsV RL 32 RX0 yX0_mode wsX0_mode) := goodIn_app (goodIn_of _ (by decide +kernel)) ggL_law_X0_mode
set_option maxRecDepth 20000 in
theorem ggL_law_X0_mask : GoodIn wsL_law wsX0_mask := goodIn_r _ [155, 25, 182, 183, 184, 185, 186, 187, 188, 189, 190, 191, 192, 193] (by decide +kernel) (by decide +kernel)
set_option maxRecDepth 20000 in
theorem gL_law_X0_mask : GoodIn wsL_law (wsV RL 37 RX0 yX0_mask wsX0_mask) := goodIn_app (goodIn_of _ (by decide +kernel)) ggL_law_X0_mask
set_option maxRecDepth 20000 in
theorem ggL_law_X0_timer : GoodIn wsL_law wsX0_timer := goodIn_r _ [159, 160, 22, 23, 24, 182, 183, 184, 185, 186, 187, 188, 189, 190, 191, 192, 193] (by decide +kernel) (by decide +kernel)
set_option maxRecDepth 20000 in
theorem gL_law_X0_timer : GoodIn wsL_law (wsV RL 41 RX0 yX0_timer wsX0_timer) := goodIn_app (goodIn_of _ (by decide +kernel)) ggL_law_X0_timer
set_option maxRecDepth 20000 in
theorem ggL_law_X0_count : GoodIn wsL_law wsX0_count := goodIn_r _ [164, 21, 182, 183, 184, 185, 186, 187, 188, 189, 190, 191, 192, 193] (by decide +kernel) (by decide +kernel)
set_option maxRecDepth 20000 in
theorem gL_law_X0_count : GoodIn wsL_law (wsV RL 46 RX0 yX0_count wsX0_count) := goodIn_app (goodIn_of _ (by decide +kernel)) ggL_law_X0_count
set_option maxRecDepth 20000 in
theorem ggL_law_X0_reset : GoodIn wsL_law wsX0_reset := goodIn_r _ [168, 15, 16, 17, 2, 18, 19, 20, 21, 22, 23, 24, 25, 26, 27, 28, 182, 183, 184, 185, 186, 187, 188, 189, 190, 191, 192, 193] (by decide +kernel) (by decide +kernel)
set_option maxRecDepth 20000 in
theorem gL_law_X0_reset : GoodIn wsL_law (wsV RL 50 RX0 yX0_reset wsX0_reset) := goodIn_app (goodIn_of _ (by decide +kernel)) ggL_law_X0_reset
set_option maxRecDepth 20000 in
theorem ggL_law_X0_until : GoodIn wsL_law wsX0_until := goodIn_r _ [172, 60, 20, 61, 62, 63, 2, 64, 65, 66, 67, 68, 69, 70, 71, 72, 24, 73, 74, 75, 76, 26, 77, 78, 79, 80, 19, 13, 14, 81, 82, 83, 84, 25, 85, 86, 87, 88, 23, 89, 90, 91, 92, 93, 22, 21, 94, 95, 96, 97, 98, 99, 182, 183, 184, 185, 186, 187, 188, 189, 190, 191, 192, 193] (by decide +kernel) (by decide +kernel)
set_option maxRecDepth 20000 in
theorem gL_law_X0_until : GoodIn wsL_law (wsV RL 54 RX0 yX0_until wsX0_until) := goodIn_app (goodIn_of _ (by decide +kernel)) ggL_law_X0_until
set_option maxRecDepth 20000 in
theorem ggL_law_X0_linesAt : GoodIn wsL_law wsX0_linesAt := goodIn_r _ [80, 19, 13, 14, 182, 183, 184, 185, 186, 187, 188, 189, 190, 191, 192, 193] (by decide +kernel) (by decide +kernel)
set_option maxRecDepth 20000 in
theorem gL_law_X0_linesAt : GoodIn wsL_law (wsV RL 58 RX0 yX0_linesAt wsX0_linesAt) := goodIn_app (goodIn_of _ (by decide +kernel)) ggL_law_X0_linesAt
set_option maxRecDepth 20000 in
theorem ggL_law_X0_entryOf : GoodIn wsL_law wsX0_entryOf := goodIn_r _ [177, 19, 14, 13, 182, 183, 184, 185, 186, 187, 188, 189, 190, 191, 192, 193] (by decide +kernel) (by decide +kernel)
set_option maxRecDepth 20000 in
theorem gL_law_X0_entryOf : GoodIn wsL_law (wsV RL 62 RX0 yX0_entryOf wsX0_entryOf) := goodIn_app (goodIn_of _ (by decide +kernel)) ggL_law_X0_entryOf
set_option maxRecDepth 20000 in
theorem ggL_law_X0_look : GoodIn wsL_law wsX0_look := goodIn_r _ [181, 20, 21, 22, 24, 23, 25, 26, 27, 28, 19, 77, 78, 79, 2, 80, 13, 14, 69, 70, 71, 72, 73, 74, 75, 76, 81, 82, 83, 84, 182, 183, 184, 185, 186, 187, 188, 189, 190, 191, 192, 193] (by decide +kernel) (by decide +kernel)
set_option maxRecDepth 20000 in
theorem gL_law_X0_look : GoodIn wsL_law (wsV RL 67 RX0 yX0_look wsX0_look) := goodIn_app (goodIn_of _ (by decide +kernel)) ggL_law_X0_look
theorem dL_law_0 : decode cL_law 0 = .ok (.new 7, 3) := by decide +kernel
theorem dL_law_3 : decode cL_law 3 = .ok (.dup, 1) := by decide +kernel
theorem dL_law_4 : decode cL_law 4 = .ok (.invokespecial 9, 3) := by decide +kernel
theorem dL_law_7 : decode cL_law 7 = .ok (.astore_n 1, 1) := by decide +kernel
theorem dL_law_8 : decode cL_law 8 = .ok (.new 10, 3) := by decide +kernel
theorem dL_law_11 : decode cL_law 11 = .ok (.dup, 1) := by decide +kernel
theorem dL_law_12 : decode cL_law 12 = .ok (.invokespecial 12, 3) := by decide +kernel
theorem dL_law_15 : decode cL_law 15 = .ok (.astore_n 2, 1) := by decide +kernel
theorem dL_law_16 : decode cL_law 16 = .ok (.iconst 0, 1) := by decide +kernel
theorem dL_law_17 : decode cL_law 17 = .ok (.istore_n 3, 1) := by decide +kernel
theorem dL_law_18 : decode cL_law 18 = .ok (.iload_n 3, 1) := by decide +kernel
theorem dL_law_19 : decode cL_law 19 = .ok (.aload_n 0, 1) := by decide +kernel
theorem dL_law_20 : decode cL_law 20 = .ok (.arraylength, 1) := by decide +kernel
theorem dL_law_21 : decode cL_law 21 = .ok (.iconst 4, 1) := by decide +kernel
theorem dL_law_22 : decode cL_law 22 = .ok (.isub, 1) := by decide +kernel
theorem dL_law_23 : decode cL_law 23 = .ok (.if_icmp .gt 418, 3) := by decide +kernel
theorem dL_law_26 : decode cL_law 26 = .ok (.aload_n 0, 1) := by decide +kernel
theorem dL_law_27 : decode cL_law 27 = .ok (.iload_n 3, 1) := by decide +kernel
theorem dL_law_28 : decode cL_law 28 = .ok (.iaload, 1) := by decide +kernel
theorem dL_law_29 : decode cL_law 29 = .ok (.bipush 15, 2) := by decide +kernel
theorem dL_law_31 : decode cL_law 31 = .ok (.iand, 1) := by decide +kernel
theorem dL_law_32 : decode cL_law 32 = .ok (.tableswitch 403 0 12 #[68, 101, 124, 137, 148, 169, 190, 263, 284, 295, 308, 331, 380], 68) := by decide +kernel
theorem dL_law_100 : decode cL_law 100 = .ok (.aload_n 1, 1) := by decide +kernel
theorem dL_law_101 : decode cL_law 101 = .ok (.aload_n 0, 1) := by decide +kernel
theorem dL_law_102 : decode cL_law 102 = .ok (.iload_n 3, 1) := by decide +kernel
theorem dL_law_103 : decode cL_law 103 = .ok (.iconst 1, 1) := by decide +kernel
theorem dL_law_104 : decode cL_law 104 = .ok (.iadd, 1) := by decide +kernel
theorem dL_law_105 : decode cL_law 105 = .ok (.iaload, 1) := by decide +kernel
theorem dL_law_106 : decode cL_law 106 = .ok (.aload_n 0, 1) := by decide +kernel
theorem dL_law_107 : decode cL_law 107 = .ok (.iload_n 3, 1) := by decide +kernel
theorem dL_law_108 : decode cL_law 108 = .ok (.iconst 2, 1) := by decide +kernel
theorem dL_law_109 : decode cL_law 109 = .ok (.iadd, 1) := by decide +kernel
theorem dL_law_110 : decode cL_law 110 = .ok (.iaload, 1) := by decide +kernel
theorem dL_law_111 : decode cL_law 111 = .ok (.invokevirtual 13, 3) := by decide +kernel
theorem dL_law_114 : decode cL_law 114 = .ok (.aload_n 2, 1) := by decide +kernel
theorem dL_law_115 : decode cL_law 115 = .ok (.aload_n 0, 1) := by decide +kernel
theorem dL_law_116 : decode cL_law 116 = .ok (.iload_n 3, 1) := by decide +kernel
theorem dL_law_117 : decode cL_law 117 = .ok (.iconst 1, 1) := by decide +kernel
theorem dL_law_118 : decode cL_law 118 = .ok (.iadd, 1) := by decide +kernel
theorem dL_law_119 : decode cL_law 119 = .ok (.iaload, 1) := by decide +kernel
theorem dL_law_120 : decode cL_law 120 = .ok (.aload_n 0, 1) := by decide +kernel
theorem dL_law_121 : decode cL_law 121 = .ok (.iload_n 3, 1) := by decide +kernel
theorem dL_law_122 : decode cL_law 122 = .ok (.iconst 2, 1) := by decide +kernel
theorem dL_law_123 : decode cL_law 123 = .ok (.iadd, 1) := by decide +kernel
theorem dL_law_124 : decode cL_law 124 = .ok (.iaload, 1) := by decide +kernel
theorem dL_law_125 : decode cL_law 125 = .ok (.invokevirtual 17, 3) := by decide +kernel
theorem dL_law_128 : decode cL_law 128 = .ok (.if_icmp .eq 307, 3) := by decide +kernel
theorem dL_law_131 : decode cL_law 131 = .ok (.iconst 0, 1) := by decide +kernel
theorem dL_law_132 : decode cL_law 132 = .ok (.ireturn, 1) := by decide +kernel
theorem dL_law_133 : decode cL_law 133 = .ok (.aload_n 1, 1) := by decide +kernel
theorem dL_law_134 : decode cL_law 134 = .ok (.aload_n 0, 1) := by decide +kernel
theorem dL_law_135 : decode cL_law 135 = .ok (.iload_n 3, 1) := by decide +kernel
theorem dL_law_136 : decode cL_law 136 = .ok (.iconst 1, 1) := by decide +kernel
theorem dL_law_137 : decode cL_law 137 = .ok (.iadd, 1) := by decide +kernel
theorem dL_law_138 : decode cL_law 138 = .ok (.iaload, 1) := by decide +kernel
theorem dL_law_139 : decode cL_law 139 = .ok (.invokevirtual 18, 3) := by decide +kernel
theorem dL_law_142 : decode cL_law 142 = .ok (.aload_n 2, 1) := by decide +kernel
theorem dL_law_143 : decode cL_law 143 = .ok (.aload_n 0, 1) := by decide +kernel
theorem dL_law_144 : decode cL_law 144 = .ok (.iload_n 3, 1) := by decide +kernel
theorem dL_law_145 : decode cL_law 145 = .ok (.iconst 1, 1) := by decide +kernel
theorem dL_law_146 : decode cL_law 146 = .ok (.iadd, 1) := by decide +kernel
theorem dL_law_147 : decode cL_law 147 = .ok (.iaload, 1) := by decide +kernel
theorem dL_law_148 : decode cL_law 148 = .ok (.invokevirtual 22, 3) := by decide +kernel
theorem dL_law_151 : decode cL_law 151 = .ok (.if_icmp .eq 284, 3) := by decide +kernel
theorem dL_law_154 : decode cL_law 154 = .ok (.iconst 0, 1) := by decide +kernel
theorem dL_law_155 : decode cL_law 155 = .ok (.ireturn, 1) := by decide +kernel
theorem dL_law_156 : decode cL_law 156 = .ok (.aload_n 1, 1) := by decide +kernel
theorem dL_law_157 : decode cL_law 157 = .ok (.invokevirtual 23, 3) := by decide +kernel
theorem dL_law_160 : decode cL_law 160 = .ok (.aload_n 2, 1) := by decide +kernel
theorem dL_law_161 : decode cL_law 161 = .ok (.invokevirtual 27, 3) := by decide +kernel
theorem dL_law_164 : decode cL_law 164 = .ok (.if_icmp .eq 271, 3) := by decide +kernel
theorem dL_law_167 : decode cL_law 167 = .ok (.iconst 0, 1) := by decide +kernel
theorem dL_law_168 : decode cL_law 168 = .ok (.ireturn, 1) := by decide +kernel
theorem dL_law_169 : decode cL_law 169 = .ok (.aload_n 1, 1) := by decide +kernel
theorem dL_law_170 : decode cL_law 170 = .ok (.invokevirtual 28, 3) := by decide +kernel
theorem dL_law_173 : decode cL_law 173 = .ok (.aload_n 2, 1) := by decide +kernel
theorem dL_law_174 : decode cL_law 174 = .ok (.invokevirtual 31, 3) := by decide +kernel
theorem dL_law_177 : decode cL_law 177 = .ok (.goto 258, 3) := by decide +kernel
theorem dL_law_180 : decode cL_law 180 = .ok (.aload_n 1, 1) := by decide +kernel
theorem dL_law_181 : decode cL_law 181 = .ok (.aload_n 0, 1) := by decide +kernel
theorem dL_law_182 : decode cL_law 182 = .ok (.iload_n 3, 1) := by decide +kernel
theorem dL_law_183 : decode cL_law 183 = .ok (.iconst 1, 1) := by decide +kernel
theorem dL_law_184 : decode cL_law 184 = .ok (.iadd, 1) := by decide +kernel
theorem dL_law_185 : decode cL_law 185 = .ok (.iaload, 1) := by decide +kernel
theorem dL_law_186 : decode cL_law 186 = .ok (.invokevirtual 32, 3) := by decide +kernel
theorem dL_law_189 : decode cL_law 189 = .ok (.aload_n 2, 1) := by decide +kernel
theorem dL_law_190 : decode cL_law 190 = .ok (.aload_n 0, 1) := by decide +kernel
theorem dL_law_191 : decode cL_law 191 = .ok (.iload_n 3, 1) := by decide +kernel
theorem dL_law_192 : decode cL_law 192 = .ok (.iconst 1, 1) := by decide +kernel
theorem dL_law_193 : decode cL_law 193 = .ok (.iadd, 1) := by decide +kernel
theorem dL_law_194 : decode cL_law 194 = .ok (.iaload, 1) := by decide +kernel
theorem dL_law_195 : decode cL_law 195 = .ok (.invokevirtual 36, 3) := by decide +kernel
theorem dL_law_198 : decode cL_law 198 = .ok (.goto 237, 3) := by decide +kernel
theorem dL_law_201 : decode cL_law 201 = .ok (.aload_n 1, 1) := by decide +kernel
theorem dL_law_202 : decode cL_law 202 = .ok (.aload_n 0, 1) := by decide +kernel
theorem dL_law_203 : decode cL_law 203 = .ok (.iload_n 3, 1) := by decide +kernel
theorem dL_law_204 : decode cL_law 204 = .ok (.iconst 1, 1) := by decide +kernel
theorem dL_law_205 : decode cL_law 205 = .ok (.iadd, 1) := by decide +kernel
theorem dL_law_206 : decode cL_law 206 = .ok (.iaload, 1) := by decide +kernel
theorem dL_law_207 : decode cL_law 207 = .ok (.invokevirtual 37, 3) := by decide +kernel
theorem dL_law_210 : decode cL_law 210 = .ok (.aload_n 2, 1) := by decide +kernel
theorem dL_law_211 : decode cL_law 211 = .ok (.aload_n 0, 1) := by decide +kernel
theorem dL_law_212 : decode cL_law 212 = .ok (.iload_n 3, 1) := by decide +kernel
theorem dL_law_213 : decode cL_law 213 = .ok (.iconst 1, 1) := by decide +kernel
theorem dL_law_214 : decode cL_law 214 = .ok (.iadd, 1) := by decide +kernel
theorem dL_law_215 : decode cL_law 215 = .ok (.iaload, 1) := by decide +kernel
theorem dL_law_216 : decode cL_law 216 = .ok (.invokevirtual 40, 3) := by decide +kernel
theorem dL_law_219 : decode cL_law 219 = .ok (.goto 216, 3) := by decide +kernel
theorem dL_law_222 : decode cL_law 222 = .ok (.aload_n 1, 1) := by decide +kernel
theorem dL_law_223 : decode cL_law 223 = .ok (.aload_n 0, 1) := by decide +kernel
theorem dL_law_224 : decode cL_law 224 = .ok (.iload_n 3, 1) := by decide +kernel
theorem dL_law_225 : decode cL_law 225 = .ok (.iconst 1, 1) := by decide +kernel
theorem dL_law_226 : decode cL_law 226 = .ok (.iadd, 1) := by decide +kernel
theorem dL_law_227 : decode cL_law 227 = .ok (.iaload, 1) := by decide +kernel
theorem dL_law_228 : decode cL_law 228 = .ok (.aload_n 0, 1) := by decide +kernel
theorem dL_law_229 : decode cL_law 229 = .ok (.iload_n 3, 1) := by decide +kernel
theorem dL_law_230 : decode cL_law 230 = .ok (.iconst 2, 1) := by decide +kernel
theorem dL_law_231 : decode cL_law 231 = .ok (.iadd, 1) := by decide +kernel
theorem dL_law_232 : decode cL_law 232 = .ok (.iaload, 1) := by decide +kernel
theorem dL_law_233 : decode cL_law 233 = .ok (.ifCond .eq 7, 3) := by decide +kernel
theorem dL_law_236 : decode cL_law 236 = .ok (.iconst 1, 1) := by decide +kernel
theorem dL_law_237 : decode cL_law 237 = .ok (.goto 4, 3) := by decide +kernel
theorem dL_law_240 : decode cL_law 240 = .ok (.iconst 0, 1) := by decide +kernel
theorem dL_law_241 : decode cL_law 241 = .ok (.aload_n 0, 1) := by decide +kernel
theorem dL_law_242 : decode cL_law 242 = .ok (.iload_n 3, 1) := by decide +kernel
theorem dL_law_243 : decode cL_law 243 = .ok (.iconst 3, 1) := by decide +kernel
theorem dL_law_244 : decode cL_law 244 = .ok (.iadd, 1) := by decide +kernel
theorem dL_law_245 : decode cL_law 245 = .ok (.iaload, 1) := by decide +kernel
theorem dL_law_246 : decode cL_law 246 = .ok (.ifCond .eq 7, 3) := by decide +kernel
theorem dL_law_249 : decode cL_law 249 = .ok (.iconst 1, 1) := by decide +kernel
theorem dL_law_250 : decode cL_law 250 = .ok (.goto 4, 3) := by decide +kernel
theorem dL_law_253 : decode cL_law 253 = .ok (.iconst 0, 1) := by decide +kernel
theorem dL_law_254 : decode cL_law 254 = .ok (.invokevirtual 41, 3) := by decide +kernel
theorem dL_law_257 : decode cL_law 257 = .ok (.aload_n 2, 1) := by decide +kernel
theorem dL_law_258 : decode cL_law 258 = .ok (.aload_n 0, 1) := by decide +kernel
theorem dL_law_259 : decode cL_law 259 = .ok (.iload_n 3, 1) := by decide +kernel
theorem dL_law_260 : decode cL_law 260 = .ok (.iconst 1, 1) := by decide +kernel
theorem dL_law_261 : decode cL_law 261 = .ok (.iadd, 1) := by decide +kernel
theorem dL_law_262 : decode cL_law 262 = .ok (.iaload, 1) := by decide +kernel
theorem dL_law_263 : decode cL_law 263 = .ok (.aload_n 0, 1) := by decide +kernel
theorem dL_law_264 : decode cL_law 264 = .ok (.iload_n 3, 1) := by decide +kernel
theorem dL_law_265 : decode cL_law 265 = .ok (.iconst 2, 1) := by decide +kernel
theorem dL_law_266 : decode cL_law 266 = .ok (.iadd, 1) := by decide +kernel
theorem dL_law_267 : decode cL_law 267 = .ok (.iaload, 1) := by decide +kernel
theorem dL_law_268 : decode cL_law 268 = .ok (.ifCond .eq 7, 3) := by decide +kernel
theorem dL_law_271 : decode cL_law 271 = .ok (.iconst 1, 1) := by decide +kernel
theorem dL_law_272 : decode cL_law 272 = .ok (.goto 4, 3) := by decide +kernel
theorem dL_law_275 : decode cL_law 275 = .ok (.iconst 0, 1) := by decide +kernel
theorem dL_law_276 : decode cL_law 276 = .ok (.aload_n 0, 1) := by decide +kernel
theorem dL_law_277 : decode cL_law 277 = .ok (.iload_n 3, 1) := by decide +kernel
theorem dL_law_278 : decode cL_law 278 = .ok (.iconst 3, 1) := by decide +kernel
theorem dL_law_279 : decode cL_law 279 = .ok (.iadd, 1) := by decide +kernel
theorem dL_law_280 : decode cL_law 280 = .ok (.iaload, 1) := by decide +kernel
theorem dL_law_281 : decode cL_law 281 = .ok (.ifCond .eq 7, 3) := by decide +kernel
theorem dL_law_284 : decode cL_law 284 = .ok (.iconst 1, 1) := by decide +kernel
theorem dL_law_285 : decode cL_law 285 = .ok (.goto 4, 3) := by decide +kernel
theorem dL_law_288 : decode cL_law 288 = .ok (.iconst 0, 1) := by decide +kernel
theorem dL_law_289 : decode cL_law 289 = .ok (.invokevirtual 45, 3) := by decide +kernel
theorem dL_law_292 : decode cL_law 292 = .ok (.goto 143, 3) := by decide +kernel
theorem dL_law_295 : decode cL_law 295 = .ok (.aload_n 1, 1) := by decide +kernel
theorem dL_law_296 : decode cL_law 296 = .ok (.aload_n 0, 1) := by decide +kernel
theorem dL_law_297 : decode cL_law 297 = .ok (.iload_n 3, 1) := by decide +kernel
theorem dL_law_298 : decode cL_law 298 = .ok (.iconst 1, 1) := by decide +kernel
theorem dL_law_299 : decode cL_law 299 = .ok (.iadd, 1) := by decide +kernel
theorem dL_law_300 : decode cL_law 300 = .ok (.iaload, 1) := by decide +kernel
theorem dL_law_301 : decode cL_law 301 = .ok (.invokevirtual 46, 3) := by decide +kernel
theorem dL_law_304 : decode cL_law 304 = .ok (.aload_n 2, 1) := by decide +kernel
theorem dL_law_305 : decode cL_law 305 = .ok (.aload_n 0, 1) := by decide +kernel
theorem dL_law_306 : decode cL_law 306 = .ok (.iload_n 3, 1) := by decide +kernel
theorem dL_law_307 : decode cL_law 307 = .ok (.iconst 1, 1) := by decide +kernel
theorem dL_law_308 : decode cL_law 308 = .ok (.iadd, 1) := by decide +kernel
theorem dL_law_309 : decode cL_law 309 = .ok (.iaload, 1) := by decide +kernel
theorem dL_law_310 : decode cL_law 310 = .ok (.invokevirtual 49, 3) := by decide +kernel
theorem dL_law_313 : decode cL_law 313 = .ok (.goto 122, 3) := by decide +kernel
theorem dL_law_316 : decode cL_law 316 = .ok (.aload_n 1, 1) := by decide +kernel
theorem dL_law_317 : decode cL_law 317 = .ok (.invokevirtual 50, 3) := by decide +kernel
theorem dL_law_320 : decode cL_law 320 = .ok (.aload_n 2, 1) := by decide +kernel
theorem dL_law_321 : decode cL_law 321 = .ok (.invokevirtual 53, 3) := by decide +kernel
theorem dL_law_324 : decode cL_law 324 = .ok (.goto 111, 3) := by decide +kernel
theorem dL_law_327 : decode cL_law 327 = .ok (.aload_n 1, 1) := by decide +kernel
theorem dL_law_328 : decode cL_law 328 = .ok (.invokevirtual 54, 3) := by decide +kernel
theorem dL_law_331 : decode cL_law 331 = .ok (.aload_n 2, 1) := by decide +kernel
theorem dL_law_332 : decode cL_law 332 = .ok (.invokevirtual 57, 3) := by decide +kernel
theorem dL_law_335 : decode cL_law 335 = .ok (.if_icmp .eq 100, 3) := by decide +kernel
theorem dL_law_338 : decode cL_law 338 = .ok (.iconst 0, 1) := by decide +kernel
theorem dL_law_339 : decode cL_law 339 = .ok (.ireturn, 1) := by decide +kernel
theorem dL_law_340 : decode cL_law 340 = .ok (.aload_n 1, 1) := by decide +kernel
theorem dL_law_341 : decode cL_law 341 = .ok (.aload_n 0, 1) := by decide +kernel
theorem dL_law_342 : decode cL_law 342 = .ok (.iload_n 3, 1) := by decide +kernel
theorem dL_law_343 : decode cL_law 343 = .ok (.iconst 1, 1) := by decide +kernel
theorem dL_law_344 : decode cL_law 344 = .ok (.iadd, 1) := by decide +kernel
theorem dL_law_345 : decode cL_law 345 = .ok (.iaload, 1) := by decide +kernel
theorem dL_law_346 : decode cL_law 346 = .ok (.invokevirtual 58, 3) := by decide +kernel
theorem dL_law_349 : decode cL_law 349 = .ok (.aload_n 2, 1) := by decide +kernel
theorem dL_law_350 : decode cL_law 350 = .ok (.aload_n 0, 1) := by decide +kernel
theorem dL_law_351 : decode cL_law 351 = .ok (.iload_n 3, 1) := by decide +kernel
theorem dL_law_352 : decode cL_law 352 = .ok (.iconst 1, 1) := by decide +kernel
theorem dL_law_353 : decode cL_law 353 = .ok (.iadd, 1) := by decide +kernel
theorem dL_law_354 : decode cL_law 354 = .ok (.iaload, 1) := by decide +kernel
theorem dL_law_355 : decode cL_law 355 = .ok (.invokevirtual 61, 3) := by decide +kernel
theorem dL_law_358 : decode cL_law 358 = .ok (.if_icmp .eq 77, 3) := by decide +kernel
theorem dL_law_361 : decode cL_law 361 = .ok (.iconst 0, 1) := by decide +kernel
theorem dL_law_362 : decode cL_law 362 = .ok (.ireturn, 1) := by decide +kernel
theorem dL_law_363 : decode cL_law 363 = .ok (.aload_n 1, 1) := by decide +kernel
theorem dL_law_364 : decode cL_law 364 = .ok (.aload_n 0, 1) := by decide +kernel
theorem dL_law_365 : decode cL_law 365 = .ok (.iload_n 3, 1) := by decide +kernel
theorem dL_law_366 : decode cL_law 366 = .ok (.iconst 1, 1) := by decide +kernel
theorem dL_law_367 : decode cL_law 367 = .ok (.iadd, 1) := by decide +kernel
theorem dL_law_368 : decode cL_law 368 = .ok (.iaload, 1) := by decide +kernel
theorem dL_law_369 : decode cL_law 369 = .ok (.aload_n 0, 1) := by decide +kernel
theorem dL_law_370 : decode cL_law 370 = .ok (.iload_n 3, 1) := by decide +kernel
theorem dL_law_371 : decode cL_law 371 = .ok (.iconst 2, 1) := by decide +kernel
theorem dL_law_372 : decode cL_law 372 = .ok (.iadd, 1) := by decide +kernel
theorem dL_law_373 : decode cL_law 373 = .ok (.iaload, 1) := by decide +kernel
theorem dL_law_374 : decode cL_law 374 = .ok (.ifCond .eq 7, 3) := by decide +kernel
theorem dL_law_377 : decode cL_law 377 = .ok (.iconst 1, 1) := by decide +kernel
theorem dL_law_378 : decode cL_law 378 = .ok (.goto 4, 3) := by decide +kernel
theorem dL_law_381 : decode cL_law 381 = .ok (.iconst 0, 1) := by decide +kernel
theorem dL_law_382 : decode cL_law 382 = .ok (.invokevirtual 62, 3) := by decide +kernel
theorem dL_law_385 : decode cL_law 385 = .ok (.aload_n 2, 1) := by decide +kernel
theorem dL_law_386 : decode cL_law 386 = .ok (.aload_n 0, 1) := by decide +kernel
theorem dL_law_387 : decode cL_law 387 = .ok (.iload_n 3, 1) := by decide +kernel
theorem dL_law_388 : decode cL_law 388 = .ok (.iconst 1, 1) := by decide +kernel
theorem dL_law_389 : decode cL_law 389 = .ok (.iadd, 1) := by decide +kernel
theorem dL_law_390 : decode cL_law 390 = .ok (.iaload, 1) := by decide +kernel
theorem dL_law_391 : decode cL_law 391 = .ok (.aload_n 0, 1) := by decide +kernel
theorem dL_law_392 : decode cL_law 392 = .ok (.iload_n 3, 1) := by decide +kernel
theorem dL_law_393 : decode cL_law 393 = .ok (.iconst 2, 1) := by decide +kernel
theorem dL_law_394 : decode cL_law 394 = .ok (.iadd, 1) := by decide +kernel
theorem dL_law_395 : decode cL_law 395 = .ok (.iaload, 1) := by decide +kernel
theorem dL_law_396 : decode cL_law 396 = .ok (.ifCond .eq 7, 3) := by decide +kernel
theorem dL_law_399 : decode cL_law 399 = .ok (.iconst 1, 1) := by decide +kernel
theorem dL_law_400 : decode cL_law 400 = .ok (.goto 4, 3) := by decide +kernel
theorem dL_law_403 : decode cL_law 403 = .ok (.iconst 0, 1) := by decide +kernel
theorem dL_law_404 : decode cL_law 404 = .ok (.invokevirtual 66, 3) := by decide +kernel
theorem dL_law_407 : decode cL_law 407 = .ok (.if_icmp .eq 28, 3) := by decide +kernel
theorem dL_law_410 : decode cL_law 410 = .ok (.iconst 0, 1) := by decide +kernel
theorem dL_law_411 : decode cL_law 411 = .ok (.ireturn, 1) := by decide +kernel
theorem dL_law_412 : decode cL_law 412 = .ok (.aload_n 1, 1) := by decide +kernel
theorem dL_law_413 : decode cL_law 413 = .ok (.aload_n 0, 1) := by decide +kernel
theorem dL_law_414 : decode cL_law 414 = .ok (.iload_n 3, 1) := by decide +kernel
theorem dL_law_415 : decode cL_law 415 = .ok (.iconst 1, 1) := by decide +kernel
theorem dL_law_416 : decode cL_law 416 = .ok (.iadd, 1) := by decide +kernel
theorem dL_law_417 : decode cL_law 417 = .ok (.iaload, 1) := by decide +kernel
theorem dL_law_418 : decode cL_law 418 = .ok (.invokevirtual 67, 3) := by decide +kernel
theorem dL_law_421 : decode cL_law 421 = .ok (.aload_n 2, 1) := by decide +kernel
theorem dL_law_422 : decode cL_law 422 = .ok (.aload_n 0, 1) := by decide +kernel
theorem dL_law_423 : decode cL_law 423 = .ok (.iload_n 3, 1) := by decide +kernel
theorem dL_law_424 : decode cL_law 424 = .ok (.iconst 1, 1) := by decide +kernel
theorem dL_law_425 : decode cL_law 425 = .ok (.iadd, 1) := by decide +kernel
theorem dL_law_426 : decode cL_law 426 = .ok (.iaload, 1) := by decide +kernel
theorem dL_law_427 : decode cL_law 427 = .ok (.invokevirtual 70, 3) := by decide +kernel
theorem dL_law_430 : decode cL_law 430 = .ok (.if_icmp .eq 5, 3) := by decide +kernel
theorem dL_law_433 : decode cL_law 433 = .ok (.iconst 0, 1) := by decide +kernel
theorem dL_law_434 : decode cL_law 434 = .ok (.ireturn, 1) := by decide +kernel
theorem dL_law_435 : decode cL_law 435 = .ok (.iinc 3 4, 3) := by decide +kernel
theorem dL_law_438 : decode cL_law 438 = .ok (.goto (-420), 3) := by decide +kernel
theorem dL_law_441 : decode cL_law 441 = .ok (.iconst 1, 1) := by decide +kernel
theorem dL_law_442 : decode cL_law 442 = .ok (.ireturn, 1) := by decide +kernel
abbrev vwCl : List vw_C := [(RX0, TX0, 12), (RX1, TX1, 14)]
end
section
abbrev cX1_mode : ByteArray := prog_3_method_11_code
def yX1_mode : MethodName := ⟨RX1, "mode", "(I)V"⟩
abbrev cX1_mask : ByteArray := prog_3_method_12_code
def yX1_mask : MethodName := ⟨RX1, "mask", "(I)V"⟩
abbrev cX1_timer : ByteArray := prog_3_method_13_code
def yX1_timer : MethodName := ⟨RX1, "timer", "(IZZ)V"⟩
abbrev cX1_count : ByteArray := prog_3_method_14_code
def yX1_count : MethodName := ⟨RX1, "count", "(I)V"⟩
abbrev cX1_reset : ByteArray := prog_3_method_15_code
def yX1_reset : MethodName := ⟨RX1, "reset", "()V"⟩
abbrev cX1_until : ByteArray := prog_3_method_16_code
def yX1_until : MethodName := ⟨RX1, "until", "()I"⟩
abbrev cX1_linesAt : ByteArray := prog_3_method_17_code
def yX1_linesAt : MethodName := ⟨RX1, "linesAt", "(I)I"⟩
abbrev cX1_entryOf : ByteArray := prog_3_method_18_code
def yX1_entryOf : MethodName := ⟨RX1, "entryOf", "(IZ)I"⟩
abbrev cX1_look : ByteArray := prog_3_method_19_code
def yX1_look : MethodName := ⟨RX1, "look", "(I)I"⟩
def wsX1_mode : List Cond := .code yX1_mode cX1_mode 2 none :: ([.fieldLink RX1 20 "RetiredTimerModel" "thrown" "I", .fieldLink RX1 7 "RetiredTimerModel" "sr" "I"] ++ wsX10)
def wsX1_mask : List Cond := .code yX1_mask cX1_mask 2 none :: ([.fieldLink RX1 20 "RetiredTimerModel" "thrown" "I", .fieldLink RX1 40 "RetiredTimerModel" "mask" "I"] ++ wsX10)
def wsX1_timer : List Cond := .code yX1_timer cX1_timer 4 none :: ([.fieldLink RX1 20 "RetiredTimerModel" "thrown" "I", .constant RX1 68 (268435455), .fieldLink RX1 52 "RetiredTimerModel" "period" "I", .fieldLink RX1 46 "RetiredTimerModel" "counting" "Z", .fieldLink RX1 32 "RetiredTimerModel" "pending" "Z"] ++ wsX10)
def wsX1_count : List Cond := .code yX1_count cX1_count 2 none :: ([.fieldLink RX1 20 "RetiredTimerModel" "thrown" "I", .fieldLink RX1 49 "RetiredTimerModel" "count" "I"] ++ wsX10)
def wsX1_reset : List Cond := .code yX1_reset cX1_reset 1 none :: ([.fieldLink RX1 20 "RetiredTimerModel" "thrown" "I", .fieldLink RX1 29 "RetiredTimerModel" "retired" "I", .fieldLink RX1 49 "RetiredTimerModel" "count" "I", .fieldLink RX1 52 "RetiredTimerModel" "period" "I", .fieldLink RX1 46 "RetiredTimerModel" "counting" "Z", .fieldLink RX1 32 "RetiredTimerModel" "pending" "Z", .fieldLink RX1 40 "RetiredTimerModel" "mask" "I", .fieldLink RX1 7 "RetiredTimerModel" "sr" "I", .fieldLink RX1 62 "RetiredTimerModel" "saved" "I", .fieldLink RX1 65 "RetiredTimerModel" "taken" "I", .fieldLink RX1 26 "RetiredTimerModel" "entries" "I", .fieldLink RX1 23 "RetiredTimerModel" "come" "I"] ++ wsX10)
def wsX1_until : List Cond := .code yX1_until cX1_until 6 (some .int) :: ([.fieldLink RX1 20 "RetiredTimerModel" "thrown" "I", .constantLong RX1 69 (1099511627776), .fieldLink RX1 7 "RetiredTimerModel" "sr" "I", .fieldLink RX1 46 "RetiredTimerModel" "counting" "Z", .fieldLink RX1 52 "RetiredTimerModel" "period" "I", .fieldLink RX1 49 "RetiredTimerModel" "count" "I", .constantLong RX1 71 (4294967296), .fieldLink RX1 26 "RetiredTimerModel" "entries" "I", .fieldLink RX1 23 "RetiredTimerModel" "come" "I", .fieldLink RX1 13 "RetiredTimerModel" "counts" "[I", .fieldLink RX1 29 "RetiredTimerModel" "retired" "I", .fieldLink RX1 17 "RetiredTimerModel" "values" "[I", .fieldLink RX1 40 "RetiredTimerModel" "mask" "I", .constantLong RX1 73 (2147483647), .methodLink RX1 56 yX1_due, .instanceMethod yX1_due, .selects RX1 yX1_due yX1_due, .initialized RX1, .code yX1_due cX1_due 1 (some .int), .fieldLink RX1 32 "RetiredTimerModel" "pending" "Z", .methodLink RX1 36 yX1_linesNow, .instanceMethod yX1_linesNow, .selects RX1 yX1_linesNow yX1_linesNow, .code yX1_linesNow cX1_linesNow 1 (some .int)] ++ wsX10)
def wsX1_linesAt : List Cond := .code yX1_linesAt cX1_linesAt 4 (some .int) :: ([.fieldLink RX1 20 "RetiredTimerModel" "thrown" "I", .fieldLink RX1 26 "RetiredTimerModel" "entries" "I", .fieldLink RX1 13 "RetiredTimerModel" "counts" "[I", .fieldLink RX1 17 "RetiredTimerModel" "values" "[I"] ++ wsX10)
def wsX1_entryOf : List Cond := .code yX1_entryOf cX1_entryOf 3 (some .int) :: ([.fieldLink RX1 20 "RetiredTimerModel" "thrown" "I", .fieldLink RX1 26 "RetiredTimerModel" "entries" "I", .fieldLink RX1 17 "RetiredTimerModel" "values" "[I", .fieldLink RX1 13 "RetiredTimerModel" "counts" "[I"] ++ wsX10)
def wsX1_look : List Cond := .code yX1_look cX1_look 2 (some .int) :: ([.fieldLink RX1 20 "RetiredTimerModel" "thrown" "I", .fieldLink RX1 29 "RetiredTimerModel" "retired" "I", .fieldLink RX1 49 "RetiredTimerModel" "count" "I", .fieldLink RX1 52 "RetiredTimerModel" "period" "I", .fieldLink RX1 32 "RetiredTimerModel" "pending" "Z", .fieldLink RX1 46 "RetiredTimerModel" "counting" "Z", .fieldLink RX1 40 "RetiredTimerModel" "mask" "I", .fieldLink RX1 7 "RetiredTimerModel" "sr" "I", .fieldLink RX1 62 "RetiredTimerModel" "saved" "I", .fieldLink RX1 65 "RetiredTimerModel" "taken" "I", .fieldLink RX1 26 "RetiredTimerModel" "entries" "I", .methodLink RX1 36 yX1_linesNow, .instanceMethod yX1_linesNow, .selects RX1 yX1_linesNow yX1_linesNow, .initialized RX1, .code yX1_linesNow cX1_linesNow 1 (some .int), .fieldLink RX1 23 "RetiredTimerModel" "come" "I", .fieldLink RX1 17 "RetiredTimerModel" "values" "[I", .methodLink RX1 56 yX1_due, .instanceMethod yX1_due, .selects RX1 yX1_due yX1_due, .code yX1_due cX1_due 1 (some .int)] ++ wsX10)
set_option maxRecDepth 20000 in
theorem gX1_until_X1_due : GoodIn wsX1_until (wsV RX1 56 RX1 yX1_due wsX1_due) := goodIn_sub (by decide +kernel) (by decide +kernel)
set_option maxRecDepth 20000 in
theorem gX1_look_X1_linesNow : GoodIn wsX1_look (wsV RX1 36 RX1 yX1_linesNow wsX1_linesNow) := goodIn_sub (by decide +kernel) (by decide +kernel)
set_option maxRecDepth 20000 in
theorem gX1_look_X1_due : GoodIn wsX1_look (wsV RX1 56 RX1 yX1_due wsX1_due) := goodIn_sub (by decide +kernel) (by decide +kernel)
set_option maxRecDepth 20000 in
theorem gL_law_X1_mode : GoodIn lw_tbl (wsV RL 36 RX1 yX1_mode wsX1_mode) := goodIn_sub (by decide +kernel) (by decide +kernel)
set_option maxRecDepth 20000 in
theorem gL_law_X1_mask : GoodIn lw_tbl (wsV RL 40 RX1 yX1_mask wsX1_mask) := goodIn_sub (by decide +kernel) (by decide +kernel)
set_option maxRecDepth 20000 in
theorem gL_law_X1_timer : GoodIn lw_tbl (wsV RL 45 RX1 yX1_timer wsX1_timer) := goodIn_sub (by decide +kernel) (by decide +kernel)
set_option maxRecDepth 20000 in
theorem gL_law_X1_count : GoodIn lw_tbl (wsV RL 49 RX1 yX1_count wsX1_count) := goodIn_sub (by decide +kernel) (by decide +kernel)
set_option maxRecDepth 20000 in
theorem gL_law_X1_reset : GoodIn lw_tbl (wsV RL 53 RX1 yX1_reset wsX1_reset) := goodIn_sub (by decide +kernel) (by decide +kernel)
set_option maxRecDepth 20000 in
theorem gL_law_X1_until : GoodIn lw_tbl (wsV RL 57 RX1 yX1_until wsX1_until) := goodIn_sub (by decide +kernel) (by decide +kernel)
set_option maxRecDepth 20000 in
theorem gL_law_X1_linesAt : GoodIn lw_tbl (wsV RL 61 RX1 yX1_linesAt wsX1_linesAt) := goodIn_sub (by decide +kernel) (by decide +kernel)
set_option maxRecDepth 20000 in
theorem gL_law_X1_entryOf : GoodIn lw_tbl (wsV RL 66 RX1 yX1_entryOf wsX1_entryOf) := goodIn_sub (by decide +kernel) (by decide +kernel)
set_option maxRecDepth 20000 in
theorem gL_law_X1_look : GoodIn lw_tbl (wsV RL 70 RX1 yX1_look wsX1_look) := goodIn_sub (by decide +kernel) (by decide +kernel)
theorem dX1_mode_0 : decode cX1_mode 0 = .ok (.aload_n 0, 1) := by decide +kernel
theorem dX1_mode_1 : decode cX1_mode 1 = .ok (.iconst 0, 1) := by decide +kernel
theorem dX1_mode_2 : decode cX1_mode 2 = .ok (.putfield 20, 3) := by decide +kernel
theorem dX1_mode_5 : decode cX1_mode 5 = .ok (.aload_n 0, 1) := by decide +kernel
theorem dX1_mode_6 : decode cX1_mode 6 = .ok (.iload_n 1, 1) := by decide +kernel
theorem dX1_mode_7 : decode cX1_mode 7 = .ok (.bipush 39, 2) := by decide +kernel
theorem dX1_mode_9 : decode cX1_mode 9 = .ok (.iand, 1) := by decide +kernel
theorem dX1_mode_10 : decode cX1_mode 10 = .ok (.putfield 7, 3) := by decide +kernel
theorem dX1_mode_13 : decode cX1_mode 13 = .ok (.return_, 1) := by decide +kernel
theorem dX1_mask_0 : decode cX1_mask 0 = .ok (.aload_n 0, 1) := by decide +kernel
theorem dX1_mask_1 : decode cX1_mask 1 = .ok (.iconst 0, 1) := by decide +kernel
theorem dX1_mask_2 : decode cX1_mask 2 = .ok (.putfield 20, 3) := by decide +kernel
theorem dX1_mask_5 : decode cX1_mask 5 = .ok (.aload_n 0, 1) := by decide +kernel
theorem dX1_mask_6 : decode cX1_mask 6 = .ok (.iload_n 1, 1) := by decide +kernel
theorem dX1_mask_7 : decode cX1_mask 7 = .ok (.putfield 40, 3) := by decide +kernel
theorem dX1_mask_10 : decode cX1_mask 10 = .ok (.return_, 1) := by decide +kernel
theorem dX1_timer_0 : decode cX1_timer 0 = .ok (.aload_n 0, 1) := by decide +kernel
theorem dX1_timer_1 : decode cX1_timer 1 = .ok (.iconst 0, 1) := by decide +kernel
theorem dX1_timer_2 : decode cX1_timer 2 = .ok (.putfield 20, 3) := by decide +kernel
theorem dX1_timer_5 : decode cX1_timer 5 = .ok (.aload_n 0, 1) := by decide +kernel
theorem dX1_timer_6 : decode cX1_timer 6 = .ok (.iload_n 1, 1) := by decide +kernel
theorem dX1_timer_7 : decode cX1_timer 7 = .ok (.ldc 68, 2) := by decide +kernel
theorem dX1_timer_9 : decode cX1_timer 9 = .ok (.iand, 1) := by decide +kernel
theorem dX1_timer_10 : decode cX1_timer 10 = .ok (.putfield 52, 3) := by decide +kernel
theorem dX1_timer_13 : decode cX1_timer 13 = .ok (.aload_n 0, 1) := by decide +kernel
theorem dX1_timer_14 : decode cX1_timer 14 = .ok (.iload_n 2, 1) := by decide +kernel
theorem dX1_timer_15 : decode cX1_timer 15 = .ok (.putfield 46, 3) := by decide +kernel
theorem dX1_timer_18 : decode cX1_timer 18 = .ok (.aload_n 0, 1) := by decide +kernel
theorem dX1_timer_19 : decode cX1_timer 19 = .ok (.iload_n 3, 1) := by decide +kernel
theorem dX1_timer_20 : decode cX1_timer 20 = .ok (.putfield 32, 3) := by decide +kernel
theorem dX1_timer_23 : decode cX1_timer 23 = .ok (.return_, 1) := by decide +kernel
theorem dX1_count_0 : decode cX1_count 0 = .ok (.aload_n 0, 1) := by decide +kernel
theorem dX1_count_1 : decode cX1_count 1 = .ok (.iconst 0, 1) := by decide +kernel
theorem dX1_count_2 : decode cX1_count 2 = .ok (.putfield 20, 3) := by decide +kernel
theorem dX1_count_5 : decode cX1_count 5 = .ok (.aload_n 0, 1) := by decide +kernel
theorem dX1_count_6 : decode cX1_count 6 = .ok (.iload_n 1, 1) := by decide +kernel
theorem dX1_count_7 : decode cX1_count 7 = .ok (.putfield 49, 3) := by decide +kernel
theorem dX1_count_10 : decode cX1_count 10 = .ok (.return_, 1) := by decide +kernel
theorem dX1_reset_0 : decode cX1_reset 0 = .ok (.aload_n 0, 1) := by decide +kernel
theorem dX1_reset_1 : decode cX1_reset 1 = .ok (.iconst 0, 1) := by decide +kernel
theorem dX1_reset_2 : decode cX1_reset 2 = .ok (.putfield 20, 3) := by decide +kernel
theorem dX1_reset_5 : decode cX1_reset 5 = .ok (.aload_n 0, 1) := by decide +kernel
theorem dX1_reset_6 : decode cX1_reset 6 = .ok (.iconst 0, 1) := by decide +kernel
theorem dX1_reset_7 : decode cX1_reset 7 = .ok (.putfield 29, 3) := by decide +kernel
theorem dX1_reset_10 : decode cX1_reset 10 = .ok (.aload_n 0, 1) := by decide +kernel
theorem dX1_reset_11 : decode cX1_reset 11 = .ok (.iconst 0, 1) := by decide +kernel
theorem dX1_reset_12 : decode cX1_reset 12 = .ok (.putfield 49, 3) := by decide +kernel
theorem dX1_reset_15 : decode cX1_reset 15 = .ok (.aload_n 0, 1) := by decide +kernel
theorem dX1_reset_16 : decode cX1_reset 16 = .ok (.iconst 0, 1) := by decide +kernel
theorem dX1_reset_17 : decode cX1_reset 17 = .ok (.putfield 52, 3) := by decide +kernel
theorem dX1_reset_20 : decode cX1_reset 20 = .ok (.aload_n 0, 1) := by decide +kernel
theorem dX1_reset_21 : decode cX1_reset 21 = .ok (.iconst 0, 1) := by decide +kernel
theorem dX1_reset_22 : decode cX1_reset 22 = .ok (.putfield 46, 3) := by decide +kernel
theorem dX1_reset_25 : decode cX1_reset 25 = .ok (.aload_n 0, 1) := by decide +kernel
theorem dX1_reset_26 : decode cX1_reset 26 = .ok (.iconst 0, 1) := by decide +kernel
theorem dX1_reset_27 : decode cX1_reset 27 = .ok (.putfield 32, 3) := by decide +kernel
theorem dX1_reset_30 : decode cX1_reset 30 = .ok (.aload_n 0, 1) := by decide +kernel
theorem dX1_reset_31 : decode cX1_reset 31 = .ok (.iconst 0, 1) := by decide +kernel
theorem dX1_reset_32 : decode cX1_reset 32 = .ok (.putfield 40, 3) := by decide +kernel
theorem dX1_reset_35 : decode cX1_reset 35 = .ok (.aload_n 0, 1) := by decide +kernel
theorem dX1_reset_36 : decode cX1_reset 36 = .ok (.iconst 1, 1) := by decide +kernel
theorem dX1_reset_37 : decode cX1_reset 37 = .ok (.putfield 7, 3) := by decide +kernel
theorem dX1_reset_40 : decode cX1_reset 40 = .ok (.aload_n 0, 1) := by decide +kernel
theorem dX1_reset_41 : decode cX1_reset 41 = .ok (.iconst 0, 1) := by decide +kernel
theorem dX1_reset_42 : decode cX1_reset 42 = .ok (.putfield 62, 3) := by decide +kernel
theorem dX1_reset_45 : decode cX1_reset 45 = .ok (.aload_n 0, 1) := by decide +kernel
theorem dX1_reset_46 : decode cX1_reset 46 = .ok (.iconst 0, 1) := by decide +kernel
theorem dX1_reset_47 : decode cX1_reset 47 = .ok (.putfield 65, 3) := by decide +kernel
theorem dX1_reset_50 : decode cX1_reset 50 = .ok (.aload_n 0, 1) := by decide +kernel
theorem dX1_reset_51 : decode cX1_reset 51 = .ok (.iconst 0, 1) := by decide +kernel
theorem dX1_reset_52 : decode cX1_reset 52 = .ok (.putfield 26, 3) := by decide +kernel
theorem dX1_reset_55 : decode cX1_reset 55 = .ok (.aload_n 0, 1) := by decide +kernel
theorem dX1_reset_56 : decode cX1_reset 56 = .ok (.iconst 0, 1) := by decide +kernel
theorem dX1_reset_57 : decode cX1_reset 57 = .ok (.putfield 23, 3) := by decide +kernel
theorem dX1_reset_60 : decode cX1_reset 60 = .ok (.return_, 1) := by decide +kernel
theorem dX1_until_0 : decode cX1_until 0 = .ok (.aload_n 0, 1) := by decide +kernel
theorem dX1_until_1 : decode cX1_until 1 = .ok (.iconst 0, 1) := by decide +kernel
theorem dX1_until_2 : decode cX1_until 2 = .ok (.putfield 20, 3) := by decide +kernel
theorem dX1_until_5 : decode cX1_until 5 = .ok (.aload_n 0, 1) := by decide +kernel
theorem dX1_until_6 : decode cX1_until 6 = .ok (.invokevirtual 56, 3) := by decide +kernel
theorem dX1_until_9 : decode cX1_until 9 = .ok (.ifCond .le 5, 3) := by decide +kernel
theorem dX1_until_12 : decode cX1_until 12 = .ok (.iconst 0, 1) := by decide +kernel
theorem dX1_until_13 : decode cX1_until 13 = .ok (.ireturn, 1) := by decide +kernel
theorem dX1_until_14 : decode cX1_until 14 = .ok (.ldc2_w 69, 3) := by decide +kernel
theorem dX1_until_17 : decode cX1_until 17 = .ok (.lstore_n 1, 1) := by decide +kernel
theorem dX1_until_18 : decode cX1_until 18 = .ok (.aload_n 0, 1) := by decide +kernel
theorem dX1_until_19 : decode cX1_until 19 = .ok (.getfield 7, 3) := by decide +kernel
theorem dX1_until_22 : decode cX1_until 22 = .ok (.iconst 2, 1) := by decide +kernel
theorem dX1_until_23 : decode cX1_until 23 = .ok (.iand, 1) := by decide +kernel
theorem dX1_until_24 : decode cX1_until 24 = .ok (.ifCond .eq 38, 3) := by decide +kernel
theorem dX1_until_27 : decode cX1_until 27 = .ok (.aload_n 0, 1) := by decide +kernel
theorem dX1_until_28 : decode cX1_until 28 = .ok (.getfield 46, 3) := by decide +kernel
theorem dX1_until_31 : decode cX1_until 31 = .ok (.ifCond .eq 31, 3) := by decide +kernel
theorem dX1_until_34 : decode cX1_until 34 = .ok (.aload_n 0, 1) := by decide +kernel
theorem dX1_until_35 : decode cX1_until 35 = .ok (.getfield 52, 3) := by decide +kernel
theorem dX1_until_38 : decode cX1_until 38 = .ok (.i2l, 1) := by decide +kernel
theorem dX1_until_39 : decode cX1_until 39 = .ok (.aload_n 0, 1) := by decide +kernel
theorem dX1_until_40 : decode cX1_until 40 = .ok (.getfield 49, 3) := by decide +kernel
theorem dX1_until_43 : decode cX1_until 43 = .ok (.i2l, 1) := by decide +kernel
theorem dX1_until_44 : decode cX1_until 44 = .ok (.lsub, 1) := by decide +kernel
theorem dX1_until_45 : decode cX1_until 45 = .ok (.lstore_n 3, 1) := by decide +kernel
theorem dX1_until_46 : decode cX1_until 46 = .ok (.lload_n 3, 1) := by decide +kernel
theorem dX1_until_47 : decode cX1_until 47 = .ok (.lconst 0, 1) := by decide +kernel
theorem dX1_until_48 : decode cX1_until 48 = .ok (.lcmp, 1) := by decide +kernel
theorem dX1_until_49 : decode cX1_until 49 = .ok (.ifCond .le 7, 3) := by decide +kernel
theorem dX1_until_52 : decode cX1_until 52 = .ok (.lload_n 3, 1) := by decide +kernel
theorem dX1_until_53 : decode cX1_until 53 = .ok (.goto 8, 3) := by decide +kernel
theorem dX1_until_56 : decode cX1_until 56 = .ok (.lload_n 3, 1) := by decide +kernel
theorem dX1_until_57 : decode cX1_until 57 = .ok (.ldc2_w 71, 3) := by decide +kernel
theorem dX1_until_60 : decode cX1_until 60 = .ok (.ladd, 1) := by decide +kernel
theorem dX1_until_61 : decode cX1_until 61 = .ok (.lstore_n 1, 1) := by decide +kernel
theorem dX1_until_62 : decode cX1_until 62 = .ok (.aload_n 0, 1) := by decide +kernel
theorem dX1_until_63 : decode cX1_until 63 = .ok (.getfield 26, 3) := by decide +kernel
theorem dX1_until_66 : decode cX1_until 66 = .ok (.iconst 1, 1) := by decide +kernel
theorem dX1_until_67 : decode cX1_until 67 = .ok (.isub, 1) := by decide +kernel
theorem dX1_until_68 : decode cX1_until 68 = .ok (.istore_n 3, 1) := by decide +kernel
theorem dX1_until_69 : decode cX1_until 69 = .ok (.iload_n 3, 1) := by decide +kernel
theorem dX1_until_70 : decode cX1_until 70 = .ok (.aload_n 0, 1) := by decide +kernel
theorem dX1_until_71 : decode cX1_until 71 = .ok (.getfield 23, 3) := by decide +kernel
theorem dX1_until_74 : decode cX1_until 74 = .ok (.if_icmp .lt 61, 3) := by decide +kernel
theorem dX1_until_77 : decode cX1_until 77 = .ok (.aload_n 0, 1) := by decide +kernel
theorem dX1_until_78 : decode cX1_until 78 = .ok (.getfield 7, 3) := by decide +kernel
theorem dX1_until_81 : decode cX1_until 81 = .ok (.iconst 4, 1) := by decide +kernel
theorem dX1_until_82 : decode cX1_until 82 = .ok (.iand, 1) := by decide +kernel
theorem dX1_until_83 : decode cX1_until 83 = .ok (.ifCond .eq 52, 3) := by decide +kernel
theorem dX1_until_86 : decode cX1_until 86 = .ok (.aload_n 0, 1) := by decide +kernel
theorem dX1_until_87 : decode cX1_until 87 = .ok (.getfield 13, 3) := by decide +kernel
theorem dX1_until_90 : decode cX1_until 90 = .ok (.iload_n 3, 1) := by decide +kernel
theorem dX1_until_91 : decode cX1_until 91 = .ok (.iaload, 1) := by decide +kernel
theorem dX1_until_92 : decode cX1_until 92 = .ok (.i2l, 1) := by decide +kernel
theorem dX1_until_93 : decode cX1_until 93 = .ok (.aload_n 0, 1) := by decide +kernel
theorem dX1_until_94 : decode cX1_until 94 = .ok (.getfield 29, 3) := by decide +kernel
theorem dX1_until_97 : decode cX1_until 97 = .ok (.i2l, 1) := by decide +kernel
theorem dX1_until_98 : decode cX1_until 98 = .ok (.lsub, 1) := by decide +kernel
theorem dX1_until_99 : decode cX1_until 99 = .ok (.lstore 4, 2) := by decide +kernel
theorem dX1_until_101 : decode cX1_until 101 = .ok (.aload_n 0, 1) := by decide +kernel
theorem dX1_until_102 : decode cX1_until 102 = .ok (.getfield 17, 3) := by decide +kernel
theorem dX1_until_105 : decode cX1_until 105 = .ok (.iload_n 3, 1) := by decide +kernel
theorem dX1_until_106 : decode cX1_until 106 = .ok (.iaload, 1) := by decide +kernel
theorem dX1_until_107 : decode cX1_until 107 = .ok (.aload_n 0, 1) := by decide +kernel
theorem dX1_until_108 : decode cX1_until 108 = .ok (.getfield 40, 3) := by decide +kernel
theorem dX1_until_111 : decode cX1_until 111 = .ok (.iand, 1) := by decide +kernel
theorem dX1_until_112 : decode cX1_until 112 = .ok (.ifCond .eq 15, 3) := by decide +kernel
theorem dX1_until_115 : decode cX1_until 115 = .ok (.lload 4, 2) := by decide +kernel
theorem dX1_until_117 : decode cX1_until 117 = .ok (.lload_n 1, 1) := by decide +kernel
theorem dX1_until_118 : decode cX1_until 118 = .ok (.lcmp, 1) := by decide +kernel
theorem dX1_until_119 : decode cX1_until 119 = .ok (.ifCond .ge 8, 3) := by decide +kernel
theorem dX1_until_122 : decode cX1_until 122 = .ok (.lload 4, 2) := by decide +kernel
theorem dX1_until_124 : decode cX1_until 124 = .ok (.goto 4, 3) := by decide +kernel
theorem dX1_until_127 : decode cX1_until 127 = .ok (.lload_n 1, 1) := by decide +kernel
theorem dX1_until_128 : decode cX1_until 128 = .ok (.lstore_n 1, 1) := by decide +kernel
theorem dX1_until_129 : decode cX1_until 129 = .ok (.iinc 3 (-1), 3) := by decide +kernel
theorem dX1_until_132 : decode cX1_until 132 = .ok (.goto (-63), 3) := by decide +kernel
theorem dX1_until_135 : decode cX1_until 135 = .ok (.aload_n 0, 1) := by decide +kernel
theorem dX1_until_136 : decode cX1_until 136 = .ok (.getfield 29, 3) := by decide +kernel
theorem dX1_until_139 : decode cX1_until 139 = .ok (.i2l, 1) := by decide +kernel
theorem dX1_until_140 : decode cX1_until 140 = .ok (.lload_n 1, 1) := by decide +kernel
theorem dX1_until_141 : decode cX1_until 141 = .ok (.ladd, 1) := by decide +kernel
theorem dX1_until_142 : decode cX1_until 142 = .ok (.ldc2_w 73, 3) := by decide +kernel
theorem dX1_until_145 : decode cX1_until 145 = .ok (.lcmp, 1) := by decide +kernel
theorem dX1_until_146 : decode cX1_until 146 = .ok (.ifCond .le 7, 3) := by decide +kernel
theorem dX1_until_149 : decode cX1_until 149 = .ok (.iconst (-1), 1) := by decide +kernel
theorem dX1_until_150 : decode cX1_until 150 = .ok (.goto 5, 3) := by decide +kernel
theorem dX1_until_153 : decode cX1_until 153 = .ok (.lload_n 1, 1) := by decide +kernel
theorem dX1_until_154 : decode cX1_until 154 = .ok (.l2i, 1) := by decide +kernel
theorem dX1_until_155 : decode cX1_until 155 = .ok (.ireturn, 1) := by decide +kernel
theorem dX1_linesAt_0 : decode cX1_linesAt 0 = .ok (.aload_n 0, 1) := by decide +kernel
theorem dX1_linesAt_1 : decode cX1_linesAt 1 = .ok (.iconst 0, 1) := by decide +kernel
theorem dX1_linesAt_2 : decode cX1_linesAt 2 = .ok (.putfield 20, 3) := by decide +kernel
theorem dX1_linesAt_5 : decode cX1_linesAt 5 = .ok (.iconst 0, 1) := by decide +kernel
theorem dX1_linesAt_6 : decode cX1_linesAt 6 = .ok (.istore_n 2, 1) := by decide +kernel
theorem dX1_linesAt_7 : decode cX1_linesAt 7 = .ok (.iconst 0, 1) := by decide +kernel
theorem dX1_linesAt_8 : decode cX1_linesAt 8 = .ok (.istore_n 3, 1) := by decide +kernel
theorem dX1_linesAt_9 : decode cX1_linesAt 9 = .ok (.iload_n 3, 1) := by decide +kernel
theorem dX1_linesAt_10 : decode cX1_linesAt 10 = .ok (.aload_n 0, 1) := by decide +kernel
theorem dX1_linesAt_11 : decode cX1_linesAt 11 = .ok (.getfield 26, 3) := by decide +kernel
theorem dX1_linesAt_14 : decode cX1_linesAt 14 = .ok (.if_icmp .ge 30, 3) := by decide +kernel
theorem dX1_linesAt_17 : decode cX1_linesAt 17 = .ok (.aload_n 0, 1) := by decide +kernel
theorem dX1_linesAt_18 : decode cX1_linesAt 18 = .ok (.getfield 13, 3) := by decide +kernel
theorem dX1_linesAt_21 : decode cX1_linesAt 21 = .ok (.iload_n 3, 1) := by decide +kernel
theorem dX1_linesAt_22 : decode cX1_linesAt 22 = .ok (.iaload, 1) := by decide +kernel
theorem dX1_linesAt_23 : decode cX1_linesAt 23 = .ok (.iload_n 1, 1) := by decide +kernel
theorem dX1_linesAt_24 : decode cX1_linesAt 24 = .ok (.if_icmp .gt 12, 3) := by decide +kernel
theorem dX1_linesAt_27 : decode cX1_linesAt 27 = .ok (.aload_n 0, 1) := by decide +kernel
theorem dX1_linesAt_28 : decode cX1_linesAt 28 = .ok (.getfield 17, 3) := by decide +kernel
theorem dX1_linesAt_31 : decode cX1_linesAt 31 = .ok (.iload_n 3, 1) := by decide +kernel
theorem dX1_linesAt_32 : decode cX1_linesAt 32 = .ok (.iaload, 1) := by decide +kernel
theorem dX1_linesAt_33 : decode cX1_linesAt 33 = .ok (.goto 4, 3) := by decide +kernel
theorem dX1_linesAt_36 : decode cX1_linesAt 36 = .ok (.iload_n 2, 1) := by decide +kernel
theorem dX1_linesAt_37 : decode cX1_linesAt 37 = .ok (.istore_n 2, 1) := by decide +kernel
theorem dX1_linesAt_38 : decode cX1_linesAt 38 = .ok (.iinc 3 1, 3) := by decide +kernel
theorem dX1_linesAt_41 : decode cX1_linesAt 41 = .ok (.goto (-32), 3) := by decide +kernel
theorem dX1_linesAt_44 : decode cX1_linesAt 44 = .ok (.iload_n 1, 1) := by decide +kernel
theorem dX1_linesAt_45 : decode cX1_linesAt 45 = .ok (.ifCond .ge 7, 3) := by decide +kernel
theorem dX1_linesAt_48 : decode cX1_linesAt 48 = .ok (.iconst 0, 1) := by decide +kernel
theorem dX1_linesAt_49 : decode cX1_linesAt 49 = .ok (.goto 4, 3) := by decide +kernel
theorem dX1_linesAt_52 : decode cX1_linesAt 52 = .ok (.iload_n 2, 1) := by decide +kernel
theorem dX1_linesAt_53 : decode cX1_linesAt 53 = .ok (.ireturn, 1) := by decide +kernel
theorem dX1_entryOf_0 : decode cX1_entryOf 0 = .ok (.aload_n 0, 1) := by decide +kernel
theorem dX1_entryOf_1 : decode cX1_entryOf 1 = .ok (.iconst 0, 1) := by decide +kernel
theorem dX1_entryOf_2 : decode cX1_entryOf 2 = .ok (.putfield 20, 3) := by decide +kernel
theorem dX1_entryOf_5 : decode cX1_entryOf 5 = .ok (.iload_n 1, 1) := by decide +kernel
theorem dX1_entryOf_6 : decode cX1_entryOf 6 = .ok (.ifCond .lt 11, 3) := by decide +kernel
theorem dX1_entryOf_9 : decode cX1_entryOf 9 = .ok (.iload_n 1, 1) := by decide +kernel
theorem dX1_entryOf_10 : decode cX1_entryOf 10 = .ok (.aload_n 0, 1) := by decide +kernel
theorem dX1_entryOf_11 : decode cX1_entryOf 11 = .ok (.getfield 26, 3) := by decide +kernel
theorem dX1_entryOf_14 : decode cX1_entryOf 14 = .ok (.if_icmp .lt 7, 3) := by decide +kernel
theorem dX1_entryOf_17 : decode cX1_entryOf 17 = .ok (.iconst (-1), 1) := by decide +kernel
theorem dX1_entryOf_18 : decode cX1_entryOf 18 = .ok (.goto 22, 3) := by decide +kernel
theorem dX1_entryOf_21 : decode cX1_entryOf 21 = .ok (.iload_n 2, 1) := by decide +kernel
theorem dX1_entryOf_22 : decode cX1_entryOf 22 = .ok (.ifCond .eq 12, 3) := by decide +kernel
theorem dX1_entryOf_25 : decode cX1_entryOf 25 = .ok (.aload_n 0, 1) := by decide +kernel
theorem dX1_entryOf_26 : decode cX1_entryOf 26 = .ok (.getfield 17, 3) := by decide +kernel
theorem dX1_entryOf_29 : decode cX1_entryOf 29 = .ok (.iload_n 1, 1) := by decide +kernel
theorem dX1_entryOf_30 : decode cX1_entryOf 30 = .ok (.iaload, 1) := by decide +kernel
theorem dX1_entryOf_31 : decode cX1_entryOf 31 = .ok (.goto 9, 3) := by decide +kernel
theorem dX1_entryOf_34 : decode cX1_entryOf 34 = .ok (.aload_n 0, 1) := by decide +kernel
theorem dX1_entryOf_35 : decode cX1_entryOf 35 = .ok (.getfield 13, 3) := by decide +kernel
theorem dX1_entryOf_38 : decode cX1_entryOf 38 = .ok (.iload_n 1, 1) := by decide +kernel
theorem dX1_entryOf_39 : decode cX1_entryOf 39 = .ok (.iaload, 1) := by decide +kernel
theorem dX1_entryOf_40 : decode cX1_entryOf 40 = .ok (.ireturn, 1) := by decide +kernel
theorem dX1_look_0 : decode cX1_look 0 = .ok (.aload_n 0, 1) := by decide +kernel
theorem dX1_look_1 : decode cX1_look 1 = .ok (.iconst 0, 1) := by decide +kernel
theorem dX1_look_2 : decode cX1_look 2 = .ok (.putfield 20, 3) := by decide +kernel
theorem dX1_look_5 : decode cX1_look 5 = .ok (.iload_n 1, 1) := by decide +kernel
theorem dX1_look_6 : decode cX1_look 6 = .ok (.tableswitch 138 0 11 #[62, 67, 72, 77, 90, 103, 108, 113, 118, 123, 128, 133], 62) := by decide +kernel
theorem dX1_look_68 : decode cX1_look 68 = .ok (.aload_n 0, 1) := by decide +kernel
theorem dX1_look_69 : decode cX1_look 69 = .ok (.getfield 29, 3) := by decide +kernel
theorem dX1_look_72 : decode cX1_look 72 = .ok (.ireturn, 1) := by decide +kernel
theorem dX1_look_73 : decode cX1_look 73 = .ok (.aload_n 0, 1) := by decide +kernel
theorem dX1_look_74 : decode cX1_look 74 = .ok (.getfield 49, 3) := by decide +kernel
theorem dX1_look_77 : decode cX1_look 77 = .ok (.ireturn, 1) := by decide +kernel
theorem dX1_look_78 : decode cX1_look 78 = .ok (.aload_n 0, 1) := by decide +kernel
theorem dX1_look_79 : decode cX1_look 79 = .ok (.getfield 52, 3) := by decide +kernel
theorem dX1_look_82 : decode cX1_look 82 = .ok (.ireturn, 1) := by decide +kernel
theorem dX1_look_83 : decode cX1_look 83 = .ok (.aload_n 0, 1) := by decide +kernel
theorem dX1_look_84 : decode cX1_look 84 = .ok (.getfield 32, 3) := by decide +kernel
theorem dX1_look_87 : decode cX1_look 87 = .ok (.ifCond .eq 7, 3) := by decide +kernel
theorem dX1_look_90 : decode cX1_look 90 = .ok (.iconst 1, 1) := by decide +kernel
theorem dX1_look_91 : decode cX1_look 91 = .ok (.goto 4, 3) := by decide +kernel
theorem dX1_look_94 : decode cX1_look 94 = .ok (.iconst 0, 1) := by decide +kernel
theorem dX1_look_95 : decode cX1_look 95 = .ok (.ireturn, 1) := by decide +kernel
theorem dX1_look_96 : decode cX1_look 96 = .ok (.aload_n 0, 1) := by decide +kernel
theorem dX1_look_97 : decode cX1_look 97 = .ok (.getfield 46, 3) := by decide +kernel
theorem dX1_look_100 : decode cX1_look 100 = .ok (.ifCond .eq 7, 3) := by decide +kernel
theorem dX1_look_103 : decode cX1_look 103 = .ok (.iconst 1, 1) := by decide +kernel
theorem dX1_look_104 : decode cX1_look 104 = .ok (.goto 4, 3) := by decide +kernel
theorem dX1_look_107 : decode cX1_look 107 = .ok (.iconst 0, 1) := by decide +kernel
theorem dX1_look_108 : decode cX1_look 108 = .ok (.ireturn, 1) := by decide +kernel
theorem dX1_look_109 : decode cX1_look 109 = .ok (.aload_n 0, 1) := by decide +kernel
theorem dX1_look_110 : decode cX1_look 110 = .ok (.getfield 40, 3) := by decide +kernel
theorem dX1_look_113 : decode cX1_look 113 = .ok (.ireturn, 1) := by decide +kernel
theorem dX1_look_114 : decode cX1_look 114 = .ok (.aload_n 0, 1) := by decide +kernel
theorem dX1_look_115 : decode cX1_look 115 = .ok (.invokevirtual 36, 3) := by decide +kernel
theorem dX1_look_118 : decode cX1_look 118 = .ok (.ireturn, 1) := by decide +kernel
theorem dX1_look_119 : decode cX1_look 119 = .ok (.aload_n 0, 1) := by decide +kernel
theorem dX1_look_120 : decode cX1_look 120 = .ok (.getfield 7, 3) := by decide +kernel
theorem dX1_look_123 : decode cX1_look 123 = .ok (.ireturn, 1) := by decide +kernel
theorem dX1_look_124 : decode cX1_look 124 = .ok (.aload_n 0, 1) := by decide +kernel
theorem dX1_look_125 : decode cX1_look 125 = .ok (.getfield 62, 3) := by decide +kernel
theorem dX1_look_128 : decode cX1_look 128 = .ok (.ireturn, 1) := by decide +kernel
theorem dX1_look_129 : decode cX1_look 129 = .ok (.aload_n 0, 1) := by decide +kernel
theorem dX1_look_130 : decode cX1_look 130 = .ok (.getfield 65, 3) := by decide +kernel
theorem dX1_look_133 : decode cX1_look 133 = .ok (.ireturn, 1) := by decide +kernel
theorem dX1_look_134 : decode cX1_look 134 = .ok (.aload_n 0, 1) := by decide +kernel
theorem dX1_look_135 : decode cX1_look 135 = .ok (.getfield 26, 3) := by decide +kernel
theorem dX1_look_138 : decode cX1_look 138 = .ok (.ireturn, 1) := by decide +kernel
theorem dX1_look_139 : decode cX1_look 139 = .ok (.aload_n 0, 1) := by decide +kernel
theorem dX1_look_140 : decode cX1_look 140 = .ok (.invokevirtual 56, 3) := by decide +kernel
theorem dX1_look_143 : decode cX1_look 143 = .ok (.ireturn, 1) := by decide +kernel
theorem dX1_look_144 : decode cX1_look 144 = .ok (.iconst (-1), 1) := by decide +kernel
theorem dX1_look_145 : decode cX1_look 145 = .ok (.ireturn, 1) := by decide +kernel
end
section
/-! PURE: numbers, lines, the timer, the distance. Nothing of the machine stands here. -/
theorem rt_bm32 {x : Int} (h1 : -2147483648 ≤ x) (h2 : x < 2147483648) : x.bmod (2 ^ 32) = x := Int.bmod_eq_of_le (by omega) (by omega)
theorem rt_bm64 {x : Int} (h1 : -9223372036854775808 ≤ x) (h2 : x < 9223372036854775808) : x.bmod (2 ^ 64) = x := Int.bmod_eq_of_le (by omega) (by omega)
theorem rt_bmE (x : Int) : x.bmod (2 ^ 32) = (x + 2147483648) % 4294967296 - 2147483648 := by
  rw [Int.bmod_def]
  split <;> omega
theorem rt_rg (x : Int32) : -2147483648 ≤ x.toInt ∧ x.toInt < 2147483648 := by
  have h1 := x.le_toInt
  have h2 := x.toInt_lt
  omega
theorem rt_bool {x : Int32} (h : x = 0 ∨ x = 1) : narrow .boolean (.int x) = .int x := by
  rcases h with rfl | rfl <;> rfl
theorem rt_boolF {x : Int32} (h : x = 0 ∨ x = 1) : fits .boolean (.int x) = true := by
  rcases h with rfl | rfl <;> rfl
theorem rt_mod1 (x p : Nat) : (x + 1) % p = if x % p + 1 = p then 0 else x % p + 1 := by
  rcases Nat.eq_zero_or_pos p with rfl | hp
  · simp
  · have hlt := Nat.mod_lt x hp
    have hd := Nat.div_add_mod x p
    by_cases h : x % p + 1 = p
    · rw [if_pos h]
      have e : x + 1 = p * (x / p + 1) := by rw [Nat.mul_add, Nat.mul_one]; omega
      rw [e, Nat.mul_mod_right]
    · rw [if_neg h]
      have e : x + 1 = p * (x / p) + (x % p + 1) := by omega
      have e2 : (x + 1) % p = (p * (x / p) + (x % p + 1)) % p := congrArg (· % p) e
      rw [e2, Nat.mul_add_mod, Nat.mod_eq_of_lt (by omega)]
/-! lines -/
def rt_pl (f g : Nat → Int32) (n : Int32) : Nat → Int32
  | 0 => 0
  | i + 1 => if f i ≤ n then g i else rt_pl f g n i
theorem rt_pl_at {f g : Nat → Int32} {n : Int32} {j : Nat} (hj : f j ≤ n) : ∀ e, j < e → (∀ i, j < i → i < e → ¬ f i ≤ n) → rt_pl f g n e = g j := by
  intro e
  induction e with
  | zero => intro h; omega
  | succ e ih =>
    intro h h2
    by_cases he : j = e
    · subst he
      simp only [rt_pl]
      rw [if_pos hj]
    · simp only [rt_pl]
      rw [if_neg (h2 e (by omega) (by omega))]
      exact ih (by omega) (fun i a b => h2 i a (by omega))
theorem rt_pl_none {f g : Nat → Int32} {n : Int32} : ∀ e, (∀ i, i < e → ¬ f i ≤ n) → rt_pl f g n e = 0 := by
  intro e
  induction e with
  | zero => intro _; rfl
  | succ e ih =>
    intro h
    simp only [rt_pl]
    rw [if_neg (h e (by omega))]
    exact ih (fun i a => h i (by omega))
theorem rt_pl_tri (f : Nat → Int32) (n : Int32) : ∀ e, (∀ i, i < e → ¬ f i ≤ n) ∨ ∃ j, j < e ∧ f j ≤ n ∧ ∀ i, j < i → i < e → ¬ f i ≤ n := by
  intro e
  induction e with
  | zero => exact Or.inl (fun i h => by omega)
  | succ e ih =>
    by_cases h : f e ≤ n
    · exact Or.inr ⟨e, by omega, h, fun i a b => by omega⟩
    · rcases ih with h1 | ⟨j, h1, h2, h3⟩
      · refine Or.inl (fun i hi => ?_)
        by_cases q : i = e
        · subst q; exact h
        · exact h1 i (by omega)
      · refine Or.inr ⟨j, by omega, h2, fun i a b => ?_⟩
        by_cases q : i = e
        · subst q; exact h
        · exact h3 i a (by omega)
/-- come: how many entries RETIRED r has reached; sorted: the counts rise, none is below 0 -/
def rt_Come (f : Nat → Int32) (e r k : Nat) : Prop := k ≤ e ∧ (∀ j, j < k → f j ≤ nI r) ∧ ∀ j, k ≤ j → j < e → ¬ f j ≤ nI r
def rt_Srt (f : Nat → Int32) (e : Nat) : Prop := (∀ i j, i < j → j < e → f i < f j) ∧ ∀ j, j < e → ¬ f j < 0
def rt_now (g : Nat → Int32) (k : Nat) : Int32 := if k = 0 then 0 else g (k - 1)
theorem rt_pl_now {f g : Nat → Int32} {e r k : Nat} (h : rt_Come f e r k) : rt_pl f g (nI r) e = rt_now g k := by
  obtain ⟨h1, h2, h3⟩ := h
  unfold rt_now
  by_cases hk : k = 0
  · subst hk
    rw [if_pos rfl]
    exact rt_pl_none e (fun i hi => h3 i (Nat.zero_le _) hi)
  · rw [if_neg hk]
    exact rt_pl_at (h2 (k - 1) (by omega)) e (by omega) (fun i a b => h3 i (by omega) b)
theorem rt_come_of {f : Nat → Int32} {e r k : Nat} (hs : rt_Srt f e) (h1 : k ≤ e) (h2 : ∀ j, j < k → f j ≤ nI r) (h3 : k < e → ¬ f k ≤ nI r) : rt_Come f e r k := by
  refine ⟨h1, h2, fun j a b => ?_⟩
  by_cases q : j = k
  · subst q; exact h3 b
  · intro h
    have h4 := hs.1 k j (by omega) b
    refine h3 (by omega) ?_
    rw [Int32.le_iff_toInt_le] at h ⊢
    rw [Int32.lt_iff_toInt_lt] at h4
    omega
theorem rt_come_mono {f : Nat → Int32} {e r k : Nat} (hr : r + 1 < 2147483648) (h : rt_Come f e r k) : ∀ j, j < k → f j ≤ nI (r + 1) := by
  intro j hj
  have h1 := h.2.1 j hj
  rw [Int32.le_iff_toInt_le] at h1 ⊢
  rw [nI_toInt (by omega)] at h1 ⊢
  omega
theorem rt_pl_neg {f g : Nat → Int32} {e : Nat} {n : Int32} (hs : rt_Srt f e) (hn : n < 0) : rt_pl f g n e = 0 := by
  refine rt_pl_none e (fun i hi h => hs.2 i hi ?_)
  rw [Int32.le_iff_toInt_le] at h
  rw [Int32.lt_iff_toInt_lt] at hn ⊢
  omega
/-! entry -/
def rt_last (f : Nat → Int32) (e : Nat) : Int32 := if e = 0 then -1 else f (e - 1)
def rt_ref (f : Nat → Int32) (e : Nat) (n : Int32) : Prop := e = 32 ∨ n ≤ rt_last f e
theorem rt_ref_m {f : Nat → Int32} {e : Nat} {n : Int32} (hs : rt_Srt f e) : rt_ref f e n ↔ (n < 0 ∨ e = 32 ∨ (0 < e ∧ n ≤ f (e - 1))) := by
  unfold rt_ref rt_last
  by_cases h0 : e = 0
  · subst h0
    rw [if_pos rfl]
    have e1 : (n ≤ (-1 : Int32)) ↔ n < 0 := by
      rw [Int32.le_iff_toInt_le, Int32.lt_iff_toInt_lt, show (-1 : Int32).toInt = -1 from rfl, show (0 : Int32).toInt = 0 from rfl]
      omega
    rw [e1]
    constructor
    · rintro (h | h)
      · omega
      · exact Or.inl h
    · rintro (h | h | h)
      · exact Or.inr h
      · omega
      · omega
  · rw [if_neg h0]
    constructor
    · rintro (h | h)
      · exact Or.inr (Or.inl h)
      · exact Or.inr (Or.inr ⟨by omega, h⟩)
    · rintro (h | h | h)
      · refine Or.inr ?_
        have h2 := hs.2 (e - 1) (by omega)
        rw [Int32.le_iff_toInt_le]
        rw [Int32.lt_iff_toInt_lt] at h h2
        omega
      · exact Or.inl h
      · exact Or.inr h.2
theorem rt_srt_add {f : Nat → Int32} {e : Nat} {n : Int32} (hs : rt_Srt f e) (hn : ¬ rt_ref f e n) : rt_Srt (upd f e n) (e + 1) := by
  have hn2 : ¬ n ≤ rt_last f e := fun h => hn (Or.inr h)
  unfold rt_last at hn2
  constructor
  · intro i j hij hj
    by_cases q : j = e
    · subst q
      rw [pk_us, pk_un (by omega)]
      rw [if_neg (by omega)] at hn2
      by_cases q2 : i = j - 1
      · subst q2
        rw [Int32.le_iff_toInt_le] at hn2
        rw [Int32.lt_iff_toInt_lt]
        omega
      · have h1 := hs.1 i (j - 1) (by omega) (by omega)
        rw [Int32.le_iff_toInt_le] at hn2
        rw [Int32.lt_iff_toInt_lt] at h1 ⊢
        omega
    · rw [pk_un (by omega), pk_un (by omega)]
      exact hs.1 i j hij (by omega)
  · intro j hj
    by_cases q : j = e
    · subst q
      rw [pk_us]
      by_cases q0 : j = 0
      · rw [if_pos q0] at hn2
        rw [Int32.le_iff_toInt_le, show (-1 : Int32).toInt = -1 from rfl] at hn2
        rw [Int32.lt_iff_toInt_lt, show (0 : Int32).toInt = 0 from rfl]
        omega
      · rw [if_neg q0] at hn2
        have h2 := hs.2 (j - 1) (by omega)
        rw [Int32.le_iff_toInt_le] at hn2
        rw [Int32.lt_iff_toInt_lt] at h2 ⊢
        omega
    · rw [pk_un (by omega)]
      exact hs.2 j (by omega)
/-! the interrupt that is due -/
def rt_due (sr pnd lin msk : Int32) : Int32 := if sr &&& 2 = 0 ∨ pnd = 0 then (if sr &&& 4 = 0 ∨ lin &&& msk = 0 then 0 else 8) else 5
theorem rt_due5 {sr pnd lin msk : Int32} (h1 : ¬ sr &&& 2 = 0) (h2 : ¬ pnd = 0) : rt_due sr pnd lin msk = 5 := if_neg (fun h => h.elim h1 h2)
theorem rt_due8 {sr pnd lin msk : Int32} (h : sr &&& 2 = 0 ∨ pnd = 0) (h3 : ¬ sr &&& 4 = 0) (h4 : ¬ lin &&& msk = 0) : rt_due sr pnd lin msk = 8 := by
  unfold rt_due
  rw [if_pos h, if_neg (fun q => q.elim h3 h4)]
theorem rt_due0 {sr pnd lin msk : Int32} (h : sr &&& 2 = 0 ∨ pnd = 0) (h3 : sr &&& 4 = 0 ∨ lin &&& msk = 0) : rt_due sr pnd lin msk = 0 := by
  unfold rt_due
  rw [if_pos h, if_pos h3]
theorem rt_due_z {sr pnd lin msk : Int32} : rt_due sr pnd lin msk = 0 ↔ (sr &&& 2 = 0 ∨ pnd = 0) ∧ (sr &&& 4 = 0 ∨ lin &&& msk = 0) := by
  constructor
  · intro h
    by_cases a : sr &&& 2 = 0 ∨ pnd = 0
    · by_cases b : sr &&& 4 = 0 ∨ lin &&& msk = 0
      · exact ⟨a, b⟩
      · unfold rt_due at h
        rw [if_pos a, if_neg b] at h
        exact absurd h (by decide)
    · unfold rt_due at h
      rw [if_neg a] at h
      exact absurd h (by decide)
  · intro h
    exact rt_due0 h.1 h.2
theorem rt_due_c (sr pnd lin msk : Int32) : rt_due sr pnd lin msk = 0 ∨ (0 < rt_due sr pnd lin msk ∧ ¬ rt_due sr pnd lin msk = 0) := by
  unfold rt_due
  split
  · split
    · exact Or.inl rfl
    · exact Or.inr (by decide)
  · exact Or.inr (by decide)
theorem rt_due_pos {sr pnd lin msk : Int32} : ¬ rt_due sr pnd lin msk ≤ 0 ↔ ¬ rt_due sr pnd lin msk = 0 := by
  rcases rt_due_c sr pnd lin msk with h | ⟨h1, h2⟩
  · rw [h]; decide
  · refine ⟨fun _ => h2, fun _ h => ?_⟩
    rw [Int32.lt_iff_toInt_lt] at h1
    rw [Int32.le_iff_toInt_le] at h
    omega
/-! the timer: how far COUNT is from PERIOD -/
theorem rt_lEQ0 {n : Nat} (h : n < 2 ^ 63) : lN n = 0 ↔ n = 0 := pk_lEQ (b := 0) h (by decide)
theorem rt_and (x : Int64) : x &&& 4294967295 = lN (x.toBitVec.toNat % 4294967296) := Int64.toBitVec_inj.mp (BitVec.eq_of_toNat_eq (by
  show (x.toBitVec &&& 4294967295#64).toNat = (BitVec.ofNat 64 (x.toBitVec.toNat % 4294967296)).toNat
  rw [BitVec.toNat_and, show (4294967295#64).toNat = 2 ^ 32 - 1 from by decide, Nat.and_two_pow_sub_one_eq_mod, BitVec.toNat_ofNat]
  omega))
theorem rt_uint (x : Int64) : x.toInt = (x.toBitVec.toNat : Int) ∨ x.toInt = (x.toBitVec.toNat : Int) - 18446744073709551616 := by
  have e : x.toInt = x.toBitVec.toInt := rfl
  rw [e, BitVec.toInt_eq_toNat_cond]
  split
  · exact Or.inl rfl
  · exact Or.inr (by omega)
def rt_per (per cnt : Int32) : Int64 := if (per.toInt64 - cnt.toInt64) &&& 4294967295 = 0 then 4294967296 else (per.toInt64 - cnt.toInt64) &&& 4294967295
def rt_way (per cnt : Int32) : Int64 := if 0 < per.toInt64 - cnt.toInt64 then per.toInt64 - cnt.toInt64 else per.toInt64 - cnt.toInt64 + 4294967296
def rt_d (p : Nat) (cnt : Int32) : Nat := if cnt.toInt < p then ((p : Int) - cnt.toInt).toNat else ((p : Int) - cnt.toInt + 4294967296).toNat
theorem rt_d_spec {p : Nat} (cnt : Int32) (hp : p < 268435456) : 1 ≤ rt_d p cnt ∧ rt_d p cnt ≤ 4294967296 ∧ ((cnt.toInt < p ∧ (rt_d p cnt : Int) = p - cnt.toInt) ∨ (¬ cnt.toInt < p ∧ (rt_d p cnt : Int) = p - cnt.toInt + 4294967296)) := by
  have h := rt_rg cnt
  unfold rt_d
  split <;> omega
theorem rt_diff {p : Nat} (cnt : Int32) (hp : p < 268435456) : ((nI p).toInt64 - cnt.toInt64).toInt = (p : Int) - cnt.toInt := by
  have hc := rt_rg cnt
  rw [Int64.toInt_sub, Int32.toInt_toInt64, Int32.toInt_toInt64, nI_toInt (by omega)]
  exact rt_bm64 (by omega) (by omega)
theorem rt_per_eq {p : Nat} (cnt : Int32) (hp : p < 268435456) : rt_per (nI p) cnt = lN (rt_d p cnt) := by
  have hx := rt_diff cnt hp
  have hc := rt_rg cnt
  have hd := rt_d_spec cnt hp
  unfold rt_per
  generalize (nI p).toInt64 - cnt.toInt64 = x at hx ⊢
  have hu := rt_uint x
  have hlt : x.toBitVec.toNat < 18446744073709551616 := x.toBitVec.isLt
  rw [rt_and x]
  generalize x.toBitVec.toNat = N at hu hlt ⊢
  by_cases h0 : N % 4294967296 = 0
  · rw [if_pos ((rt_lEQ0 (by omega)).mpr h0)]
    have e : rt_d p cnt = 4294967296 := by omega
    rw [e]
    rfl
  · rw [if_neg (fun q => h0 ((rt_lEQ0 (by omega)).mp q))]
    have e : rt_d p cnt = N % 4294967296 := by omega
    rw [e]
theorem rt_way_eq {p : Nat} (cnt : Int32) (hp : p < 268435456) : rt_way (nI p) cnt = lN (rt_d p cnt) := by
  have hx := rt_diff cnt hp
  have hc := rt_rg cnt
  have hd := rt_d_spec cnt hp
  unfold rt_way
  generalize (nI p).toInt64 - cnt.toInt64 = x at hx ⊢
  have e1 : (0 < x) ↔ cnt.toInt < p := by
    rw [Int64.lt_iff_toInt_lt, hx, show (0 : Int64).toInt = 0 from rfl]
    omega
  by_cases h : 0 < x
  · rw [if_pos h]
    refine Int64.toInt_inj.mp ?_
    rw [hx, pk_lT (by omega)]
    have h2 := e1.mp h
    omega
  · rw [if_neg h]
    refine Int64.toInt_inj.mp ?_
    rw [Int64.toInt_add, hx, pk_lT (by omega), show (4294967296 : Int64).toInt = 4294967296 from rfl]
    have h2 : ¬ cnt.toInt < p := fun q => h (e1.mpr q)
    rw [rt_bm64 (by omega) (by omega)]
    omega
/-- COUNT and PENDING t steps on, while COUNTING -/
def rt_ac (per cnt t : Int32) : Int32 := if t.toInt64 < rt_per per cnt then cnt + t else (if per = 0 then t - (rt_per per cnt).toInt32 else (t - (rt_per per cnt).toInt32) - (t - (rt_per per cnt).toInt32) / per * per)
def rt_ap (per cnt pnd t : Int32) : Int32 := if t.toInt64 < rt_per per cnt then pnd else 1
theorem rt_lt_per {p t : Nat} (cnt : Int32) (hp : p < 268435456) (ht : t < 2147483648) : (nI t).toInt64 < rt_per (nI p) cnt ↔ t < rt_d p cnt := by
  have hd := rt_d_spec cnt hp
  rw [rt_per_eq cnt hp, nI_l (by omega), pk_lLT (by omega) (by omega)]
theorem rt_ac_eq {p t : Nat} (cnt : Int32) (hp : p < 268435456) (ht : t < 2147483648) : rt_ac (nI p) cnt (nI t) = if t < rt_d p cnt then cnt + nI t else nI ((t - rt_d p cnt) % p) := by
  have hd := rt_d_spec cnt hp
  have hl := rt_lt_per cnt hp ht
  unfold rt_ac
  by_cases h : t < rt_d p cnt
  · rw [if_pos (hl.mpr h), if_pos h]
  · rw [if_neg (fun q => h (hl.mp q)), if_neg h, rt_per_eq cnt hp, lN_i, pk_sub (by omega)]
    by_cases h0 : p = 0
    · subst h0
      rw [if_pos nI_0, Nat.mod_zero]
    · rw [if_neg (nI_ne0 (by omega) (by omega)), pk_rem (by omega) (by omega) (by omega)]
theorem rt_ap_eq {p t : Nat} (cnt pnd : Int32) (hp : p < 268435456) (ht : t < 2147483648) : rt_ap (nI p) cnt pnd (nI t) = if t < rt_d p cnt then pnd else 1 := by
  have hl := rt_lt_per cnt hp ht
  unfold rt_ap
  by_cases h : t < rt_d p cnt
  · rw [if_pos (hl.mpr h), if_pos h]
  · rw [if_neg (fun q => h (hl.mp q)), if_neg h]
theorem rt_astep {p t : Nat} (cnt pnd : Int32) (hp : p < 268435456) (ht : t < 1073741824) :
    rt_ac (nI p) cnt (nI (t + 1)) = (if rt_ac (nI p) cnt (nI t) + 1 = nI p then 0 else rt_ac (nI p) cnt (nI t) + 1) ∧ rt_ap (nI p) cnt pnd (nI (t + 1)) = (if rt_ac (nI p) cnt (nI t) + 1 = nI p then 1 else rt_ap (nI p) cnt pnd (nI t)) := by
  have hd := rt_d_spec cnt hp
  have hc := rt_rg cnt
  rw [rt_ac_eq cnt hp (by omega), rt_ac_eq cnt hp (by omega), rt_ap_eq cnt pnd hp (by omega), rt_ap_eq cnt pnd hp (by omega)]
  have key : (cnt + nI t + 1).toInt = (cnt.toInt + (t + 1) + 2147483648) % 4294967296 - 2147483648 := by
    rw [Int32.add_assoc, nI_1, Int32.toInt_add, nI_toInt (by omega), rt_bmE]
    omega
  have kp : (nI p).toInt = (p : Int) := nI_toInt (by omega)
  by_cases h1 : t + 1 < rt_d p cnt
  · have h2 : t < rt_d p cnt := by omega
    have hne : ¬ cnt + nI t + 1 = nI p := by
      intro q
      rw [← Int32.toInt_inj, key, kp] at q
      omega
    refine ⟨?_, ?_⟩
    · simp only [if_pos h1, if_pos h2, if_neg hne]
      rw [nI_succ, Int32.add_assoc]
    · simp only [if_pos h1, if_pos h2, if_neg hne]
  · by_cases h2 : t + 1 = rt_d p cnt
    · have h3 : t < rt_d p cnt := by omega
      have he : cnt + nI t + 1 = nI p := by
        rw [← Int32.toInt_inj, key, kp]
        omega
      refine ⟨?_, ?_⟩
      · simp only [if_neg h1, if_pos h3, if_pos he]
        rw [h2, Nat.sub_self, Nat.zero_mod, nI_0]
      · simp only [if_neg h1, if_pos h3, if_pos he]
    · have h3 : ¬ t < rt_d p cnt := by omega
      have e1 : t + 1 - rt_d p cnt = (t - rt_d p cnt) + 1 := by omega
      have hm := Nat.mod_le (t - rt_d p cnt) p
      refine ⟨?_, ?_⟩
      · simp only [if_neg h1, if_neg h3]
        rw [e1, rt_mod1, nI_1]
        by_cases h4 : (t - rt_d p cnt) % p + 1 = p
        · rw [if_pos h4, h4, if_pos rfl]
          exact nI_0
        · have h5 : ¬ nI ((t - rt_d p cnt) % p + 1) = nI p := fun q => h4 ((nI_eq (by omega) (by omega)).mp q)
          rw [if_neg h4, if_neg h5]
      · simp only [if_neg h1, if_neg h3]
        split <;> rfl
theorem rt_a0 {p : Nat} (cnt pnd : Int32) (hp : p < 268435456) : rt_ac (nI p) cnt (nI 0) = cnt ∧ rt_ap (nI p) cnt pnd (nI 0) = pnd := by
  have hd := rt_d_spec cnt hp
  rw [rt_ac_eq cnt hp (by omega), rt_ap_eq cnt pnd hp (by omega), if_pos (by omega), if_pos (by omega), nI_0]
  exact ⟨Int32.add_zero _, rfl⟩
/-- t steps on, COUNTING or not -/
def rt_cc (cng per cnt t : Int32) : Int32 := if cng = 0 then cnt else rt_ac per cnt t
def rt_cp (cng per cnt pnd t : Int32) : Int32 := if cng = 0 then pnd else rt_ap per cnt pnd t
/-- one step -/
def rt_sc (cng per cnt : Int32) : Int32 := if cng = 0 then cnt else if cnt + 1 = per then 0 else cnt + 1
def rt_sp (cng per cnt pnd : Int32) : Int32 := if cng = 0 then pnd else if cnt + 1 = per then 1 else pnd
theorem rt_c0 {p : Nat} (cng cnt pnd : Int32) (hp : p < 268435456) : rt_cc cng (nI p) cnt (nI 0) = cnt ∧ rt_cp cng (nI p) cnt pnd (nI 0) = pnd := by
  have h := rt_a0 cnt pnd hp
  unfold rt_cc rt_cp
  split
  · exact ⟨rfl, rfl⟩
  · exact h
theorem rt_cs {p t : Nat} (cng cnt pnd : Int32) (hp : p < 268435456) (ht : t < 1073741824) :
    rt_cc cng (nI p) cnt (nI (t + 1)) = rt_sc cng (nI p) (rt_cc cng (nI p) cnt (nI t)) ∧ rt_cp cng (nI p) cnt pnd (nI (t + 1)) = rt_sp cng (nI p) (rt_cc cng (nI p) cnt (nI t)) (rt_cp cng (nI p) cnt pnd (nI t)) := by
  have h := rt_astep cnt pnd hp ht
  unfold rt_cc rt_cp rt_sc rt_sp
  by_cases h0 : cng = 0
  · refine ⟨?_, ?_⟩ <;> simp only [if_pos h0]
  · refine ⟨?_, ?_⟩
    · simp only [if_neg h0]
      exact h.1
    · simp only [if_neg h0]
      exact h.2
theorem rt_cp_bool {p t : Nat} (cng cnt pnd : Int32) (hp : p < 268435456) (ht : t < 2147483648) (h : pnd = 0 ∨ pnd = 1) : rt_cp cng (nI p) cnt pnd (nI t) = 0 ∨ rt_cp cng (nI p) cnt pnd (nI t) = 1 := by
  unfold rt_cp
  split
  · exact h
  · rw [rt_ap_eq cnt pnd hp ht]
    split
    · exact h
    · exact Or.inr rfl
end
section
/-! PURE: the distance to the next interrupt -/
def rt_pdl (f g : Nat → Int32) (ret msk : Int32) : Nat → Nat → Int64
  | 0, _ => 1099511627776
  | n + 1, i => if ret < f i ∧ ¬ g i &&& msk = 0 then (f i - ret).toInt64 else rt_pdl f g ret msk n (i + 1)
def rt_dN (f g : Nat → Int32) (r : Nat) (msk : Int32) : Nat → Nat → Nat
  | 0, _ => 1099511627776
  | n + 1, i => if nI r < f i ∧ ¬ g i &&& msk = 0 then (f i).toInt.toNat - r else rt_dN f g r msk n (i + 1)
theorem rt_nat {x : Int32} (h : ¬ x < 0) : x = nI x.toInt.toNat ∧ x.toInt.toNat < 2147483648 ∧ (x.toInt.toNat : Int) = x.toInt := by
  have h1 := rt_rg x
  rw [Int32.lt_iff_toInt_lt, show (0 : Int32).toInt = 0 from rfl] at h
  refine ⟨?_, by omega, by omega⟩
  rw [← Int32.toInt_inj, nI_toInt (by omega)]
  omega
theorem rt_pdl_eq {f g : Nat → Int32} {r e : Nat} {msk : Int32} (hr : r < 2147483648) (hf : ∀ j, j < e → ¬ f j < 0) : ∀ n i, i + n ≤ e → rt_pdl f g (nI r) msk n i = lN (rt_dN f g r msk n i) := by
  intro n
  induction n with
  | zero => intro i _; rfl
  | succ n ih =>
    intro i hi
    simp only [rt_pdl, rt_dN]
    by_cases h : nI r < f i ∧ ¬ g i &&& msk = 0
    · rw [if_pos h, if_pos h]
      obtain ⟨h1, h2, h3⟩ := rt_nat (hf i (by omega))
      have h4 := h.1
      rw [Int32.lt_iff_toInt_lt, nI_toInt (by omega)] at h4
      generalize (f i).toInt.toNat = a at h1 h2 h3 ⊢
      rw [h1, pk_sub (by omega), nI_l (by omega)]
    · rw [if_neg h, if_neg h]
      exact ih (i + 1) (by omega)
theorem rt_dN_spec (f g : Nat → Int32) (r : Nat) (msk : Int32) : ∀ n i,
    (∃ j, i ≤ j ∧ j < i + n ∧ nI r < f j ∧ ¬ g j &&& msk = 0 ∧ (∀ j', i ≤ j' → j' < j → ¬ (nI r < f j' ∧ ¬ g j' &&& msk = 0)) ∧ rt_dN f g r msk n i = (f j).toInt.toNat - r) ∨
    ((∀ j', i ≤ j' → j' < i + n → ¬ (nI r < f j' ∧ ¬ g j' &&& msk = 0)) ∧ rt_dN f g r msk n i = 1099511627776) := by
  intro n
  induction n with
  | zero => intro i; exact Or.inr ⟨fun j' a b => by omega, rfl⟩
  | succ n ih =>
    intro i
    simp only [rt_dN]
    by_cases h : nI r < f i ∧ ¬ g i &&& msk = 0
    · rw [if_pos h]
      exact Or.inl ⟨i, Nat.le_refl _, by omega, h.1, h.2, fun j' a b => by omega, rfl⟩
    · rw [if_neg h]
      rcases ih (i + 1) with ⟨j, a1, a2, a3, a4, a5, a6⟩ | ⟨a1, a2⟩
      · refine Or.inl ⟨j, by omega, by omega, a3, a4, fun j' b1 b2 => ?_, a6⟩
        by_cases q : j' = i
        · subst q; exact h
        · exact a5 j' (by omega) b2
      · refine Or.inr ⟨fun j' b1 b2 => ?_, a2⟩
        by_cases q : j' = i
        · subst q; exact h
        · exact a1 j' (by omega) (by omega)
theorem rt_dN_le (f g : Nat → Int32) (r : Nat) (msk : Int32) (n i : Nat) : rt_dN f g r msk n i ≤ 1099511627776 := by
  rcases rt_dN_spec f g r msk n i with ⟨j, -, -, -, -, -, h⟩ | ⟨-, h⟩
  · have h1 := rt_rg (f j)
    rw [h]
    omega
  · omega
theorem rt_dN_skip (f g : Nat → Int32) (r : Nat) (msk : Int32) {k e : Nat} (hk : k ≤ e) (h : ∀ j, j < k → f j ≤ nI r) : ∀ d, d ≤ k → rt_dN f g r msk (e - (k - d)) (k - d) = rt_dN f g r msk (e - k) k := by
  intro d
  induction d with
  | zero => intro _; rfl
  | succ d ih =>
    intro hd
    rw [← ih (by omega)]
    have e1 : e - (k - (d + 1)) = (e - (k - d)) + 1 := by omega
    have e2 : k - (d + 1) + 1 = k - d := by omega
    rw [e1]
    simp only [rt_dN]
    rw [if_neg, e2]
    intro q
    have h1 := h (k - (d + 1)) (by omega)
    have h2 := q.1
    rw [Int32.le_iff_toInt_le] at h1
    rw [Int32.lt_iff_toInt_lt] at h2
    omega
def rt_mn (x y : Int64) : Int64 := if y < x then y else x
theorem rt_mn_eq {a b : Nat} (ha : a < 2 ^ 63) (hb : b < 2 ^ 63) : rt_mn (lN a) (lN b) = lN (min a b) := by
  unfold rt_mn
  by_cases h : b < a
  · rw [if_pos ((pk_lLT hb ha).mpr h), Nat.min_eq_right (by omega)]
  · rw [if_neg (fun q => h ((pk_lLT hb ha).mp q)), Nat.min_eq_left (by omega)]
def rt_tim (sr cng per cnt : Int32) : Int64 := if sr &&& 2 = 0 ∨ cng = 0 then 1099511627776 else rt_per per cnt
def rt_timM (sr cng per cnt : Int32) : Int64 := if sr &&& 2 = 0 ∨ cng = 0 then 1099511627776 else rt_way per cnt
def rt_tN (sr cng : Int32) (p : Nat) (cnt : Int32) : Nat := if sr &&& 2 = 0 ∨ cng = 0 then 1099511627776 else rt_d p cnt
theorem rt_tim_eq {p : Nat} (sr cng cnt : Int32) (hp : p < 268435456) : rt_tim sr cng (nI p) cnt = lN (rt_tN sr cng p cnt) ∧ rt_timM sr cng (nI p) cnt = lN (rt_tN sr cng p cnt) ∧ rt_tN sr cng p cnt ≤ 1099511627776 := by
  have hd := rt_d_spec cnt hp
  unfold rt_tim rt_timM rt_tN
  split
  · exact ⟨rfl, rfl, Nat.le_refl _⟩
  · exact ⟨rt_per_eq cnt hp, rt_way_eq cnt hp, by omega⟩
def rt_dl (f g : Nat → Int32) (e : Nat) (ret msk sr : Int32) : Int64 := if sr &&& 4 = 0 then 1099511627776 else rt_pdl f g ret msk e 0
def rt_lD (f g : Nat → Int32) (e r : Nat) (msk sr : Int32) : Nat := if sr &&& 4 = 0 then 1099511627776 else rt_dN f g r msk e 0
def rt_dst (f g : Nat → Int32) (e : Nat) (ret cnt per cng pnd msk sr : Int32) : Int64 := if rt_due sr pnd (rt_pl f g ret e) msk = 0 then rt_mn (rt_tim sr cng per cnt) (rt_dl f g e ret msk sr) else 0
def rt_DN (f g : Nat → Int32) (e r : Nat) (cnt : Int32) (p : Nat) (cng pnd msk sr : Int32) : Nat := if rt_due sr pnd (rt_pl f g (nI r) e) msk = 0 then min (rt_tN sr cng p cnt) (rt_lD f g e r msk sr) else 0
theorem rt_lD_eq {f g : Nat → Int32} {e r : Nat} {msk sr : Int32} (hr : r < 2147483648) (hf : ∀ j, j < e → ¬ f j < 0) : rt_dl f g e (nI r) msk sr = lN (rt_lD f g e r msk sr) ∧ rt_lD f g e r msk sr ≤ 1099511627776 := by
  unfold rt_dl rt_lD
  split
  · exact ⟨rfl, Nat.le_refl _⟩
  · exact ⟨rt_pdl_eq hr hf e 0 (by omega), rt_dN_le f g r msk e 0⟩
theorem rt_dst_eq {f g : Nat → Int32} {e r p : Nat} {cnt cng pnd msk sr : Int32} (hr : r < 2147483648) (hp : p < 268435456) (hf : ∀ j, j < e → ¬ f j < 0) :
    rt_dst f g e (nI r) cnt (nI p) cng pnd msk sr = lN (rt_DN f g e r cnt p cng pnd msk sr) ∧ rt_DN f g e r cnt p cng pnd msk sr ≤ 1099511627776 := by
  obtain ⟨h1, -, h2⟩ := rt_tim_eq sr cng cnt hp
  obtain ⟨h3, h4⟩ := rt_lD_eq (g := g) (msk := msk) (sr := sr) hr hf
  unfold rt_dst rt_DN
  split
  · rw [h1, h3, rt_mn_eq (by omega) (by omega)]
    exact ⟨rfl, by omega⟩
  · exact ⟨rfl, by omega⟩
/-- before the distance none is due; at it one is -/
theorem rt_before {f g : Nat → Int32} {e r p t : Nat} {cnt cng pnd msk sr : Int32} (hs : rt_Srt f e) (hp : p < 268435456) (hrt : r + t < 2147483648) (ht : t < rt_DN f g e r cnt p cng pnd msk sr) :
    rt_due sr (rt_cp cng (nI p) cnt pnd (nI t)) (rt_pl f g (nI (r + t)) e) msk = 0 := by
  unfold rt_DN at ht
  by_cases h0 : rt_due sr pnd (rt_pl f g (nI r) e) msk = 0
  · rw [if_pos h0] at ht
    obtain ⟨z1, z2⟩ := rt_due_z.mp h0
    refine rt_due_z.mpr ⟨?_, ?_⟩
    · by_cases a : sr &&& 2 = 0
      · exact Or.inl a
      · refine Or.inr ?_
        have hpn : pnd = 0 := z1.resolve_left a
        unfold rt_cp
        by_cases b : cng = 0
        · rw [if_pos b]; exact hpn
        · rw [if_neg b, rt_ap_eq cnt pnd hp (by omega)]
          have hT : rt_tN sr cng p cnt = rt_d p cnt := if_neg (fun q => q.elim a b)
          rw [if_pos (by omega)]
          exact hpn
    · by_cases a : sr &&& 4 = 0
      · exact Or.inl a
      · refine Or.inr ?_
        have hl := z2.resolve_left a
        have hL : rt_lD f g e r msk sr = rt_dN f g r msk e 0 := if_neg a
        rcases rt_pl_tri f (nI (r + t)) e with q | ⟨j, q1, q2, q3⟩
        · rw [rt_pl_none e q]
          exact Int32.zero_and
        · rw [rt_pl_at q2 e q1 q3]
          by_cases hj : f j ≤ nI r
          · rw [rt_pl_at hj e q1 (fun i a b h => q3 i a b (by
              rw [Int32.le_iff_toInt_le] at h ⊢
              rw [nI_toInt (by omega)] at h ⊢
              omega))] at hl
            exact hl
          · refine Classical.byContradiction (fun hm => ?_)
            have hlt : nI r < f j := by
              rw [Int32.le_iff_toInt_le] at hj
              rw [Int32.lt_iff_toInt_lt]
              omega
            rcases rt_dN_spec f g r msk e 0 with ⟨i, a1, a2, a3, a4, a5, a6⟩ | ⟨a1, a2⟩
            · have hij : i ≤ j := Classical.byContradiction (fun hn => a5 j (by omega) (by omega) ⟨hlt, hm⟩)
              have hfi : (f i).toInt ≤ (f j).toInt := by
                by_cases q : i = j
                · subst q; exact Int.le_refl _
                · have := hs.1 i j (by omega) q1
                  rw [Int32.lt_iff_toInt_lt] at this
                  omega
              rw [Int32.le_iff_toInt_le, nI_toInt (by omega)] at q2
              omega
            · exact a1 j (by omega) (by omega) ⟨hlt, hm⟩
  · rw [if_neg h0] at ht
    omega
theorem rt_reached {f g : Nat → Int32} {e r p t : Nat} {cnt cng pnd msk sr : Int32} (hs : rt_Srt f e) (hp : p < 268435456) (hrt : r + t < 2147483648) (ht : t = rt_DN f g e r cnt p cng pnd msk sr) :
    ¬ rt_due sr (rt_cp cng (nI p) cnt pnd (nI t)) (rt_pl f g (nI (r + t)) e) msk = 0 := by
  unfold rt_DN at ht
  by_cases h0 : rt_due sr pnd (rt_pl f g (nI r) e) msk = 0
  · rw [if_pos h0] at ht
    intro hz
    obtain ⟨z1, z2⟩ := rt_due_z.mp hz
    by_cases c1 : t = rt_tN sr cng p cnt
    · by_cases a : sr &&& 2 = 0 ∨ cng = 0
      · have hT : rt_tN sr cng p cnt = 1099511627776 := if_pos a
        omega
      · have hT : rt_tN sr cng p cnt = rt_d p cnt := if_neg a
        have a1 : ¬ sr &&& 2 = 0 := fun q => a (Or.inl q)
        have a2 : ¬ cng = 0 := fun q => a (Or.inr q)
        have z3 := z1.resolve_left a1
        unfold rt_cp at z3
        rw [if_neg a2, rt_ap_eq cnt pnd hp (by omega), if_neg (by omega)] at z3
        exact absurd z3 (by decide)
    · have c2 : t = rt_lD f g e r msk sr := by omega
      by_cases a : sr &&& 4 = 0
      · have hL : rt_lD f g e r msk sr = 1099511627776 := if_pos a
        omega
      · have hL : rt_lD f g e r msk sr = rt_dN f g r msk e 0 := if_neg a
        rcases rt_dN_spec f g r msk e 0 with ⟨i, a1, a2, a3, a4, a5, a6⟩ | ⟨a1, a2⟩
        · have h1 := rt_rg (f i)
          have h2 := hs.2 i (by omega)
          rw [Int32.lt_iff_toInt_lt, show (0 : Int32).toInt = 0 from rfl] at h2
          rw [Int32.lt_iff_toInt_lt, nI_toInt (by omega)] at a3
          have e1 : rt_pl f g (nI (r + t)) e = g i := by
            refine rt_pl_at ?_ e (by omega) (fun j b1 b2 hj => ?_)
            · rw [Int32.le_iff_toInt_le, nI_toInt (by omega)]
              omega
            · have h3 := hs.1 i j b1 b2
              rw [Int32.lt_iff_toInt_lt] at h3
              rw [Int32.le_iff_toInt_le, nI_toInt (by omega)] at hj
              omega
          rw [e1] at z2
          exact a4 (z2.resolve_left a)
        · omega
  · rw [if_neg h0] at ht
    subst ht
    have h1 := rt_c0 cng cnt pnd hp
    rw [h1.2]
    exact h0
/-! steps: how many -/
def rt_tn (f g : Nat → Int32) (e r : Nat) (cnt per cng pnd msk sr n : Int32) : Nat := if n < 1 ∨ 20000 < n ∨ 2147483647 - nI r < n then 0 else (if rt_dst f g e (nI r) cnt per cng pnd msk sr < n.toInt64 then (rt_dst f g e (nI r) cnt per cng pnd msk sr).toInt32 else n).toNatClampNeg
def rt_ans (f g : Nat → Int32) (e r : Nat) (cnt per cng pnd msk sr n : Int32) : Int32 := if n < 1 ∨ 20000 < n ∨ 2147483647 - nI r < n then -1 else nI (rt_tn f g e r cnt per cng pnd msk sr n)
theorem rt_ok {r : Nat} {n : Int32} (hr : r < 2147483648) (h1 : ¬ n < 1) (h2 : ¬ 20000 < n) : ∃ N : Nat, n = nI N ∧ 1 ≤ N ∧ N ≤ 20000 ∧ (2147483647 - nI r < n ↔ 2147483648 ≤ r + N) ∧ (nI r ≤ 2147483647 - n ↔ r + N < 2147483648) := by
  have hn := rt_rg n
  rw [Int32.lt_iff_toInt_lt] at h1 h2
  rw [show (1 : Int32).toInt = 1 from rfl] at h1
  rw [show (20000 : Int32).toInt = 20000 from rfl] at h2
  have e : n = nI n.toInt.toNat := by
    rw [← Int32.toInt_inj, nI_toInt (by omega)]
    omega
  refine ⟨n.toInt.toNat, e, by omega, by omega, ?_, ?_⟩
  · rw [Int32.lt_iff_toInt_lt, Int32.toInt_sub, nI_toInt (by omega), show (2147483647 : Int32).toInt = 2147483647 from rfl, rt_bm32 (by omega) (by omega)]
    omega
  · rw [Int32.le_iff_toInt_le, Int32.toInt_sub, nI_toInt (by omega), show (2147483647 : Int32).toInt = 2147483647 from rfl, rt_bm32 (by omega) (by omega)]
    omega
theorem rt_tn_spec {f g : Nat → Int32} {e r p : Nat} {cnt cng pnd msk sr n : Int32} (hr : r < 2147483648) (hp : p < 268435456) (hf : ∀ j, j < e → ¬ f j < 0) (hok : ¬ (n < 1 ∨ 20000 < n ∨ 2147483647 - nI r < n)) :
    ∃ N t : Nat, n = nI N ∧ N ≤ 20000 ∧ r + N < 2147483648 ∧ t ≤ N ∧ rt_tn f g e r cnt (nI p) cng pnd msk sr n = t ∧ (if rt_dst f g e (nI r) cnt (nI p) cng pnd msk sr < n.toInt64 then (rt_dst f g e (nI r) cnt (nI p) cng pnd msk sr).toInt32 else n) = nI t ∧ t ≤ rt_DN f g e r cnt p cng pnd msk sr ∧ (t = N ∨ t = rt_DN f g e r cnt p cng pnd msk sr) := by
  obtain ⟨N, rfl, h1, h2, h3, -⟩ := rt_ok hr (fun q => hok (Or.inl q)) (fun q => hok (Or.inr (Or.inl q)))
  have h4 : r + N < 2147483648 := by
    have : ¬ 2147483648 ≤ r + N := fun q => hok (Or.inr (Or.inr (h3.mpr q)))
    omega
  obtain ⟨d1, d2⟩ := rt_dst_eq (g := g) (cnt := cnt) (cng := cng) (pnd := pnd) (msk := msk) (sr := sr) hr hp hf
  unfold rt_tn
  rw [if_neg hok, d1, nI_l (by omega), lN_i]
  generalize rt_DN f g e r cnt p cng pnd msk sr = D at d1 d2 ⊢
  by_cases h : D < N
  · rw [if_pos ((pk_lLT (by omega) (by omega)).mpr h)]
    exact ⟨N, D, rfl, h2, h4, by omega, nI_clamp (by omega), rfl, Nat.le_refl _, Or.inr rfl⟩
  · rw [if_neg (fun q => h ((pk_lLT (by omega) (by omega)).mp q))]
    exact ⟨N, N, rfl, h2, h4, Nat.le_refl _, nI_clamp (by omega), rfl, by omega, Or.inl rfl⟩
/-! until -/
def rt_un (f g : Nat → Int32) (e r : Nat) (cnt per cng pnd msk sr : Int32) : Int32 := if rt_dst f g e (nI r) cnt per cng pnd msk sr ≤ (2147483647 - nI r).toInt64 then (rt_dst f g e (nI r) cnt per cng pnd msk sr).toInt32 else -1
def rt_ml (f g : Nat → Int32) (ret msk : Int32) (k : Nat) : Nat → Int64 → Int64
  | 0, acc => acc
  | n + 1, acc => rt_ml f g ret msk k n (if ¬ g (k + n) &&& msk = 0 ∧ (f (k + n)).toInt64 - ret.toInt64 < acc then (f (k + n)).toInt64 - ret.toInt64 else acc)
theorem rt_wayL {x : Int32} {r : Nat} (hr : r < 2147483648) (hx : ¬ x < 0) (h : nI r < x) : x.toInt64 - (nI r).toInt64 = lN (x.toInt.toNat - r) ∧ r < x.toInt.toNat ∧ x.toInt.toNat < 2147483648 := by
  obtain ⟨h1, h2, h3⟩ := rt_nat hx
  rw [Int32.lt_iff_toInt_lt, nI_toInt (by omega)] at h
  refine ⟨?_, by omega, h2⟩
  refine Int64.toInt_inj.mp ?_
  rw [Int64.toInt_sub, Int32.toInt_toInt64, Int32.toInt_toInt64, nI_toInt (by omega), pk_lT (by omega), rt_bm64 (by omega) (by omega)]
  omega
theorem rt_ml_eq {f g : Nat → Int32} {e r k T : Nat} {msk : Int32} (hr : r < 2147483648) (hs : rt_Srt f e) (hk : rt_Come f e r k) (hT : T ≤ 1099511627776) : ∀ n, k + n ≤ e → rt_ml f g (nI r) msk k n (lN (min T (rt_dN f g r msk (e - (k + n)) (k + n)))) = lN (min T (rt_dN f g r msk (e - k) k)) := by
  intro n
  induction n with
  | zero => intro _; rfl
  | succ n ih =>
    intro hn
    simp only [rt_ml]
    rw [← ih (by omega)]
    have hgt : nI r < f (k + n) := by
      have := hk.2.2 (k + n) (by omega) (by omega)
      rw [Int32.le_iff_toInt_le] at this
      rw [Int32.lt_iff_toInt_lt]
      omega
    obtain ⟨w1, w2, w3⟩ := rt_wayL hr (hs.2 (k + n) (by omega)) hgt
    have e1 : e - (k + n) = (e - (k + (n + 1))) + 1 := by omega
    have hD := rt_dN_le f g r msk (e - (k + (n + 1))) (k + (n + 1))
    have hlow : (f (k + n)).toInt.toNat - r < rt_dN f g r msk (e - (k + (n + 1))) (k + (n + 1)) := by
      rcases rt_dN_spec f g r msk (e - (k + (n + 1))) (k + (n + 1)) with ⟨j, a1, a2, -, -, -, a6⟩ | ⟨-, a2⟩
      · have h1 := hs.1 (k + n) j (by omega) (by omega)
        rw [Int32.lt_iff_toInt_lt] at h1
        rw [a6]
        omega
      · omega
    congr 1
    rw [e1, w1]
    simp only [rt_dN]
    rw [show k + n + 1 = k + (n + 1) from rfl]
    generalize rt_dN f g r msk (e - (k + (n + 1))) (k + (n + 1)) = D at hD hlow ⊢
    generalize (f (k + n)).toInt.toNat - r = a at w1 hlow ⊢
    have hlt : (lN a < lN (min T D)) ↔ a < min T D := pk_lLT (by omega) (by omega)
    by_cases hm : g (k + n) &&& msk = 0
    · rw [if_neg (fun q => q.1 hm), if_neg (fun q => q.2 hm)]
    · rw [if_pos (c := nI r < f (k + n) ∧ ¬ g (k + n) &&& msk = 0) ⟨hgt, hm⟩]
      by_cases h : a < min T D
      · rw [if_pos ⟨hm, hlt.mpr h⟩, Nat.min_eq_right (by omega)]
      · rw [if_neg (fun q => h (hlt.mp q.2))]
        congr 1
        omega
def rt_unM (f g : Nat → Int32) (e r k : Nat) (cnt per cng msk sr : Int32) : Int64 := if sr &&& 4 = 0 then rt_timM sr cng per cnt else rt_ml f g (nI r) msk k (e - k) (rt_timM sr cng per cnt)
theorem rt_un_eq {f g : Nat → Int32} {e r k p : Nat} {cnt cng pnd msk sr : Int32} (hr : r < 2147483648) (hp : p < 268435456) (hs : rt_Srt f e) (hk : rt_Come f e r k) :
    rt_un f g e r cnt (nI p) cng pnd msk sr = if rt_due sr pnd (rt_now g k) msk = 0 then (if 2147483647 < (nI r).toInt64 + rt_unM f g e r k cnt (nI p) cng msk sr then -1 else (rt_unM f g e r k cnt (nI p) cng msk sr).toInt32) else 0 := by
  obtain ⟨d1, d2⟩ := rt_dst_eq (g := g) (cnt := cnt) (cng := cng) (pnd := pnd) (msk := msk) (sr := sr) hr hp hs.2
  obtain ⟨-, t1, t2⟩ := rt_tim_eq sr cng cnt hp
  have eR : (2147483647 - nI r).toInt64 = lN (2147483647 - r) := by
    rw [show (2147483647 : Int32) = nI 2147483647 from rfl, pk_sub (by omega), nI_l (by omega)]
  have hDN : rt_DN f g e r cnt p cng pnd msk sr = if rt_due sr pnd (rt_now g k) msk = 0 then min (rt_tN sr cng p cnt) (rt_lD f g e r msk sr) else 0 := by
    unfold rt_DN
    rw [rt_pl_now hk]
  have hM : rt_unM f g e r k cnt (nI p) cng msk sr = lN (min (rt_tN sr cng p cnt) (rt_lD f g e r msk sr)) := by
    unfold rt_unM rt_lD
    rw [t1]
    by_cases h4 : sr &&& 4 = 0
    · rw [if_pos h4, if_pos h4, Nat.min_eq_left t2]
    · rw [if_neg h4, if_neg h4]
      have h5 := rt_ml_eq (g := g) (msk := msk) hr hs hk t2 (e - k) (by have := hk.1; omega)
      have e1 : k + (e - k) = e := by have := hk.1; omega
      rw [e1, Nat.sub_self] at h5
      rw [show rt_dN f g r msk 0 e = 1099511627776 from rfl, Nat.min_eq_left t2] at h5
      rw [h5]
      have h6 := rt_dN_skip f g r msk hk.1 hk.2.1 k (Nat.le_refl _)
      rw [Nat.sub_self, Nat.sub_zero] at h6
      rw [h6]
  unfold rt_un
  rw [d1, eR, hM, hDN]
  have hl := (rt_lD_eq (g := g) (msk := msk) (sr := sr) hr hs.2).2
  generalize rt_lD f g e r msk sr = b at hl ⊢
  generalize rt_tN sr cng p cnt = a at t2 ⊢
  by_cases h0 : rt_due sr pnd (rt_now g k) msk = 0
  · rw [if_pos h0, if_pos h0]
    have e1 : (nI r).toInt64 + lN (min a b) = lN (r + min a b) := by rw [nI_l (by omega), lN_add]
    have e2 : (2147483647 : Int64) = lN 2147483647 := rfl
    rw [e1, e2]
    by_cases h : min a b ≤ 2147483647 - r
    · rw [if_pos ((pk_lLE (by omega) (by omega)).mpr h), if_neg (fun q => by have := (pk_lLT (by omega) (by omega)).mp q; omega)]
    · rw [if_neg (fun q => h ((pk_lLE (by omega) (by omega)).mp q)), if_pos ((pk_lLT (by omega) (by omega)).mpr (by omega))]
  · rw [if_neg h0, if_neg h0, if_pos ((pk_lLE (by omega) (by omega)).mpr (Nat.zero_le _))]
    rfl
/-! entryOf, look -/
def rt_eo (f g : Nat → Int32) (e : Nat) (i b : Int32) : Int32 := if i < 0 ∨ nI e ≤ i then -1 else if b = 0 then f i.toNatClampNeg else g i.toNatClampNeg
def rt_lk (e r : Nat) (cnt per cng pnd msk sr sav tkn lin : Int32) : Nat → Int32
  | 0 => nI r
  | 1 => cnt
  | 2 => per
  | 3 => if pnd = 0 then 0 else 1
  | 4 => if cng = 0 then 0 else 1
  | 5 => msk
  | 6 => lin
  | 7 => sr
  | 8 => sav
  | 9 => tkn
  | 10 => nI e
  | _ => rt_due sr pnd lin msk
theorem rt_out {x : Int32} (h : x < 0 ∨ nI 12 ≤ x) : x.toInt < 0 ∨ 11 < x.toInt := by
  rcases h with h | h
  · rw [Int32.lt_iff_toInt_lt, show (0 : Int32).toInt = 0 from rfl] at h
    exact Or.inl h
  · rw [Int32.le_iff_toInt_le, nI_toInt (by decide)] at h
    exact Or.inr (by omega)
/-! small rows that the walks use -/
theorem rt_nle {a b : Int32} (h : ¬ a ≤ b) : b < a := by
  rw [Int32.le_iff_toInt_le] at h
  rw [Int32.lt_iff_toInt_lt]
  omega
theorem rt_nlt {a b : Int32} (h : ¬ a < b) : b ≤ a := by
  rw [Int32.lt_iff_toInt_lt] at h
  rw [Int32.le_iff_toInt_le]
  omega
theorem rt_nle2 {a b : Int32} (h1 : a ≤ b) (h2 : b < a) : False := by
  rw [Int32.le_iff_toInt_le] at h1
  rw [Int32.lt_iff_toInt_lt] at h2
  omega
theorem rt_nleL {a b : Int64} (h : ¬ a ≤ b) : b < a := by
  rw [Int64.le_iff_toInt_le] at h
  rw [Int64.lt_iff_toInt_lt]
  omega
theorem rt_geL {a b : Int64} (h : a ≤ b) : ¬ b < a := by
  rw [Int64.le_iff_toInt_le] at h
  rw [Int64.lt_iff_toInt_lt]
  omega
theorem rt_ltL {a b : Int64} (h : a < b) : ¬ b ≤ a := by
  rw [Int64.lt_iff_toInt_lt] at h
  rw [Int64.le_iff_toInt_le]
  omega
theorem rt_nltL {a b : Int64} (h : ¬ a < b) : b ≤ a := by
  rw [Int64.lt_iff_toInt_lt] at h
  rw [Int64.le_iff_toInt_le]
  omega
theorem rt_z0 {n : Nat} (hn : n < 2147483648) (h : nI n ≤ 0) : n = 0 := by
  rw [Int32.le_iff_toInt_le, nI_toInt (by omega), show (0 : Int32).toInt = 0 from rfl] at h
  omega
theorem rt_npos {n : Nat} (hn : n < 2147483648) (h : ¬ nI n ≤ 0) : 0 < n := by
  rw [Int32.le_iff_toInt_le, nI_toInt (by omega), show (0 : Int32).toInt = 0 from rfl] at h
  omega
theorem rt_pre1 {n : Nat} (h : 0 < n) : nI n - 1 = nI (n - 1) := by
  obtain ⟨k, rfl⟩ : ∃ k, n = k + 1 := ⟨n - 1, by omega⟩
  exact nI_pred k
theorem rt_inP {n N : Nat} (h : 0 < n) (h2 : n ≤ N) (hN : N < 2147483648) : vp_in (nI n - 1) N := by
  rw [rt_pre1 h]
  exact vp_in_nI (by omega) (by omega)
theorem rt_full {n : Nat} (h32 : n ≤ 32) (h : (32 : Int32) ≤ nI n) : n = 32 := by
  rw [Int32.le_iff_toInt_le, nI_toInt (by omega), show (32 : Int32).toInt = 32 from rfl] at h
  omega
theorem rt_nfull {n : Nat} (h32 : n ≤ 32) (h : ¬ (32 : Int32) ≤ nI n) : n < 32 := by
  rw [Int32.le_iff_toInt_le, nI_toInt (by omega), show (32 : Int32).toInt = 32 from rfl] at h
  omega
theorem rt_eq32 {n : Nat} (h32 : n ≤ 32) : nI n = 32 ↔ n = 32 := nI_eq (b := 32) (by omega) (by decide)
theorem rt_idx {n : Nat} {x : Int32} (h32 : n ≤ 32) (h1 : ¬ x < 0) (h2 : ¬ nI n ≤ x) : vp_in x 32 := by
  rw [Int32.lt_iff_toInt_lt, show (0 : Int32).toInt = 0 from rfl] at h1
  rw [Int32.le_iff_toInt_le, nI_toInt (by omega)] at h2
  rw [vp_in_iff]
  omega
theorem rt_lt32 {n : Nat} {x : Int32} (h32 : n ≤ 32) (h2 : ¬ nI n ≤ x) : x < 32 := by
  rw [Int32.le_iff_toInt_le, nI_toInt (by omega)] at h2
  rw [Int32.lt_iff_toInt_lt, show (32 : Int32).toInt = 32 from rfl]
  omega
theorem rt_ltself {n : Nat} (hn : n < 2147483648) : nI n - 1 < nI n := by
  rw [Int32.lt_iff_toInt_lt, Int32.toInt_sub, nI_toInt (by omega), show (1 : Int32).toInt = 1 from rfl, rt_bm32 (by omega) (by omega)]
  omega
theorem rt_refuse {f g : Nat → Int32} {e r p : Nat} {cnt cng pnd msk sr n : Int32} (hp : p < 268435456) (hbad : n < 1 ∨ 20000 < n ∨ 2147483647 - nI r < n) :
    -1 = rt_ans f g e r cnt (nI p) cng pnd msk sr n ∧ nI r = nI (r + rt_tn f g e r cnt (nI p) cng pnd msk sr n) ∧ cnt = rt_cc cng (nI p) cnt (nI (rt_tn f g e r cnt (nI p) cng pnd msk sr n)) ∧ pnd = rt_cp cng (nI p) cnt pnd (nI (rt_tn f g e r cnt (nI p) cng pnd msk sr n)) := by
  have h0 : rt_tn f g e r cnt (nI p) cng pnd msk sr n = 0 := if_pos hbad
  have h1 : rt_ans f g e r cnt (nI p) cng pnd msk sr n = -1 := if_pos hbad
  have h2 := rt_c0 cng cnt pnd hp
  rw [h0, h1]
  exact ⟨rfl, rfl, h2.1.symm, h2.2.symm⟩
theorem rt_accept {f g : Nat → Int32} {e r p : Nat} {cnt cng pnd msk sr n : Int32} (hr : r < 2147483648) (hp : p < 268435456) (hf : ∀ j, j < e → ¬ f j < 0) (hok : ¬ (n < 1 ∨ 20000 < n ∨ 2147483647 - nI r < n)) :
    (if rt_dst f g e (nI r) cnt (nI p) cng pnd msk sr < n.toInt64 then (rt_dst f g e (nI r) cnt (nI p) cng pnd msk sr).toInt32 else n) = nI (rt_tn f g e r cnt (nI p) cng pnd msk sr n) := by
  obtain ⟨N, t, -, -, -, -, h5, h6, -, -⟩ := rt_tn_spec (g := g) (cnt := cnt) (cng := cng) (pnd := pnd) (msk := msk) (sr := sr) hr hp hf hok
  rw [h5]
  exact h6
theorem rt_come_add {f : Nat → Int32} {e r k k' : Nat} {n : Int32} (hs : rt_Srt f e) (hc : rt_Come f e r k) (hn : ¬ rt_ref f e n) (hw : k ≤ k' ∧ k' ≤ e + 1 ∧ (∀ j, k ≤ j → j < k' → upd f e n j ≤ nI r) ∧ (k' < e + 1 → ¬ upd f e n k' ≤ nI r)) : rt_Come (upd f e n) (e + 1) r k' := by
  refine rt_come_of (rt_srt_add hs hn) hw.2.1 (fun j hj => ?_) hw.2.2.2
  by_cases q : j < k
  · have := hc.1
    rw [pk_un (by omega)]
    exact hc.2.1 j q
  · exact hw.2.2.1 j (by omega) hj
theorem rt_come_step {f : Nat → Int32} {e r k k' : Nat} (hs : rt_Srt f e) (hc : rt_Come f e r k) (hr : r + 1 < 2147483648) (hw : k ≤ k' ∧ k' ≤ e ∧ (∀ j, k ≤ j → j < k' → f j ≤ nI (r + 1)) ∧ (k' < e → ¬ f k' ≤ nI (r + 1))) : rt_Come f e (r + 1) k' := by
  refine rt_come_of hs hw.2.1 (fun j hj => ?_) hw.2.2.2
  by_cases q : j < k
  · exact rt_come_mono hr hc j q
  · exact hw.2.2.1 j (by omega) hj
theorem rt_dueLe {sr pnd lin msk x : Int32} (hx : x = rt_due sr pnd lin msk) (h : x ≤ 0) : rt_due sr pnd lin msk = 0 := by
  refine Classical.byContradiction (fun q => rt_due_pos.mpr q ?_)
  rw [← hx]
  exact h
theorem rt_dueGt {sr pnd lin msk x : Int32} (hx : x = rt_due sr pnd lin msk) (h : ¬ x ≤ 0) : ¬ rt_due sr pnd lin msk = 0 := by
  rw [hx] at h
  exact rt_due_pos.mp h
theorem rt_okM {r : Nat} {n : Int32} (hr : r < 2147483648) (c7 : ¬ n < 1) (c14 : ¬ 20000 < n) (c25 : nI r ≤ 2147483647 - n) : ¬ (n < 1 ∨ 20000 < n ∨ 2147483647 - nI r < n) := by
  obtain ⟨N, -, h1, h2, h3, h4⟩ := rt_ok hr c7 c14
  rintro (h | h | h)
  · exact c7 h
  · exact c14 h
  · have a := h3.mp h
    have b := h4.mp c25
    omega
theorem rt_badM {r : Nat} {n : Int32} (hr : r < 2147483648) (c7 : ¬ n < 1) (c14 : ¬ 20000 < n) (c25 : ¬ nI r ≤ 2147483647 - n) : n < 1 ∨ 20000 < n ∨ 2147483647 - nI r < n := by
  obtain ⟨N, -, h1, h2, h3, h4⟩ := rt_ok hr c7 c14
  refine Or.inr (Or.inr (h3.mpr ?_))
  have b : ¬ r + N < 2147483648 := fun q => c25 (h4.mpr q)
  omega
theorem rt_unM_z {f g : Nat → Int32} {e r k : Nat} {cnt per cng msk sr : Int32} (h4 : sr &&& 4 = 0) : rt_unM f g e r k cnt per cng msk sr = rt_timM sr cng per cnt := if_pos h4
theorem rt_unM_n {f g : Nat → Int32} {e r k : Nat} {cnt per cng msk sr : Int32} (h4 : ¬ sr &&& 4 = 0) : rt_unM f g e r k cnt per cng msk sr = rt_ml f g (nI r) msk k (e - k) (rt_timM sr cng per cnt) := if_neg h4
theorem rt_tn_bound {f g : Nat → Int32} {e r p : Nat} {cnt cng pnd msk sr n : Int32} (hr : r < 2147483648) (hp : p < 268435456) (hf : ∀ j, j < e → ¬ f j < 0) : r + rt_tn f g e r cnt (nI p) cng pnd msk sr n < 2147483648 := by
  by_cases hok : n < 1 ∨ 20000 < n ∨ 2147483647 - nI r < n
  · rw [show rt_tn f g e r cnt (nI p) cng pnd msk sr n = 0 from if_pos hok]
    exact hr
  · obtain ⟨N, t, -, -, h3, h4, h5, -, -, -⟩ := rt_tn_spec (g := g) (cnt := cnt) (cng := cng) (pnd := pnd) (msk := msk) (sr := sr) hr hp hf hok
    rw [h5]
    omega
theorem rt_lk_eq {A : Nat → Int32} {x v w : Int32} (hv : (∃ j, j < 12 ∧ x = nI j ∧ v = A j) ∨ ((x < 0 ∨ nI 12 ≤ x) ∧ v = -1)) (hw : (∃ j, j < 12 ∧ x = nI j ∧ w = A j) ∨ ((x < 0 ∨ nI 12 ≤ x) ∧ w = -1)) : v = w := by
  have key : ∀ j : Nat, j < 12 → x = nI j → ¬ (x < 0 ∨ nI 12 ≤ x) := by
    intro j hj e h
    have h2 := rt_out h
    rw [e, nI_toInt (by omega)] at h2
    omega
  rcases hv with ⟨j, hj, e1, e2⟩ | ⟨h, e2⟩
  · rcases hw with ⟨i, hi, d1, d2⟩ | ⟨h, d2⟩
    · have hij : j = i := (nI_eq (by omega) (by omega)).mp (e1.symm.trans d1)
      rw [e2, d2, hij]
    · exact absurd h (key j hj e1)
  · rcases hw with ⟨i, hi, d1, d2⟩ | ⟨h', d2⟩
    · exact absurd h (key i hi d1)
    · rw [e2, d2]
theorem rt_in0 {i L : Nat} (h : i + 4 ≤ L) (hL : L ≤ 2048) : vp_in (nI i) L := vp_in_nI (by omega) (by omega)
theorem rt_in1 {i L : Nat} (h : i + 4 ≤ L) (hL : L ≤ 2048) : vp_in (nI i + 1) L := by
  rw [nI_1]
  exact vp_in_nI (by omega) (by omega)
theorem rt_in2 {i L : Nat} (h : i + 4 ≤ L) (hL : L ≤ 2048) : vp_in (nI i + 2) L := by
  rw [show nI i + 2 = nI (i + 2) from nI_add i 2]
  exact vp_in_nI (by omega) (by omega)
theorem rt_in3 {i L : Nat} (h : i + 4 ≤ L) (hL : L ≤ 2048) : vp_in (nI i + 3) L := by
  rw [show nI i + 3 = nI (i + 3) from nI_add i 3]
  exact vp_in_nI (by omega) (by omega)
theorem rt_go {i L : Nat} (hi : i ≤ L) (hL : L ≤ 2048) (h : ¬ Int32.ofNat L - 4 < nI i) : i + 4 ≤ L := by
  have e1 : (Int32.ofNat L).toInt = (L : Int) := nI_toInt (n := L) (by omega)
  rw [Int32.lt_iff_toInt_lt, Int32.toInt_sub, e1, nI_toInt (by omega), show (4 : Int32).toInt = 4 from rfl, rt_bm32 (by omega) (by omega)] at h
  omega
/-- what class and reference have in common, between two calls -/
def rt_Inv (f : Nat → Int32) (e r k p : Nat) : Prop := e ≤ 32 ∧ r < 2147483648 ∧ p < 268435456 ∧ rt_Srt f e ∧ rt_Come f e r k
theorem rt_inv0 (f : Nat → Int32) : rt_Inv f 0 0 0 0 := ⟨by omega, by omega, by omega, ⟨fun i j _ h => by omega, fun j h => by omega⟩, by omega, fun j h => by omega, fun j _ h => by omega⟩
end
section
/-! the cells of the class and of the reference -/
abbrev rt_pre (dC : Nat → ClassId) (dI : Nat → Nat → Nat) (ws : va_W) (tys : List (ClassId × FieldType)) (sz : Nat) : State → Prop := fun U => U.heap.size = sz ∧ va_P (dC, dI) vwCl ws U.heap ∧ va_K (dC, dI) vwCl tys U ∧ va_D (fun _ => True) ws
abbrev rt_post {S : Type} (dC : Nat → ClassId) (dI : Nat → Nat → Nat) (tys : List (ClassId × FieldType)) (A : Nat → Prop) (ws : S → va_W) : S → State → Prop := fun u t => va_P (dC, dI) vwCl (ws u) t.heap ∧ va_K (dC, dI) vwCl tys t ∧ va_D A (ws u)
abbrev rt_xw (h a1 a2 : Nat) (k1 k2 : ClassId) (f g : Nat → Int32) (ent ret cnt per cng pnd msk sr sav tkn : Int32) : va_W := [(h, .inr (0, [.ref a1, .ref a2, .int ent, .int ret, .int cnt, .int per, .int cng, .int pnd, .int msk, .int sr, .int sav, .int tkn])), (a1, .inl (k1, 32, .inl f)), (a2, .inl (k2, 32, .inl g))]
abbrev rt_mw (h a1 a2 : Nat) (k1 k2 : ClassId) (f g : Nat → Int32) (ent ret cnt per cng pnd msk sr sav tkn com : Int32) : va_W := [(h, .inr (1, [.int 0, .int ret, .int cnt, .int per, .int cng, .int pnd, .int msk, .int sr, .int sav, .int tkn, .ref a1, .ref a2, .int ent, .int com])), (a1, .inl (k1, 32, .inl f)), (a2, .inl (k2, 32, .inl g))]
end
section
set_option maxHeartbeats 4000000 in
set_option maxRecDepth 100000 in
theorem c_X_isOn (l : Launch) (dC : Nat → ClassId) (dI : Nat → Nat → Nat) (h0 a1 a2 sz : Nat) (k1 k2 : ClassId) (f g : Nat → Int32) (ent ret cnt per cng pnd msk sr sav tkn : Int32) (p1 : Int32) :
    Met l yX0_isOn wsX0_isOn ({ frames := 0, cells := 0, slots := 0, locals := 0 }) (va_Pc [.ref h0, .int p1] (rt_pre dC dI (rt_xw h0 a1 a2 k1 k2 f g ent ret cnt per cng pnd msk sr sav tkn) [(k1, .int), (k2, .int)] sz)) (va_Qi (fun (v : Int32) (u : Unit) => (v = 0 ↔ sr &&& p1 = 0)) (rt_post dC dI [(k1, .int), (k2, .int)] (va_A (rt_xw h0 a1 a2 k1 k2 f g ent ret cnt per cng pnd msk sr sav tkn) sz) (fun (u : Unit) => rt_xw h0 a1 a2 k1 k2 f g ent ret cnt per cng pnd msk sr sav tkn)) (va_A (rt_xw h0 a1 a2 k1 k2 f g ent ret cnt per cng pnd msk sr sav tkn) sz)) 0 0 (va_A (rt_xw h0 a1 a2 k1 k2 f g ent ret cnt per cng pnd msk sr sav tkn) sz) := by
  refine Met.ofW (cc := cX0_isOn) (maxL := 2) (ret := (some .boolean)) (by decide) rfl ?_
  intro p e0 s m args below meth c s₁ B hml hv
  obtain ⟨rfl, hsz, hP, hK, hD0⟩ := hv
  have hx := B.exec
  have hb := B.bytes
  have hr := B.returns
  have hts := atoms_spec (ws := wsX0_isOn) B.pre
  have hown : s.vm.findClass RX0 = some m.cls := findClass_of_methodNamed B.named
  have hlocks := B.notSynchronized
  subst hsz
  have hD := hD0.self (sz := s.heap.size)
  generalize hAe : va_A (rt_xw h0 a1 a2 k1 k2 f g ent ret cnt per cng pnd msk sr sav tkn) s.heap.size = A at hD ⊢
  have hA : ∀ q : Nat, s.heap.size ≤ q → A q := fun q h => by rw [← hAe]; exact Or.inr h
  have hS : va_S A s.heap s.heap [] := va_S.rf
  have hP : va_P (dC, dI) vwCl (rt_xw h0 a1 a2 k1 k2 f g ent ret cnt per cng pnd msk sr sav tkn) s.heap := hP
  have hl := lv_entry ([.ref h0, .int p1]) (n := 2) (Nat.le_of_ble_eq_true rfl)
  rw [lg_entry_eq]
  generalize (lg_sl ([.ref h0, .int p1]) ++ List.replicate (2 - (lg_sl ([.ref h0, .int p1])).length) Slot.unset).toArray = ls at hl ⊢
  have hl : lv_has ls 2 [(0, .ref h0), (1, .int p1)] := hl
  refine lv_aload_n hx hb dX0_isOn_0 rfl (lv_at hl 0 rfl) ?_
  refine va_get (D := (dC, dI)) (ci := 0) (v := .int sr) (C := RX0) (T := TX0) (N := 12) hx hb hts (fun _ h => List.mem_cons_of_mem _ (List.mem_append_right _ h)) hown hK hP 0 rfl rfl 9 (by decide) (hts (.fieldLink RX0 42 "RetiredTimer" "sr" "I") (by decide +kernel)) (fun _ h9 => h9) rfl dX0_isOn_1 ?_
  refine lv_iload_n hx hb dX0_isOn_4 rfl (lv_at hl 1 rfl) ?_
  refine lv_iand hx hb dX0_isOn_5 ?_
  refine lv_if_eq (tgt := 13) hx hb dX0_isOn_6 (by decide) (fun c_6 => ?_) (fun c_6 => ?_)
  · refine lv_iconst (v := 0) hx hb dX0_isOn_13 (by decide) ?_
    exact W.zret (v := 0) hx hb hr rfl (fun t ht hW => ⟨⟨0, (), rfl, ⟨fun _ => c_6, fun _ => rfl⟩, by rw [ht]; exact hP, va_K.moved hW.alike hK, hD⟩, hS.F ht⟩) hS.2.2 dX0_isOn_14
  · refine lv_iconst (v := 1) hx hb dX0_isOn_9 (by decide) ?_
    refine lv_goto (tgt := 14) hx hb dX0_isOn_10 (by decide) ?_
    exact W.zret (v := 1) hx hb hr rfl (fun t ht hW => ⟨⟨1, (), rfl, ⟨fun h => absurd h (by decide), fun h => absurd h c_6⟩, by rw [ht]; exact hP, va_K.moved hW.alike hK, hD⟩, hS.F ht⟩) hS.2.2 dX0_isOn_14
set_option maxHeartbeats 4000000 in
set_option maxRecDepth 100000 in
theorem c_X_isInMask (l : Launch) (dC : Nat → ClassId) (dI : Nat → Nat → Nat) (h0 a1 a2 sz : Nat) (k1 k2 : ClassId) (f g : Nat → Int32) (ent ret cnt per cng pnd msk sr sav tkn : Int32) (p1 : Int32) :
    Met l yX0_isInMask wsX0_isInMask ({ frames := 0, cells := 0, slots := 0, locals := 0 }) (va_Pc [.ref h0, .int p1] (rt_pre dC dI (rt_xw h0 a1 a2 k1 k2 f g ent ret cnt per cng pnd msk sr sav tkn) [(k1, .int), (k2, .int)] sz)) (va_Qi (fun (v : Int32) (u : Unit) => (v = 0 ↔ p1 &&& msk = 0)) (rt_post dC dI [(k1, .int), (k2, .int)] (va_A (rt_xw h0 a1 a2 k1 k2 f g ent ret cnt per cng pnd msk sr sav tkn) sz) (fun (u : Unit) => rt_xw h0 a1 a2 k1 k2 f g ent ret cnt per cng pnd msk sr sav tkn)) (va_A (rt_xw h0 a1 a2 k1 k2 f g ent ret cnt per cng pnd msk sr sav tkn) sz)) 0 0 (va_A (rt_xw h0 a1 a2 k1 k2 f g ent ret cnt per cng pnd msk sr sav tkn) sz) := by
  refine Met.ofW (cc := cX0_isInMask) (maxL := 2) (ret := (some .boolean)) (by decide) rfl ?_
  intro p e0 s m args below meth c s₁ B hml hv
  obtain ⟨rfl, hsz, hP, hK, hD0⟩ := hv
  have hx := B.exec
  have hb := B.bytes
  have hr := B.returns
  have hts := atoms_spec (ws := wsX0_isInMask) B.pre
  have hown : s.vm.findClass RX0 = some m.cls := findClass_of_methodNamed B.named
  have hlocks := B.notSynchronized
  subst hsz
  have hD := hD0.self (sz := s.heap.size)
  generalize hAe : va_A (rt_xw h0 a1 a2 k1 k2 f g ent ret cnt per cng pnd msk sr sav tkn) s.heap.size = A at hD ⊢
  have hA : ∀ q : Nat, s.heap.size ≤ q → A q := fun q h => by rw [← hAe]; exact Or.inr h
  have hS : va_S A s.heap s.heap [] := va_S.rf
  have hP : va_P (dC, dI) vwCl (rt_xw h0 a1 a2 k1 k2 f g ent ret cnt per cng pnd msk sr sav tkn) s.heap := hP
  have hl := lv_entry ([.ref h0, .int p1]) (n := 2) (Nat.le_of_ble_eq_true rfl)
  rw [lg_entry_eq]
  generalize (lg_sl ([.ref h0, .int p1]) ++ List.replicate (2 - (lg_sl ([.ref h0, .int p1])).length) Slot.unset).toArray = ls at hl ⊢
  have hl : lv_has ls 2 [(0, .ref h0), (1, .int p1)] := hl
  refine lv_iload_n hx hb dX0_isInMask_0 rfl (lv_at hl 1 rfl) ?_
  refine lv_aload_n hx hb dX0_isInMask_1 rfl (lv_at hl 0 rfl) ?_
  refine va_get (D := (dC, dI)) (ci := 0) (v := .int msk) (C := RX0) (T := TX0) (N := 12) hx hb hts (fun _ h => List.mem_cons_of_mem _ (List.mem_append_right _ h)) hown hK hP 0 rfl rfl 8 (by decide) (hts (.fieldLink RX0 51 "RetiredTimer" "mask" "I") (by decide +kernel)) (fun _ h9 => h9) rfl dX0_isInMask_2 ?_
  refine lv_iand hx hb dX0_isInMask_5 ?_
  refine lv_if_eq (tgt := 13) hx hb dX0_isInMask_6 (by decide) (fun c_6 => ?_) (fun c_6 => ?_)
  · refine lv_iconst (v := 0) hx hb dX0_isInMask_13 (by decide) ?_
    exact W.zret (v := 0) hx hb hr rfl (fun t ht hW => ⟨⟨0, (), rfl, ⟨fun _ => c_6, fun _ => rfl⟩, by rw [ht]; exact hP, va_K.moved hW.alike hK, hD⟩, hS.F ht⟩) hS.2.2 dX0_isInMask_14
  · refine lv_iconst (v := 1) hx hb dX0_isInMask_9 (by decide) ?_
    refine lv_goto (tgt := 14) hx hb dX0_isInMask_10 (by decide) ?_
    exact W.zret (v := 1) hx hb hr rfl (fun t ht hW => ⟨⟨1, (), rfl, ⟨fun h => absurd h (by decide), fun h => absurd h c_6⟩, by rw [ht]; exact hP, va_K.moved hW.alike hK, hD⟩, hS.F ht⟩) hS.2.2 dX0_isInMask_14
set_option maxHeartbeats 4000000 in
set_option maxRecDepth 100000 in
theorem c_X_setAllAsAtFirst (l : Launch) (dC : Nat → ClassId) (dI : Nat → Nat → Nat) (h0 a1 a2 sz : Nat) (k1 k2 : ClassId) (f g : Nat → Int32) (ent ret cnt per cng pnd msk sr sav tkn : Int32) :
    Met l yX0_setAllAsAtFirst wsX0_setAllAsAtFirst ({ frames := 0, cells := 0, slots := 0, locals := 0 }) (va_Pc [.ref h0] (rt_pre dC dI (rt_xw h0 a1 a2 k1 k2 f g ent ret cnt per cng pnd msk sr sav tkn) [(k1, .int), (k2, .int)] sz)) (va_Qv (fun (u : Unit) => True) (rt_post dC dI [(k1, .int), (k2, .int)] (va_A (rt_xw h0 a1 a2 k1 k2 f g ent ret cnt per cng pnd msk sr sav tkn) sz) (fun (u : Unit) => rt_xw h0 a1 a2 k1 k2 f g 0 0 0 0 0 0 0 1 0 0)) (va_A (rt_xw h0 a1 a2 k1 k2 f g ent ret cnt per cng pnd msk sr sav tkn) sz)) 0 0 (va_A (rt_xw h0 a1 a2 k1 k2 f g ent ret cnt per cng pnd msk sr sav tkn) sz) := by
  refine Met.ofW (cc := cX0_setAllAsAtFirst) (maxL := 1) (ret := none) (by decide) rfl ?_
  intro p e0 s m args below meth c s₁ B hml hv
  obtain ⟨rfl, hsz, hP, hK, hD0⟩ := hv
  have hx := B.exec
  have hb := B.bytes
  have hr := B.returns
  have hts := atoms_spec (ws := wsX0_setAllAsAtFirst) B.pre
  have hown : s.vm.findClass RX0 = some m.cls := findClass_of_methodNamed B.named
  have hlocks := B.notSynchronized
  subst hsz
  have hD := hD0.self (sz := s.heap.size)
  generalize hAe : va_A (rt_xw h0 a1 a2 k1 k2 f g ent ret cnt per cng pnd msk sr sav tkn) s.heap.size = A at hD ⊢
  have hA : ∀ q : Nat, s.heap.size ≤ q → A q := fun q h => by rw [← hAe]; exact Or.inr h
  have hS : va_S A s.heap s.heap [] := va_S.rf
  have hP : va_P (dC, dI) vwCl (rt_xw h0 a1 a2 k1 k2 f g ent ret cnt per cng pnd msk sr sav tkn) s.heap := hP
  have hl := lv_entry ([.ref h0]) (n := 1) (Nat.le_of_ble_eq_true rfl)
  rw [lg_entry_eq]
  generalize (lg_sl ([.ref h0]) ++ List.replicate (1 - (lg_sl ([.ref h0])).length) Slot.unset).toArray = ls at hl ⊢
  have hl : lv_has ls 1 [(0, .ref h0)] := hl
  refine lv_aload_n hx hb dX0_setAllAsAtFirst_0 rfl (lv_at hl 0 rfl) ?_
  refine lv_iconst (v := 0) hx hb dX0_setAllAsAtFirst_1 (by decide) ?_
  refine va_put (D := (dC, dI)) (ci := 0) (v := .int 0) (ty := .int) (C := RX0) (T := TX0) (N := 12) hx hb hts (fun _ h => List.mem_cons_of_mem _ (List.mem_append_right _ h)) tyX0 tyX0_ok nmX0 hown hK hP hD hS 0 rfl rfl 2 (by decide) (hts (.fieldLink RX0 19 "RetiredTimer" "entries" "I") (by decide +kernel)) (fun _ h9 => h9) rfl (by decide +kernel) rfl rfl (Nat.le_of_ble_eq_true rfl) dX0_setAllAsAtFirst_2 (fun H locs hP hD hS => ?_)
  have hP : va_P (dC, dI) vwCl (rt_xw h0 a1 a2 k1 k2 f g 0 ret cnt per cng pnd msk sr sav tkn) H := hP
  have hD : va_D A (rt_xw h0 a1 a2 k1 k2 f g 0 ret cnt per cng pnd msk sr sav tkn) := hD
  refine lv_aload_n hx hb dX0_setAllAsAtFirst_5 rfl (lv_at hl 0 rfl) ?_
  refine lv_iconst (v := 0) hx hb dX0_setAllAsAtFirst_6 (by decide) ?_
  refine va_put (D := (dC, dI)) (ci := 0) (v := .int 0) (ty := .int) (C := RX0) (T := TX0) (N := 12) hx hb hts (fun _ h => List.mem_cons_of_mem _ (List.mem_append_right _ h)) tyX0 tyX0_ok nmX0 hown hK hP hD hS 0 rfl rfl 3 (by decide) (hts (.fieldLink RX0 28 "RetiredTimer" "retired" "I") (by decide +kernel)) (fun _ h9 => h9) rfl (by decide +kernel) rfl rfl (Nat.le_of_ble_eq_true rfl) dX0_setAllAsAtFirst_7 (fun H locs hP hD hS => ?_)
  have hP : va_P (dC, dI) vwCl (rt_xw h0 a1 a2 k1 k2 f g 0 0 cnt per cng pnd msk sr sav tkn) H := hP
  have hD : va_D A (rt_xw h0 a1 a2 k1 k2 f g 0 0 cnt per cng pnd msk sr sav tkn) := hD
  refine lv_aload_n hx hb dX0_setAllAsAtFirst_10 rfl (lv_at hl 0 rfl) ?_
  refine lv_iconst (v := 0) hx hb dX0_setAllAsAtFirst_11 (by decide) ?_
  refine va_put (D := (dC, dI)) (ci := 0) (v := .int 0) (ty := .int) (C := RX0) (T := TX0) (N := 12) hx hb hts (fun _ h => List.mem_cons_of_mem _ (List.mem_append_right _ h)) tyX0 tyX0_ok nmX0 hown hK hP hD hS 0 rfl rfl 4 (by decide) (hts (.fieldLink RX0 65 "RetiredTimer" "count" "I") (by decide +kernel)) (fun _ h9 => h9) rfl (by decide +kernel) rfl rfl (Nat.le_of_ble_eq_true rfl) dX0_setAllAsAtFirst_12 (fun H locs hP hD hS => ?_)
  have hP : va_P (dC, dI) vwCl (rt_xw h0 a1 a2 k1 k2 f g 0 0 0 per cng pnd msk sr sav tkn) H := hP
  have hD : va_D A (rt_xw h0 a1 a2 k1 k2 f g 0 0 0 per cng pnd msk sr sav tkn) := hD
  refine lv_aload_n hx hb dX0_setAllAsAtFirst_15 rfl (lv_at hl 0 rfl) ?_
  refine lv_iconst (v := 0) hx hb dX0_setAllAsAtFirst_16 (by decide) ?_
  refine va_put (D := (dC, dI)) (ci := 0) (v := .int 0) (ty := .int) (C := RX0) (T := TX0) (N := 12) hx hb hts (fun _ h => List.mem_cons_of_mem _ (List.mem_append_right _ h)) tyX0 tyX0_ok nmX0 hown hK hP hD hS 0 rfl rfl 5 (by decide) (hts (.fieldLink RX0 55 "RetiredTimer" "period" "I") (by decide +kernel)) (fun _ h9 => h9) rfl (by decide +kernel) rfl rfl (Nat.le_of_ble_eq_true rfl) dX0_setAllAsAtFirst_17 (fun H locs hP hD hS => ?_)
  have hP : va_P (dC, dI) vwCl (rt_xw h0 a1 a2 k1 k2 f g 0 0 0 0 cng pnd msk sr sav tkn) H := hP
  have hD : va_D A (rt_xw h0 a1 a2 k1 k2 f g 0 0 0 0 cng pnd msk sr sav tkn) := hD
  refine lv_aload_n hx hb dX0_setAllAsAtFirst_20 rfl (lv_at hl 0 rfl) ?_
  refine lv_iconst (v := 0) hx hb dX0_setAllAsAtFirst_21 (by decide) ?_
  refine va_put (D := (dC, dI)) (ci := 0) (v := .int 0) (ty := .boolean) (C := RX0) (T := TX0) (N := 12) hx hb hts (fun _ h => List.mem_cons_of_mem _ (List.mem_append_right _ h)) tyX0 tyX0_ok nmX0 hown hK hP hD hS 0 rfl rfl 6 (by decide) (hts (.fieldLink RX0 58 "RetiredTimer" "counting" "Z") (by decide +kernel)) (fun _ h9 => h9) rfl (by decide +kernel) rfl rfl (Nat.le_of_ble_eq_true rfl) dX0_setAllAsAtFirst_22 (fun H locs hP hD hS => ?_)
  have hP : va_P (dC, dI) vwCl (rt_xw h0 a1 a2 k1 k2 f g 0 0 0 0 0 pnd msk sr sav tkn) H := hP
  have hD : va_D A (rt_xw h0 a1 a2 k1 k2 f g 0 0 0 0 0 pnd msk sr sav tkn) := hD
  refine lv_aload_n hx hb dX0_setAllAsAtFirst_25 rfl (lv_at hl 0 rfl) ?_
  refine lv_iconst (v := 0) hx hb dX0_setAllAsAtFirst_26 (by decide) ?_
  refine va_put (D := (dC, dI)) (ci := 0) (v := .int 0) (ty := .boolean) (C := RX0) (T := TX0) (N := 12) hx hb hts (fun _ h => List.mem_cons_of_mem _ (List.mem_append_right _ h)) tyX0 tyX0_ok nmX0 hown hK hP hD hS 0 rfl rfl 7 (by decide) (hts (.fieldLink RX0 62 "RetiredTimer" "pending" "Z") (by decide +kernel)) (fun _ h9 => h9) rfl (by decide +kernel) rfl rfl (Nat.le_of_ble_eq_true rfl) dX0_setAllAsAtFirst_27 (fun H locs hP hD hS => ?_)
  have hP : va_P (dC, dI) vwCl (rt_xw h0 a1 a2 k1 k2 f g 0 0 0 0 0 0 msk sr sav tkn) H := hP
  have hD : va_D A (rt_xw h0 a1 a2 k1 k2 f g 0 0 0 0 0 0 msk sr sav tkn) := hD
  refine lv_aload_n hx hb dX0_setAllAsAtFirst_30 rfl (lv_at hl 0 rfl) ?_
  refine lv_iconst (v := 0) hx hb dX0_setAllAsAtFirst_31 (by decide) ?_
  refine va_put (D := (dC, dI)) (ci := 0) (v := .int 0) (ty := .int) (C := RX0) (T := TX0) (N := 12) hx hb hts (fun _ h => List.mem_cons_of_mem _ (List.mem_append_right _ h)) tyX0 tyX0_ok nmX0 hown hK hP hD hS 0 rfl rfl 8 (by decide) (hts (.fieldLink RX0 51 "RetiredTimer" "mask" "I") (by decide +kernel)) (fun _ h9 => h9) rfl (by decide +kernel) rfl rfl (Nat.le_of_ble_eq_true rfl) dX0_setAllAsAtFirst_32 (fun H locs hP hD hS => ?_)
  have hP : va_P (dC, dI) vwCl (rt_xw h0 a1 a2 k1 k2 f g 0 0 0 0 0 0 0 sr sav tkn) H := hP
  have hD : va_D A (rt_xw h0 a1 a2 k1 k2 f g 0 0 0 0 0 0 0 sr sav tkn) := hD
  refine lv_aload_n hx hb dX0_setAllAsAtFirst_35 rfl (lv_at hl 0 rfl) ?_
  refine lv_iconst (v := 1) hx hb dX0_setAllAsAtFirst_36 (by decide) ?_
  refine va_put (D := (dC, dI)) (ci := 0) (v := .int 1) (ty := .int) (C := RX0) (T := TX0) (N := 12) hx hb hts (fun _ h => List.mem_cons_of_mem _ (List.mem_append_right _ h)) tyX0 tyX0_ok nmX0 hown hK hP hD hS 0 rfl rfl 9 (by decide) (hts (.fieldLink RX0 42 "RetiredTimer" "sr" "I") (by decide +kernel)) (fun _ h9 => h9) rfl (by decide +kernel) rfl rfl (Nat.le_of_ble_eq_true rfl) dX0_setAllAsAtFirst_37 (fun H locs hP hD hS => ?_)
  have hP : va_P (dC, dI) vwCl (rt_xw h0 a1 a2 k1 k2 f g 0 0 0 0 0 0 0 1 sav tkn) H := hP
  have hD : va_D A (rt_xw h0 a1 a2 k1 k2 f g 0 0 0 0 0 0 0 1 sav tkn) := hD
  refine lv_aload_n hx hb dX0_setAllAsAtFirst_40 rfl (lv_at hl 0 rfl) ?_
  refine lv_iconst (v := 0) hx hb dX0_setAllAsAtFirst_41 (by decide) ?_
  refine va_put (D := (dC, dI)) (ci := 0) (v := .int 0) (ty := .int) (C := RX0) (T := TX0) (N := 12) hx hb hts (fun _ h => List.mem_cons_of_mem _ (List.mem_append_right _ h)) tyX0 tyX0_ok nmX0 hown hK hP hD hS 0 rfl rfl 10 (by decide) (hts (.fieldLink RX0 45 "RetiredTimer" "saved" "I") (by decide +kernel)) (fun _ h9 => h9) rfl (by decide +kernel) rfl rfl (Nat.le_of_ble_eq_true rfl) dX0_setAllAsAtFirst_42 (fun H locs hP hD hS => ?_)
  have hP : va_P (dC, dI) vwCl (rt_xw h0 a1 a2 k1 k2 f g 0 0 0 0 0 0 0 1 0 tkn) H := hP
  have hD : va_D A (rt_xw h0 a1 a2 k1 k2 f g 0 0 0 0 0 0 0 1 0 tkn) := hD
  refine lv_aload_n hx hb dX0_setAllAsAtFirst_45 rfl (lv_at hl 0 rfl) ?_
  refine lv_iconst (v := 0) hx hb dX0_setAllAsAtFirst_46 (by decide) ?_
  refine va_put (D := (dC, dI)) (ci := 0) (v := .int 0) (ty := .int) (C := RX0) (T := TX0) (N := 12) hx hb hts (fun _ h => List.mem_cons_of_mem _ (List.mem_append_right _ h)) tyX0 tyX0_ok nmX0 hown hK hP hD hS 0 rfl rfl 11 (by decide) (hts (.fieldLink RX0 48 "RetiredTimer" "taken" "I") (by decide +kernel)) (fun _ h9 => h9) rfl (by decide +kernel) rfl rfl (Nat.le_of_ble_eq_true rfl) dX0_setAllAsAtFirst_47 (fun H locs hP hD hS => ?_)
  have hP : va_P (dC, dI) vwCl (rt_xw h0 a1 a2 k1 k2 f g 0 0 0 0 0 0 0 1 0 0) H := hP
  have hD : va_D A (rt_xw h0 a1 a2 k1 k2 f g 0 0 0 0 0 0 0 1 0 0) := hD
  exact W.vret hx hb hr (fun t ht hW => ⟨⟨(), rfl, trivial, by rw [ht]; exact hP, va_K.moved hW.alike hK, hD⟩, hS.F ht⟩) hS.2.2 dX0_setAllAsAtFirst_50
set_option maxHeartbeats 4000000 in
set_option maxRecDepth 100000 in
theorem c_X_reset (l : Launch) (dC : Nat → ClassId) (dI : Nat → Nat → Nat) (h0 a1 a2 sz : Nat) (k1 k2 : ClassId) (f g : Nat → Int32) (ent ret cnt per cng pnd msk sr sav tkn : Int32) :
    Met l yX0_reset wsX0_reset ({ frames := 1, cells := 0, slots := 0, locals := 20 }) (va_Pc [.ref h0] (rt_pre dC dI (rt_xw h0 a1 a2 k1 k2 f g ent ret cnt per cng pnd msk sr sav tkn) [(k1, .int), (k2, .int)] sz)) (va_Qv (fun (u : Unit) => True) (rt_post dC dI [(k1, .int), (k2, .int)] (va_A (rt_xw h0 a1 a2 k1 k2 f g ent ret cnt per cng pnd msk sr sav tkn) sz) (fun (u : Unit) => rt_xw h0 a1 a2 k1 k2 f g 0 0 0 0 0 0 0 1 0 0)) (va_A (rt_xw h0 a1 a2 k1 k2 f g ent ret cnt per cng pnd msk sr sav tkn) sz)) 0 0 (va_A (rt_xw h0 a1 a2 k1 k2 f g ent ret cnt per cng pnd msk sr sav tkn) sz) := by
  refine Met.ofW (cc := cX0_reset) (maxL := 1) (ret := none) (by decide) rfl ?_
  intro p e0 s m args below meth c s₁ B hml hv
  obtain ⟨rfl, hsz, hP, hK, hD0⟩ := hv
  have hx := B.exec
  have hb := B.bytes
  have hr := B.returns
  have hts := atoms_spec (ws := wsX0_reset) B.pre
  have hown : s.vm.findClass RX0 = some m.cls := findClass_of_methodNamed B.named
  have hlocks := B.notSynchronized
  subst hsz
  have hD := hD0.self (sz := s.heap.size)
  generalize hAe : va_A (rt_xw h0 a1 a2 k1 k2 f g ent ret cnt per cng pnd msk sr sav tkn) s.heap.size = A at hD ⊢
  have hA : ∀ q : Nat, s.heap.size ≤ q → A q := fun q h => by rw [← hAe]; exact Or.inr h
  have hS : va_S A s.heap s.heap [] := va_S.rf
  have hP : va_P (dC, dI) vwCl (rt_xw h0 a1 a2 k1 k2 f g ent ret cnt per cng pnd msk sr sav tkn) s.heap := hP
  have hl := lv_entry ([.ref h0]) (n := 1) (Nat.le_of_ble_eq_true rfl)
  rw [lg_entry_eq]
  generalize (lg_sl ([.ref h0]) ++ List.replicate (1 - (lg_sl ([.ref h0])).length) Slot.unset).toArray = ls at hl ⊢
  have hl : lv_has ls 1 [(0, .ref h0)] := hl
  refine lv_aload_n hx hb dX0_reset_0 rfl (lv_at hl 0 rfl) ?_
  have hFc := va_free (wc := rt_xw h0 a1 a2 k1 k2 f g ent ret cnt per cng pnd msk sr sav tkn) hD hS hA [0, 1, 2] rfl
  refine va_callv (va_runV (As := []) (rest := []) ⟨hx, hb, hml, hown, hts⟩ (c_X_setAllAsAtFirst l dC dI h0 a1 a2 s.heap.size k1 k2 f g ent ret cnt per cng pnd msk sr sav tkn) (cwV 0 hts gX0_reset_X0_setAllAsAtFirst rfl rfl rfl (by decide +kernel) ⟨Nat.le_of_ble_eq_true rfl, Nat.le_of_ble_eq_true rfl⟩) ⟨fun a U g mk q => by obtain ⟨q0, q1, qP, qK, qD⟩ := q; exact ⟨q0, q1, qP, va_K.moved (u := U) (U := U.calling g mk a) (Vm.Alike.refl U.vm) qK, qD⟩, va_recv hK hP (ci := 0) (q0 := 0) rfl rfl, fun U hU hW => ⟨rfl, by rw [hU], by rw [hU]; exact hP, va_K.moved hW.alike hK, hD.weaken (fun _ _ _ _ => trivial)⟩⟩ rfl rfl hl.1 rfl (lv_room (Nat.le_of_ble_eq_true rfl)) dX0_reset_1 ⟨Nat.zero_le _, Nat.zero_le _⟩) hS (fun q _ h => hFc q h) hFc (fun u t H1 locs ht hvm hw_1 hB hz1 hk1 hS => ?_)
  obtain ⟨hP1, hK1, hD1⟩ := hB
  rw [ht] at hP1
  try dsimp only at hw_1 hP1 hD1
  obtain ⟨hP, hD⟩ := va_join (wr := []) (w1 := rt_xw h0 a1 a2 k1 k2 f g 0 0 0 0 0 0 0 1 0 0) hP hD [0, 1, 2] [] rfl rfl (by decide) (by decide) hk1 hFc hP1 hD1
  generalize H1 = H at hP hS ⊢
  have hP : va_P (dC, dI) vwCl (rt_xw h0 a1 a2 k1 k2 f g 0 0 0 0 0 0 0 1 0 0) H := hP
  have hD : va_D A (rt_xw h0 a1 a2 k1 k2 f g 0 0 0 0 0 0 0 1 0 0) := hD
  exact W.vret hx hb hr (fun t ht hW => ⟨⟨(), rfl, trivial, by rw [ht]; exact hP, va_K.moved hW.alike hK, hD⟩, hS.F ht⟩) hS.2.2 dX0_reset_4
set_option maxHeartbeats 4000000 in
set_option maxRecDepth 100000 in
theorem c_X_back (l : Launch) (dC : Nat → ClassId) (dI : Nat → Nat → Nat) (h0 a1 a2 sz : Nat) (k1 k2 : ClassId) (f g : Nat → Int32) (ent ret cnt per cng pnd msk sr sav tkn : Int32) :
    Met l yX0_back wsX0_back ({ frames := 0, cells := 0, slots := 0, locals := 0 }) (va_Pc [.ref h0] (rt_pre dC dI (rt_xw h0 a1 a2 k1 k2 f g ent ret cnt per cng pnd msk sr sav tkn) [(k1, .int), (k2, .int)] sz)) (va_Qv (fun (u : Unit) => True) (rt_post dC dI [(k1, .int), (k2, .int)] (va_A (rt_xw h0 a1 a2 k1 k2 f g ent ret cnt per cng pnd msk sr sav tkn) sz) (fun (u : Unit) => rt_xw h0 a1 a2 k1 k2 f g ent ret cnt per cng pnd msk sav sav tkn)) (va_A (rt_xw h0 a1 a2 k1 k2 f g ent ret cnt per cng pnd msk sr sav tkn) sz)) 0 0 (va_A (rt_xw h0 a1 a2 k1 k2 f g ent ret cnt per cng pnd msk sr sav tkn) sz) := by
  refine Met.ofW (cc := cX0_back) (maxL := 1) (ret := none) (by decide) rfl ?_
  intro p e0 s m args below meth c s₁ B hml hv
  obtain ⟨rfl, hsz, hP, hK, hD0⟩ := hv
  have hx := B.exec
  have hb := B.bytes
  have hr := B.returns
  have hts := atoms_spec (ws := wsX0_back) B.pre
  have hown : s.vm.findClass RX0 = some m.cls := findClass_of_methodNamed B.named
  have hlocks := B.notSynchronized
  subst hsz
  have hD := hD0.self (sz := s.heap.size)
  generalize hAe : va_A (rt_xw h0 a1 a2 k1 k2 f g ent ret cnt per cng pnd msk sr sav tkn) s.heap.size = A at hD ⊢
  have hA : ∀ q : Nat, s.heap.size ≤ q → A q := fun q h => by rw [← hAe]; exact Or.inr h
  have hS : va_S A s.heap s.heap [] := va_S.rf
  have hP : va_P (dC, dI) vwCl (rt_xw h0 a1 a2 k1 k2 f g ent ret cnt per cng pnd msk sr sav tkn) s.heap := hP
  have hl := lv_entry ([.ref h0]) (n := 1) (Nat.le_of_ble_eq_true rfl)
  rw [lg_entry_eq]
  generalize (lg_sl ([.ref h0]) ++ List.replicate (1 - (lg_sl ([.ref h0])).length) Slot.unset).toArray = ls at hl ⊢
  have hl : lv_has ls 1 [(0, .ref h0)] := hl
  refine lv_aload_n hx hb dX0_back_0 rfl (lv_at hl 0 rfl) ?_
  refine lv_aload_n hx hb dX0_back_1 rfl (lv_at hl 0 rfl) ?_
  refine va_get (D := (dC, dI)) (ci := 0) (v := .int sav) (C := RX0) (T := TX0) (N := 12) hx hb hts (fun _ h => List.mem_cons_of_mem _ (List.mem_append_right _ h)) hown hK hP 0 rfl rfl 10 (by decide) (hts (.fieldLink RX0 45 "RetiredTimer" "saved" "I") (by decide +kernel)) (fun _ h9 => h9) rfl dX0_back_2 ?_
  refine va_put (D := (dC, dI)) (ci := 0) (v := .int sav) (ty := .int) (C := RX0) (T := TX0) (N := 12) hx hb hts (fun _ h => List.mem_cons_of_mem _ (List.mem_append_right _ h)) tyX0 tyX0_ok nmX0 hown hK hP hD hS 0 rfl rfl 9 (by decide) (hts (.fieldLink RX0 42 "RetiredTimer" "sr" "I") (by decide +kernel)) (fun _ h9 => h9) rfl (by decide +kernel) rfl rfl (Nat.le_of_ble_eq_true rfl) dX0_back_5 (fun H locs hP hD hS => ?_)
  have hP : va_P (dC, dI) vwCl (rt_xw h0 a1 a2 k1 k2 f g ent ret cnt per cng pnd msk sav sav tkn) H := hP
  have hD : va_D A (rt_xw h0 a1 a2 k1 k2 f g ent ret cnt per cng pnd msk sav sav tkn) := hD
  exact W.vret hx hb hr (fun t ht hW => ⟨⟨(), rfl, trivial, by rw [ht]; exact hP, va_K.moved hW.alike hK, hD⟩, hS.F ht⟩) hS.2.2 dX0_back_8
set_option maxHeartbeats 4000000 in
set_option maxRecDepth 100000 in
theorem c_X_mode (l : Launch) (dC : Nat → ClassId) (dI : Nat → Nat → Nat) (h0 a1 a2 sz : Nat) (k1 k2 : ClassId) (f g : Nat → Int32) (ent ret cnt per cng pnd msk sr sav tkn : Int32) (p1 : Int32) :
    Met l yX0_mode wsX0_mode ({ frames := 0, cells := 0, slots := 0, locals := 0 }) (va_Pc [.ref h0, .int p1] (rt_pre dC dI (rt_xw h0 a1 a2 k1 k2 f g ent ret cnt per cng pnd msk sr sav tkn) [(k1, .int), (k2, .int)] sz)) (va_Qv (fun (u : Unit) => True) (rt_post dC dI [(k1, .int), (k2, .int)] (va_A (rt_xw h0 a1 a2 k1 k2 f g ent ret cnt per cng pnd msk sr sav tkn) sz) (fun (u : Unit) => rt_xw h0 a1 a2 k1 k2 f g ent ret cnt per cng pnd msk (p1 &&& 39) sav tkn)) (va_A (rt_xw h0 a1 a2 k1 k2 f g ent ret cnt per cng pnd msk sr sav tkn) sz)) 0 0 (va_A (rt_xw h0 a1 a2 k1 k2 f g ent ret cnt per cng pnd msk sr sav tkn) sz) := by
  refine Met.ofW (cc := cX0_mode) (maxL := 2) (ret := none) (by decide) rfl ?_
  intro p e0 s m args below meth c s₁ B hml hv
  obtain ⟨rfl, hsz, hP, hK, hD0⟩ := hv
  have hx := B.exec
  have hb := B.bytes
  have hr := B.returns
  have hts := atoms_spec (ws := wsX0_mode) B.pre
  have hown : s.vm.findClass RX0 = some m.cls := findClass_of_methodNamed B.named
  have hlocks := B.notSynchronized
  subst hsz
  have hD := hD0.self (sz := s.heap.size)
  generalize hAe : va_A (rt_xw h0 a1 a2 k1 k2 f g ent ret cnt per cng pnd msk sr sav tkn) s.heap.size = A at hD ⊢
  have hA : ∀ q : Nat, s.heap.size ≤ q → A q := fun q h => by rw [← hAe]; exact Or.inr h
  have hS : va_S A s.heap s.heap [] := va_S.rf
  have hP : va_P (dC, dI) vwCl (rt_xw h0 a1 a2 k1 k2 f g ent ret cnt per cng pnd msk sr sav tkn) s.heap := hP
  have hl := lv_entry ([.ref h0, .int p1]) (n := 2) (Nat.le_of_ble_eq_true rfl)
  rw [lg_entry_eq]
  generalize (lg_sl ([.ref h0, .int p1]) ++ List.replicate (2 - (lg_sl ([.ref h0, .int p1])).length) Slot.unset).toArray = ls at hl ⊢
  have hl : lv_has ls 2 [(0, .ref h0), (1, .int p1)] := hl
  refine lv_aload_n hx hb dX0_mode_0 rfl (lv_at hl 0 rfl) ?_
  refine lv_iload_n hx hb dX0_mode_1 rfl (lv_at hl 1 rfl) ?_
  refine lv_bipush (v := 39) hx hb dX0_mode_2 (by decide) ?_
  refine lv_iand hx hb dX0_mode_4 ?_
  refine va_put (D := (dC, dI)) (ci := 0) (v := .int (p1 &&& 39)) (ty := .int) (C := RX0) (T := TX0) (N := 12) hx hb hts (fun _ h => List.mem_cons_of_mem _ (List.mem_append_right _ h)) tyX0 tyX0_ok nmX0 hown hK hP hD hS 0 rfl rfl 9 (by decide) (hts (.fieldLink RX0 42 "RetiredTimer" "sr" "I") (by decide +kernel)) (fun _ h9 => h9) rfl (by decide +kernel) rfl rfl (Nat.le_of_ble_eq_true rfl) dX0_mode_5 (fun H locs hP hD hS => ?_)
  have hP : va_P (dC, dI) vwCl (rt_xw h0 a1 a2 k1 k2 f g ent ret cnt per cng pnd msk (p1 &&& 39) sav tkn) H := hP
  have hD : va_D A (rt_xw h0 a1 a2 k1 k2 f g ent ret cnt per cng pnd msk (p1 &&& 39) sav tkn) := hD
  exact W.vret hx hb hr (fun t ht hW => ⟨⟨(), rfl, trivial, by rw [ht]; exact hP, va_K.moved hW.alike hK, hD⟩, hS.F ht⟩) hS.2.2 dX0_mode_8
set_option maxHeartbeats 4000000 in
set_option maxRecDepth 100000 in
theorem c_X_mask (l : Launch) (dC : Nat → ClassId) (dI : Nat → Nat → Nat) (h0 a1 a2 sz : Nat) (k1 k2 : ClassId) (f g : Nat → Int32) (ent ret cnt per cng pnd msk sr sav tkn : Int32) (p1 : Int32) :
    Met l yX0_mask wsX0_mask ({ frames := 0, cells := 0, slots := 0, locals := 0 }) (va_Pc [.ref h0, .int p1] (rt_pre dC dI (rt_xw h0 a1 a2 k1 k2 f g ent ret cnt per cng pnd msk sr sav tkn) [(k1, .int), (k2, .int)] sz)) (va_Qv (fun (u : Unit) => True) (rt_post dC dI [(k1, .int), (k2, .int)] (va_A (rt_xw h0 a1 a2 k1 k2 f g ent ret cnt per cng pnd msk sr sav tkn) sz) (fun (u : Unit) => rt_xw h0 a1 a2 k1 k2 f g ent ret cnt per cng pnd p1 sr sav tkn)) (va_A (rt_xw h0 a1 a2 k1 k2 f g ent ret cnt per cng pnd msk sr sav tkn) sz)) 0 0 (va_A (rt_xw h0 a1 a2 k1 k2 f g ent ret cnt per cng pnd msk sr sav tkn) sz) := by
  refine Met.ofW (cc := cX0_mask) (maxL := 2) (ret := none) (by decide) rfl ?_
  intro p e0 s m args below meth c s₁ B hml hv
  obtain ⟨rfl, hsz, hP, hK, hD0⟩ := hv
  have hx := B.exec
  have hb := B.bytes
  have hr := B.returns
  have hts := atoms_spec (ws := wsX0_mask) B.pre
  have hown : s.vm.findClass RX0 = some m.cls := findClass_of_methodNamed B.named
  have hlocks := B.notSynchronized
  subst hsz
  have hD := hD0.self (sz := s.heap.size)
  generalize hAe : va_A (rt_xw h0 a1 a2 k1 k2 f g ent ret cnt per cng pnd msk sr sav tkn) s.heap.size = A at hD ⊢
  have hA : ∀ q : Nat, s.heap.size ≤ q → A q := fun q h => by rw [← hAe]; exact Or.inr h
  have hS : va_S A s.heap s.heap [] := va_S.rf
  have hP : va_P (dC, dI) vwCl (rt_xw h0 a1 a2 k1 k2 f g ent ret cnt per cng pnd msk sr sav tkn) s.heap := hP
  have hl := lv_entry ([.ref h0, .int p1]) (n := 2) (Nat.le_of_ble_eq_true rfl)
  rw [lg_entry_eq]
  generalize (lg_sl ([.ref h0, .int p1]) ++ List.replicate (2 - (lg_sl ([.ref h0, .int p1])).length) Slot.unset).toArray = ls at hl ⊢
  have hl : lv_has ls 2 [(0, .ref h0), (1, .int p1)] := hl
  refine lv_aload_n hx hb dX0_mask_0 rfl (lv_at hl 0 rfl) ?_
  refine lv_iload_n hx hb dX0_mask_1 rfl (lv_at hl 1 rfl) ?_
  refine va_put (D := (dC, dI)) (ci := 0) (v := .int p1) (ty := .int) (C := RX0) (T := TX0) (N := 12) hx hb hts (fun _ h => List.mem_cons_of_mem _ (List.mem_append_right _ h)) tyX0 tyX0_ok nmX0 hown hK hP hD hS 0 rfl rfl 8 (by decide) (hts (.fieldLink RX0 51 "RetiredTimer" "mask" "I") (by decide +kernel)) (fun _ h9 => h9) rfl (by decide +kernel) rfl rfl (Nat.le_of_ble_eq_true rfl) dX0_mask_2 (fun H locs hP hD hS => ?_)
  have hP : va_P (dC, dI) vwCl (rt_xw h0 a1 a2 k1 k2 f g ent ret cnt per cng pnd p1 sr sav tkn) H := hP
  have hD : va_D A (rt_xw h0 a1 a2 k1 k2 f g ent ret cnt per cng pnd p1 sr sav tkn) := hD
  exact W.vret hx hb hr (fun t ht hW => ⟨⟨(), rfl, trivial, by rw [ht]; exact hP, va_K.moved hW.alike hK, hD⟩, hS.F ht⟩) hS.2.2 dX0_mask_5
set_option maxHeartbeats 4000000 in
set_option maxRecDepth 100000 in
theorem c_X_count (l : Launch) (dC : Nat → ClassId) (dI : Nat → Nat → Nat) (h0 a1 a2 sz : Nat) (k1 k2 : ClassId) (f g : Nat → Int32) (ent ret cnt per cng pnd msk sr sav tkn : Int32) (p1 : Int32) :
    Met l yX0_count wsX0_count ({ frames := 0, cells := 0, slots := 0, locals := 0 }) (va_Pc [.ref h0, .int p1] (rt_pre dC dI (rt_xw h0 a1 a2 k1 k2 f g ent ret cnt per cng pnd msk sr sav tkn) [(k1, .int), (k2, .int)] sz)) (va_Qv (fun (u : Unit) => True) (rt_post dC dI [(k1, .int), (k2, .int)] (va_A (rt_xw h0 a1 a2 k1 k2 f g ent ret cnt per cng pnd msk sr sav tkn) sz) (fun (u : Unit) => rt_xw h0 a1 a2 k1 k2 f g ent ret p1 per cng pnd msk sr sav tkn)) (va_A (rt_xw h0 a1 a2 k1 k2 f g ent ret cnt per cng pnd msk sr sav tkn) sz)) 0 0 (va_A (rt_xw h0 a1 a2 k1 k2 f g ent ret cnt per cng pnd msk sr sav tkn) sz) := by
  refine Met.ofW (cc := cX0_count) (maxL := 2) (ret := none) (by decide) rfl ?_
  intro p e0 s m args below meth c s₁ B hml hv
  obtain ⟨rfl, hsz, hP, hK, hD0⟩ := hv
  have hx := B.exec
  have hb := B.bytes
  have hr := B.returns
  have hts := atoms_spec (ws := wsX0_count) B.pre
  have hown : s.vm.findClass RX0 = some m.cls := findClass_of_methodNamed B.named
  have hlocks := B.notSynchronized
  subst hsz
  have hD := hD0.self (sz := s.heap.size)
  generalize hAe : va_A (rt_xw h0 a1 a2 k1 k2 f g ent ret cnt per cng pnd msk sr sav tkn) s.heap.size = A at hD ⊢
  have hA : ∀ q : Nat, s.heap.size ≤ q → A q := fun q h => by rw [← hAe]; exact Or.inr h
  have hS : va_S A s.heap s.heap [] := va_S.rf
  have hP : va_P (dC, dI) vwCl (rt_xw h0 a1 a2 k1 k2 f g ent ret cnt per cng pnd msk sr sav tkn) s.heap := hP
  have hl := lv_entry ([.ref h0, .int p1]) (n := 2) (Nat.le_of_ble_eq_true rfl)
  rw [lg_entry_eq]
  generalize (lg_sl ([.ref h0, .int p1]) ++ List.replicate (2 - (lg_sl ([.ref h0, .int p1])).length) Slot.unset).toArray = ls at hl ⊢
  have hl : lv_has ls 2 [(0, .ref h0), (1, .int p1)] := hl
  refine lv_aload_n hx hb dX0_count_0 rfl (lv_at hl 0 rfl) ?_
  refine lv_iload_n hx hb dX0_count_1 rfl (lv_at hl 1 rfl) ?_
  refine va_put (D := (dC, dI)) (ci := 0) (v := .int p1) (ty := .int) (C := RX0) (T := TX0) (N := 12) hx hb hts (fun _ h => List.mem_cons_of_mem _ (List.mem_append_right _ h)) tyX0 tyX0_ok nmX0 hown hK hP hD hS 0 rfl rfl 4 (by decide) (hts (.fieldLink RX0 65 "RetiredTimer" "count" "I") (by decide +kernel)) (fun _ h9 => h9) rfl (by decide +kernel) rfl rfl (Nat.le_of_ble_eq_true rfl) dX0_count_2 (fun H locs hP hD hS => ?_)
  have hP : va_P (dC, dI) vwCl (rt_xw h0 a1 a2 k1 k2 f g ent ret p1 per cng pnd msk sr sav tkn) H := hP
  have hD : va_D A (rt_xw h0 a1 a2 k1 k2 f g ent ret p1 per cng pnd msk sr sav tkn) := hD
  exact W.vret hx hb hr (fun t ht hW => ⟨⟨(), rfl, trivial, by rw [ht]; exact hP, va_K.moved hW.alike hK, hD⟩, hS.F ht⟩) hS.2.2 dX0_count_5
set_option maxHeartbeats 4000000 in
set_option maxRecDepth 100000 in
theorem c_X_timer (l : Launch) (dC : Nat → ClassId) (dI : Nat → Nat → Nat) (h0 a1 a2 sz : Nat) (k1 k2 : ClassId) (f g : Nat → Int32) (ent ret cnt per cng pnd msk sr sav tkn : Int32) (p1 : Int32) (p2 : Int32) (p3 : Int32) (hb2 : p2 = 0 ∨ p2 = 1) (hb3 : p3 = 0 ∨ p3 = 1) :
    Met l yX0_timer wsX0_timer ({ frames := 0, cells := 0, slots := 0, locals := 0 }) (va_Pc [.ref h0, .int p1, .int p2, .int p3] (rt_pre dC dI (rt_xw h0 a1 a2 k1 k2 f g ent ret cnt per cng pnd msk sr sav tkn) [(k1, .int), (k2, .int)] sz)) (va_Qv (fun (u : Unit) => True) (rt_post dC dI [(k1, .int), (k2, .int)] (va_A (rt_xw h0 a1 a2 k1 k2 f g ent ret cnt per cng pnd msk sr sav tkn) sz) (fun (u : Unit) => rt_xw h0 a1 a2 k1 k2 f g ent ret cnt (p1 &&& 268435455) p2 p3 msk sr sav tkn)) (va_A (rt_xw h0 a1 a2 k1 k2 f g ent ret cnt per cng pnd msk sr sav tkn) sz)) 0 0 (va_A (rt_xw h0 a1 a2 k1 k2 f g ent ret cnt per cng pnd msk sr sav tkn) sz) := by
  refine Met.ofW (cc := cX0_timer) (maxL := 4) (ret := none) (by decide) rfl ?_
  intro p e0 s m args below meth c s₁ B hml hv
  obtain ⟨rfl, hsz, hP, hK, hD0⟩ := hv
  have hx := B.exec
  have hb := B.bytes
  have hr := B.returns
  have hts := atoms_spec (ws := wsX0_timer) B.pre
  have hown : s.vm.findClass RX0 = some m.cls := findClass_of_methodNamed B.named
  have hlocks := B.notSynchronized
  subst hsz
  have hD := hD0.self (sz := s.heap.size)
  generalize hAe : va_A (rt_xw h0 a1 a2 k1 k2 f g ent ret cnt per cng pnd msk sr sav tkn) s.heap.size = A at hD ⊢
  have hA : ∀ q : Nat, s.heap.size ≤ q → A q := fun q h => by rw [← hAe]; exact Or.inr h
  have hS : va_S A s.heap s.heap [] := va_S.rf
  have hP : va_P (dC, dI) vwCl (rt_xw h0 a1 a2 k1 k2 f g ent ret cnt per cng pnd msk sr sav tkn) s.heap := hP
  have hl := lv_entry ([.ref h0, .int p1, .int p2, .int p3]) (n := 4) (Nat.le_of_ble_eq_true rfl)
  rw [lg_entry_eq]
  generalize (lg_sl ([.ref h0, .int p1, .int p2, .int p3]) ++ List.replicate (4 - (lg_sl ([.ref h0, .int p1, .int p2, .int p3])).length) Slot.unset).toArray = ls at hl ⊢
  have hl : lv_has ls 4 [(0, .ref h0), (1, .int p1), (2, .int p2), (3, .int p3)] := hl
  refine lv_aload_n hx hb dX0_timer_0 rfl (lv_at hl 0 rfl) ?_
  refine lv_iload_n hx hb dX0_timer_1 rfl (lv_at hl 1 rfl) ?_
  refine lv_ldc (v := 268435455) hx hb hown (hts (.constant RX0 54 268435455) (by decide +kernel)) dX0_timer_2 ?_
  refine lv_iand hx hb dX0_timer_4 ?_
  refine va_put (D := (dC, dI)) (ci := 0) (v := .int (p1 &&& 268435455)) (ty := .int) (C := RX0) (T := TX0) (N := 12) hx hb hts (fun _ h => List.mem_cons_of_mem _ (List.mem_append_right _ h)) tyX0 tyX0_ok nmX0 hown hK hP hD hS 0 rfl rfl 5 (by decide) (hts (.fieldLink RX0 55 "RetiredTimer" "period" "I") (by decide +kernel)) (fun _ h9 => h9) rfl (by decide +kernel) rfl rfl (Nat.le_of_ble_eq_true rfl) dX0_timer_5 (fun H locs hP hD hS => ?_)
  have hP : va_P (dC, dI) vwCl (rt_xw h0 a1 a2 k1 k2 f g ent ret cnt (p1 &&& 268435455) cng pnd msk sr sav tkn) H := hP
  have hD : va_D A (rt_xw h0 a1 a2 k1 k2 f g ent ret cnt (p1 &&& 268435455) cng pnd msk sr sav tkn) := hD
  refine lv_aload_n hx hb dX0_timer_8 rfl (lv_at hl 0 rfl) ?_
  refine lv_iload_n hx hb dX0_timer_9 rfl (lv_at hl 2 rfl) ?_
  refine va_put (D := (dC, dI)) (ci := 0) (v := .int p2) (ty := .boolean) (C := RX0) (T := TX0) (N := 12) hx hb hts (fun _ h => List.mem_cons_of_mem _ (List.mem_append_right _ h)) tyX0 tyX0_ok nmX0 hown hK hP hD hS 0 rfl rfl 6 (by decide) (hts (.fieldLink RX0 58 "RetiredTimer" "counting" "Z") (by decide +kernel)) (fun _ h9 => h9) rfl (by decide +kernel) (rt_bool hb2) (rt_boolF hb2) (Nat.le_of_ble_eq_true rfl) dX0_timer_10 (fun H locs hP hD hS => ?_)
  have hP : va_P (dC, dI) vwCl (rt_xw h0 a1 a2 k1 k2 f g ent ret cnt (p1 &&& 268435455) p2 pnd msk sr sav tkn) H := hP
  have hD : va_D A (rt_xw h0 a1 a2 k1 k2 f g ent ret cnt (p1 &&& 268435455) p2 pnd msk sr sav tkn) := hD
  refine lv_aload_n hx hb dX0_timer_13 rfl (lv_at hl 0 rfl) ?_
  refine lv_iload_n hx hb dX0_timer_14 rfl (lv_at hl 3 rfl) ?_
  refine va_put (D := (dC, dI)) (ci := 0) (v := .int p3) (ty := .boolean) (C := RX0) (T := TX0) (N := 12) hx hb hts (fun _ h => List.mem_cons_of_mem _ (List.mem_append_right _ h)) tyX0 tyX0_ok nmX0 hown hK hP hD hS 0 rfl rfl 7 (by decide) (hts (.fieldLink RX0 62 "RetiredTimer" "pending" "Z") (by decide +kernel)) (fun _ h9 => h9) rfl (by decide +kernel) (rt_bool hb3) (rt_boolF hb3) (Nat.le_of_ble_eq_true rfl) dX0_timer_15 (fun H locs hP hD hS => ?_)
  have hP : va_P (dC, dI) vwCl (rt_xw h0 a1 a2 k1 k2 f g ent ret cnt (p1 &&& 268435455) p2 p3 msk sr sav tkn) H := hP
  have hD : va_D A (rt_xw h0 a1 a2 k1 k2 f g ent ret cnt (p1 &&& 268435455) p2 p3 msk sr sav tkn) := hD
  exact W.vret hx hb hr (fun t ht hW => ⟨⟨(), rfl, trivial, by rw [ht]; exact hP, va_K.moved hW.alike hK, hD⟩, hS.F ht⟩) hS.2.2 dX0_timer_18
set_option maxHeartbeats 4000000 in
set_option maxRecDepth 100000 in
theorem c_X_distanceToPeriod (l : Launch) (dC : Nat → ClassId) (dI : Nat → Nat → Nat) (h0 a1 a2 sz : Nat) (k1 k2 : ClassId) (f g : Nat → Int32) (ent ret cnt per cng pnd msk sr sav tkn : Int32) :
    Met l yX0_distanceToPeriod wsX0_distanceToPeriod ({ frames := 0, cells := 0, slots := 0, locals := 0 }) (va_Pc [.ref h0] (rt_pre dC dI (rt_xw h0 a1 a2 k1 k2 f g ent ret cnt per cng pnd msk sr sav tkn) [(k1, .int), (k2, .int)] sz)) (va_Ql (fun (v : Int64) (u : Unit) => v = rt_per per cnt) (rt_post dC dI [(k1, .int), (k2, .int)] (va_A (rt_xw h0 a1 a2 k1 k2 f g ent ret cnt per cng pnd msk sr sav tkn) sz) (fun (u : Unit) => rt_xw h0 a1 a2 k1 k2 f g ent ret cnt per cng pnd msk sr sav tkn)) (va_A (rt_xw h0 a1 a2 k1 k2 f g ent ret cnt per cng pnd msk sr sav tkn) sz)) 0 0 (va_A (rt_xw h0 a1 a2 k1 k2 f g ent ret cnt per cng pnd msk sr sav tkn) sz) := by
  refine Met.ofW (cc := cX0_distanceToPeriod) (maxL := 3) (ret := (some .long)) (by decide) rfl ?_
  intro p e0 s m args below meth c s₁ B hml hv
  obtain ⟨rfl, hsz, hP, hK, hD0⟩ := hv
  have hx := B.exec
  have hb := B.bytes
  have hr := B.returns
  have hts := atoms_spec (ws := wsX0_distanceToPeriod) B.pre
  have hown : s.vm.findClass RX0 = some m.cls := findClass_of_methodNamed B.named
  have hlocks := B.notSynchronized
  subst hsz
  have hD := hD0.self (sz := s.heap.size)
  generalize hAe : va_A (rt_xw h0 a1 a2 k1 k2 f g ent ret cnt per cng pnd msk sr sav tkn) s.heap.size = A at hD ⊢
  have hA : ∀ q : Nat, s.heap.size ≤ q → A q := fun q h => by rw [← hAe]; exact Or.inr h
  have hS : va_S A s.heap s.heap [] := va_S.rf
  have hP : va_P (dC, dI) vwCl (rt_xw h0 a1 a2 k1 k2 f g ent ret cnt per cng pnd msk sr sav tkn) s.heap := hP
  have hl := lv_entry ([.ref h0]) (n := 3) (Nat.le_of_ble_eq_true rfl)
  rw [lg_entry_eq]
  generalize (lg_sl ([.ref h0]) ++ List.replicate (3 - (lg_sl ([.ref h0])).length) Slot.unset).toArray = ls at hl ⊢
  have hl : lv_has ls 3 [(0, .ref h0)] := hl
  refine lv_aload_n hx hb dX0_distanceToPeriod_0 rfl (lv_at hl 0 rfl) ?_
  refine va_get (D := (dC, dI)) (ci := 0) (v := .int per) (C := RX0) (T := TX0) (N := 12) hx hb hts (fun _ h => List.mem_cons_of_mem _ (List.mem_append_right _ h)) hown hK hP 0 rfl rfl 5 (by decide) (hts (.fieldLink RX0 55 "RetiredTimer" "period" "I") (by decide +kernel)) (fun _ h9 => h9) rfl dX0_distanceToPeriod_1 ?_
  refine lv_i2l (v := per.toInt64) hx hb dX0_distanceToPeriod_4 rfl ?_
  refine lv_aload_n hx hb dX0_distanceToPeriod_5 rfl (lv_at hl 0 rfl) ?_
  refine va_get (D := (dC, dI)) (ci := 0) (v := .int cnt) (C := RX0) (T := TX0) (N := 12) hx hb hts (fun _ h => List.mem_cons_of_mem _ (List.mem_append_right _ h)) hown hK hP 0 rfl rfl 4 (by decide) (hts (.fieldLink RX0 65 "RetiredTimer" "count" "I") (by decide +kernel)) (fun _ h9 => h9) rfl dX0_distanceToPeriod_6 ?_
  refine lv_i2l (v := cnt.toInt64) hx hb dX0_distanceToPeriod_9 rfl ?_
  refine lv_lsub hx hb dX0_distanceToPeriod_10 ?_
  refine lv_ldc2 (v := 4294967295) hx hb hown (hts (.constantLong RX0 96 4294967295) (by decide +kernel)) dX0_distanceToPeriod_11 ?_
  refine lv_land hx hb dX0_distanceToPeriod_14 ?_
  refine lv_lstore_n (lv' := [(1, .long ((per.toInt64 - cnt.toInt64) &&& 4294967295)), (0, .ref h0)]) hx hb dX0_distanceToPeriod_15 rfl hl (by decide) rfl (fun ls hl => ?_)
  refine lv_lload_n hx hb dX0_distanceToPeriod_16 rfl (lv_at hl 0 rfl) ?_
  refine lv_lconst (v := 0) hx hb dX0_distanceToPeriod_17 (by decide) ?_
  refine W.lcmp hx hb dX0_distanceToPeriod_18 ?_
  refine lv_if_ne (tgt := 28) hx hb dX0_distanceToPeriod_19 (by decide) (fun c_19 => ?_) (fun c_19 => ?_)
  · refine lv_lload_n hx hb dX0_distanceToPeriod_28 rfl (lv_at hl 0 rfl) ?_
    exact W.lret (v := (per.toInt64 - cnt.toInt64) &&& 4294967295) hx hb hr (fun t ht hW => ⟨⟨(per.toInt64 - cnt.toInt64) &&& 4294967295, (), rfl, by unfold rt_per; rw [if_neg (fun h => c_19 ((lg_cmp_eq _ _).mpr h))], by rw [ht]; exact hP, va_K.moved hW.alike hK, hD⟩, hS.F ht⟩) hS.2.2 dX0_distanceToPeriod_29
  · refine lv_ldc2 (v := 4294967296) hx hb hown (hts (.constantLong RX0 98 4294967296) (by decide +kernel)) dX0_distanceToPeriod_22 ?_
    refine lv_goto (tgt := 29) hx hb dX0_distanceToPeriod_25 (by decide) ?_
    exact W.lret (v := 4294967296) hx hb hr (fun t ht hW => ⟨⟨4294967296, (), rfl, by unfold rt_per; rw [if_pos ((lg_cmp_eq _ _).mp c_19)], by rw [ht]; exact hP, va_K.moved hW.alike hK, hD⟩, hS.F ht⟩) hS.2.2 dX0_distanceToPeriod_29
set_option maxHeartbeats 4000000 in
set_option maxRecDepth 100000 in
theorem c_X_lastEntryCount (l : Launch) (dC : Nat → ClassId) (dI : Nat → Nat → Nat) (h0 a1 a2 sz : Nat) (k1 k2 : ClassId) (f g : Nat → Int32) (ent ret cnt per cng pnd msk sr sav tkn : Int32) (en : Nat) (he : ent = nI en) (h32 : en ≤ 32) :
    Met l yX0_lastEntryCount wsX0_lastEntryCount ({ frames := 0, cells := 0, slots := 0, locals := 0 }) (va_Pc [.ref h0] (rt_pre dC dI (rt_xw h0 a1 a2 k1 k2 f g ent ret cnt per cng pnd msk sr sav tkn) [(k1, .int), (k2, .int)] sz)) (va_Qi (fun (v : Int32) (u : Unit) => v = rt_last f en) (rt_post dC dI [(k1, .int), (k2, .int)] (va_A (rt_xw h0 a1 a2 k1 k2 f g ent ret cnt per cng pnd msk sr sav tkn) sz) (fun (u : Unit) => rt_xw h0 a1 a2 k1 k2 f g ent ret cnt per cng pnd msk sr sav tkn)) (va_A (rt_xw h0 a1 a2 k1 k2 f g ent ret cnt per cng pnd msk sr sav tkn) sz)) 0 0 (va_A (rt_xw h0 a1 a2 k1 k2 f g ent ret cnt per cng pnd msk sr sav tkn) sz) := by
  subst he
  refine Met.ofW (cc := cX0_lastEntryCount) (maxL := 1) (ret := (some .int)) (by decide) rfl ?_
  intro p e0 s m args below meth c s₁ B hml hv
  obtain ⟨rfl, hsz, hP, hK, hD0⟩ := hv
  have hx := B.exec
  have hb := B.bytes
  have hr := B.returns
  have hts := atoms_spec (ws := wsX0_lastEntryCount) B.pre
  have hown : s.vm.findClass RX0 = some m.cls := findClass_of_methodNamed B.named
  have hlocks := B.notSynchronized
  subst hsz
  have hD := hD0.self (sz := s.heap.size)
  generalize hAe : va_A (rt_xw h0 a1 a2 k1 k2 f g (nI en) ret cnt per cng pnd msk sr sav tkn) s.heap.size = A at hD ⊢
  have hA : ∀ q : Nat, s.heap.size ≤ q → A q := fun q h => by rw [← hAe]; exact Or.inr h
  have hS : va_S A s.heap s.heap [] := va_S.rf
  have hP : va_P (dC, dI) vwCl (rt_xw h0 a1 a2 k1 k2 f g (nI en) ret cnt per cng pnd msk sr sav tkn) s.heap := hP
  have hl := lv_entry ([.ref h0]) (n := 1) (Nat.le_of_ble_eq_true rfl)
  rw [lg_entry_eq]
  generalize (lg_sl ([.ref h0]) ++ List.replicate (1 - (lg_sl ([.ref h0])).length) Slot.unset).toArray = ls at hl ⊢
  have hl : lv_has ls 1 [(0, .ref h0)] := hl
  refine lv_aload_n hx hb dX0_lastEntryCount_0 rfl (lv_at hl 0 rfl) ?_
  refine va_get (D := (dC, dI)) (ci := 0) (v := .int (nI en)) (C := RX0) (T := TX0) (N := 12) hx hb hts (fun _ h => List.mem_cons_of_mem _ (List.mem_append_right _ h)) hown hK hP 0 rfl rfl 2 (by decide) (hts (.fieldLink RX0 19 "RetiredTimer" "entries" "I") (by decide +kernel)) (fun _ h9 => h9) rfl dX0_lastEntryCount_1 ?_
  refine lv_if_le (tgt := 30) hx hb dX0_lastEntryCount_4 (by decide) (fun c_4 => ?_) (fun c_4 => ?_)
  · refine lv_iconst (v := -1) hx hb dX0_lastEntryCount_30 (by decide) ?_
    exact W.iret (v := (-1)) hx hb hr (fun t ht hW => ⟨⟨(-1), (), rfl, by unfold rt_last; rw [if_pos (rt_z0 (by omega) c_4)], by rw [ht]; exact hP, va_K.moved hW.alike hK, hD⟩, hS.F ht⟩) hS.2.2 dX0_lastEntryCount_31
  · have hpos : 0 < en := rt_npos (by omega) c_4
    refine lv_aload_n hx hb dX0_lastEntryCount_7 rfl (lv_at hl 0 rfl) ?_
    refine va_get (D := (dC, dI)) (ci := 0) (v := .int (nI en)) (C := RX0) (T := TX0) (N := 12) hx hb hts (fun _ h => List.mem_cons_of_mem _ (List.mem_append_right _ h)) hown hK hP 0 rfl rfl 2 (by decide) (hts (.fieldLink RX0 19 "RetiredTimer" "entries" "I") (by decide +kernel)) (fun _ h9 => h9) rfl dX0_lastEntryCount_8 ?_
    refine lv_bipush (v := 32) hx hb dX0_lastEntryCount_11 (by decide) ?_
    refine lv_icmp_gt (tgt := 30) hx hb dX0_lastEntryCount_13 (by decide) (fun c_13 => absurd c_13 (nI_nlt (b := en) (a := 32) h32 (by decide))) (fun c_13 => ?_)
    refine lv_aload_n hx hb dX0_lastEntryCount_16 rfl (lv_at hl 0 rfl) ?_
    refine va_get (D := (dC, dI)) (ci := 0) (v := .ref a1) (C := RX0) (T := TX0) (N := 12) hx hb hts (fun _ h => List.mem_cons_of_mem _ (List.mem_append_right _ h)) hown hK hP 0 rfl rfl 0 (by decide) (hts (.fieldLink RX0 9 "RetiredTimer" "entryCounts" "[I") (by decide +kernel)) (fun _ h9 => h9) rfl dX0_lastEntryCount_17 ?_
    refine lv_aload_n hx hb dX0_lastEntryCount_20 rfl (lv_at hl 0 rfl) ?_
    refine va_get (D := (dC, dI)) (ci := 0) (v := .int (nI en)) (C := RX0) (T := TX0) (N := 12) hx hb hts (fun _ h => List.mem_cons_of_mem _ (List.mem_append_right _ h)) hown hK hP 0 rfl rfl 2 (by decide) (hts (.fieldLink RX0 19 "RetiredTimer" "entries" "I") (by decide +kernel)) (fun _ h9 => h9) rfl dX0_lastEntryCount_21 ?_
    refine lv_iconst (v := 1) hx hb dX0_lastEntryCount_24 (by decide) ?_
    refine lv_isub hx hb dX0_lastEntryCount_25 ?_
    refine va_iald hx hb hK hP 1 0 rfl rfl (rt_inP hpos (by omega) (by decide)) dX0_lastEntryCount_26 ?_
    rw [show f ((nI en) - 1).toNatClampNeg = f (en - 1) from by rw [rt_pre1 hpos, nI_clamp (by omega)]]
    refine lv_goto (tgt := 31) hx hb dX0_lastEntryCount_27 (by decide) ?_
    exact W.iret (v := f (en - 1)) hx hb hr (fun t ht hW => ⟨⟨f (en - 1), (), rfl, by unfold rt_last; rw [if_neg (by omega)], by rw [ht]; exact hP, va_K.moved hW.alike hK, hD⟩, hS.F ht⟩) hS.2.2 dX0_lastEntryCount_31
end
section
set_option maxHeartbeats 4000000 in
set_option maxRecDepth 100000 in
theorem lp_X_linesAt {p : Program} {l : Launch} {e0 : Env} {R : Room} {s : State} {m : MethodId} {args : Array Value} {below : List Frame} {meth : Method} {c : Code} {Q : State → Prop} {dC : Nat → ClassId} {dI : Nat → Nat → Nat} {h0 a1 a2 : Nat} {k1 k2 : ClassId} {H : Heap} {locs : List Loc} {f g : Nat → Int32} {ret cnt per cng pnd msk sr sav tkn : Int32} {p1 : Int32} {en : Nat} (hx : p.tables.exec = Jvm.exec) (hb : c.code = cX0_linesAt) (hts : ∀ w ∈ wsX0_linesAt, w.before args s = true) (hown : s.vm.findClass RX0 = some m.cls) (hK : va_K (dC, dI) vwCl [(k1, .int), (k2, .int)] s) (hP : va_P (dC, dI) vwCl (rt_xw h0 a1 a2 k1 k2 f g (nI en) ret cnt per cng pnd msk sr sav tkn) H) (h32 : en ≤ 32)
    (kx : ∀ (ls : Array Slot), lv_has ls 4 [(0, .ref h0), (1, .int p1), (2, .int (rt_pl f g p1 en)), (3, .int (nI en))] → W p l e0 R s m args below meth c H locs 0 0 Q (F0 m 41 ls [])) :
    ∀ (n i : Nat), i + n = en → ∀ (ls : Array Slot), lv_has ls 4 [(0, .ref h0), (1, .int p1), (2, .int (rt_pl f g p1 i)), (3, .int (nI i))] → W p l e0 R s m args below meth c H locs 0 0 Q (F0 m 4 ls []) := by
  intro n
  induction n with
  | zero =>
    intro i hi ls hl
    have hie : i = en := by omega
    subst hie
    refine lv_iload_n hx hb dX0_linesAt_4 rfl (lv_at hl 3 rfl) ?_
    refine lv_aload_n hx hb dX0_linesAt_5 rfl (lv_at hl 0 rfl) ?_
    refine va_get (D := (dC, dI)) (ci := 0) (v := .int (nI i)) (C := RX0) (T := TX0) (N := 12) hx hb hts (fun _ h => List.mem_cons_of_mem _ (List.mem_append_right _ h)) hown hK hP 0 rfl rfl 2 (by decide) (hts (.fieldLink RX0 19 "RetiredTimer" "entries" "I") (by decide +kernel)) (fun _ h9 => h9) rfl dX0_linesAt_6 ?_
    refine lv_icmp_ge (tgt := 41) hx hb dX0_linesAt_9 (by decide) (fun c_9 => ?_) (fun c_9 => absurd (Int32.le_refl _) c_9)
    exact kx ls (lv_sub hl [0, 1, 2, 3] rfl)
  | succ n ih =>
    intro i hi ls hl
    refine lv_iload_n hx hb dX0_linesAt_4 rfl (lv_at hl 3 rfl) ?_
    refine lv_aload_n hx hb dX0_linesAt_5 rfl (lv_at hl 0 rfl) ?_
    refine va_get (D := (dC, dI)) (ci := 0) (v := .int (nI en)) (C := RX0) (T := TX0) (N := 12) hx hb hts (fun _ h => List.mem_cons_of_mem _ (List.mem_append_right _ h)) hown hK hP 0 rfl rfl 2 (by decide) (hts (.fieldLink RX0 19 "RetiredTimer" "entries" "I") (by decide +kernel)) (fun _ h9 => h9) rfl dX0_linesAt_6 ?_
    refine lv_icmp_ge (tgt := 41) hx hb dX0_linesAt_9 (by decide) (fun c_9 => absurd c_9 (nI_ge (by omega) (by omega))) (fun c_9 => ?_)
    refine lv_iload_n hx hb dX0_linesAt_12 rfl (lv_at hl 3 rfl) ?_
    refine lv_bipush (v := 32) hx hb dX0_linesAt_13 (by decide) ?_
    refine lv_icmp_ge (tgt := 41) hx hb dX0_linesAt_15 (by decide) (fun c_15 => absurd c_15 (nI_ge (b := 32) (by omega) (by decide))) (fun c_15 => ?_)
    refine lv_aload_n hx hb dX0_linesAt_18 rfl (lv_at hl 0 rfl) ?_
    refine va_get (D := (dC, dI)) (ci := 0) (v := .ref a1) (C := RX0) (T := TX0) (N := 12) hx hb hts (fun _ h => List.mem_cons_of_mem _ (List.mem_append_right _ h)) hown hK hP 0 rfl rfl 0 (by decide) (hts (.fieldLink RX0 9 "RetiredTimer" "entryCounts" "[I") (by decide +kernel)) (fun _ h9 => h9) rfl dX0_linesAt_19 ?_
    refine lv_iload_n hx hb dX0_linesAt_22 rfl (lv_at hl 3 rfl) ?_
    refine va_iald hx hb hK hP 1 0 rfl rfl (vp_in_nI (N := 32) (by omega) (by decide)) dX0_linesAt_23 ?_
    rw [show f (nI i).toNatClampNeg = f i from by rw [nI_clamp (by omega)]]
    refine lv_iload_n hx hb dX0_linesAt_24 rfl (lv_at hl 1 rfl) ?_
    refine lv_icmp_gt (tgt := 35) hx hb dX0_linesAt_25 (by decide) (fun c_25 => ?_) (fun c_25 => ?_)
    · refine lv_iinc (v := (nI i) + 1) (lv' := [(3, .int ((nI i) + 1)), (0, .ref h0), (1, .int p1), (2, .int (rt_pl f g p1 i))]) hx hb dX0_linesAt_35 hl (k := 3) rfl rfl (by decide) rfl (fun ls hl => ?_)
      refine lv_goto (tgt := 4) hx hb dX0_linesAt_38 (by decide) ?_
      have e2 : rt_pl f g p1 (i + 1) = rt_pl f g p1 i := by simp only [rt_pl]; rw [if_neg (fun h => rt_nle2 h c_25)]
      exact ih (i + 1) (by omega) ls (by rw [e2, ← nI_1]; exact lv_sub hl [1, 2, 3, 0] rfl)
    · refine lv_aload_n hx hb dX0_linesAt_28 rfl (lv_at hl 0 rfl) ?_
      refine va_get (D := (dC, dI)) (ci := 0) (v := .ref a2) (C := RX0) (T := TX0) (N := 12) hx hb hts (fun _ h => List.mem_cons_of_mem _ (List.mem_append_right _ h)) hown hK hP 0 rfl rfl 1 (by decide) (hts (.fieldLink RX0 13 "RetiredTimer" "entryLines" "[I") (by decide +kernel)) (fun _ h9 => h9) rfl dX0_linesAt_29 ?_
      refine lv_iload_n hx hb dX0_linesAt_32 rfl (lv_at hl 3 rfl) ?_
      refine va_iald hx hb hK hP 2 1 rfl rfl (vp_in_nI (N := 32) (by omega) (by decide)) dX0_linesAt_33 ?_
      rw [show g (nI i).toNatClampNeg = g i from by rw [nI_clamp (by omega)]]
      refine lv_istore_n (lv' := [(2, .int (g i)), (0, .ref h0), (1, .int p1), (3, .int (nI i))]) hx hb dX0_linesAt_34 rfl hl (by decide) rfl (fun ls hl => ?_)
      refine lv_iinc (v := (nI i) + 1) (lv' := [(3, .int ((nI i) + 1)), (2, .int (g i)), (0, .ref h0), (1, .int p1)]) hx hb dX0_linesAt_35 hl (k := 3) rfl rfl (by decide) rfl (fun ls hl => ?_)
      refine lv_goto (tgt := 4) hx hb dX0_linesAt_38 (by decide) ?_
      have e2 : rt_pl f g p1 (i + 1) = g i := by simp only [rt_pl]; rw [if_pos (rt_nlt c_25)]
      exact ih (i + 1) (by omega) ls (by rw [e2, ← nI_1]; exact lv_sub hl [2, 3, 1, 0] rfl)
set_option maxHeartbeats 4000000 in
set_option maxRecDepth 100000 in
theorem c_X_linesAt (l : Launch) (dC : Nat → ClassId) (dI : Nat → Nat → Nat) (h0 a1 a2 sz : Nat) (k1 k2 : ClassId) (f g : Nat → Int32) (ent ret cnt per cng pnd msk sr sav tkn : Int32) (p1 : Int32) (en : Nat) (he : ent = nI en) (h32 : en ≤ 32) :
    Met l yX0_linesAt wsX0_linesAt ({ frames := 0, cells := 0, slots := 0, locals := 0 }) (va_Pc [.ref h0, .int p1] (rt_pre dC dI (rt_xw h0 a1 a2 k1 k2 f g ent ret cnt per cng pnd msk sr sav tkn) [(k1, .int), (k2, .int)] sz)) (va_Qi (fun (v : Int32) (u : Unit) => v = rt_pl f g p1 en) (rt_post dC dI [(k1, .int), (k2, .int)] (va_A (rt_xw h0 a1 a2 k1 k2 f g ent ret cnt per cng pnd msk sr sav tkn) sz) (fun (u : Unit) => rt_xw h0 a1 a2 k1 k2 f g ent ret cnt per cng pnd msk sr sav tkn)) (va_A (rt_xw h0 a1 a2 k1 k2 f g ent ret cnt per cng pnd msk sr sav tkn) sz)) 0 0 (va_A (rt_xw h0 a1 a2 k1 k2 f g ent ret cnt per cng pnd msk sr sav tkn) sz) := by
  subst he
  refine Met.ofW (cc := cX0_linesAt) (maxL := 4) (ret := (some .int)) (by decide) rfl ?_
  intro p e0 s m args below meth c s₁ B hml hv
  obtain ⟨rfl, hsz, hP, hK, hD0⟩ := hv
  have hx := B.exec
  have hb := B.bytes
  have hr := B.returns
  have hts := atoms_spec (ws := wsX0_linesAt) B.pre
  have hown : s.vm.findClass RX0 = some m.cls := findClass_of_methodNamed B.named
  have hlocks := B.notSynchronized
  subst hsz
  have hD := hD0.self (sz := s.heap.size)
  generalize hAe : va_A (rt_xw h0 a1 a2 k1 k2 f g (nI en) ret cnt per cng pnd msk sr sav tkn) s.heap.size = A at hD ⊢
  have hA : ∀ q : Nat, s.heap.size ≤ q → A q := fun q h => by rw [← hAe]; exact Or.inr h
  have hS : va_S A s.heap s.heap [] := va_S.rf
  have hP : va_P (dC, dI) vwCl (rt_xw h0 a1 a2 k1 k2 f g (nI en) ret cnt per cng pnd msk sr sav tkn) s.heap := hP
  have hl := lv_entry ([.ref h0, .int p1]) (n := 4) (Nat.le_of_ble_eq_true rfl)
  rw [lg_entry_eq]
  generalize (lg_sl ([.ref h0, .int p1]) ++ List.replicate (4 - (lg_sl ([.ref h0, .int p1])).length) Slot.unset).toArray = ls at hl ⊢
  have hl : lv_has ls 4 [(0, .ref h0), (1, .int p1)] := hl
  refine lv_iconst (v := 0) hx hb dX0_linesAt_0 (by decide) ?_
  refine lv_istore_n (lv' := [(2, .int 0), (0, .ref h0), (1, .int p1)]) hx hb dX0_linesAt_1 rfl hl (by decide) rfl (fun ls hl => ?_)
  refine lv_iconst (v := 0) hx hb dX0_linesAt_2 (by decide) ?_
  refine lv_istore_n (lv' := [(3, .int 0), (2, .int 0), (0, .ref h0), (1, .int p1)]) hx hb dX0_linesAt_3 rfl hl (by decide) rfl (fun ls hl => ?_)
  refine lp_X_linesAt hx hb hts hown hK hP h32 (fun ls hl => ?_) en 0 (by omega) ls (lv_sub hl [2, 3, 1, 0] rfl)
  refine lv_iload_n hx hb dX0_linesAt_41 rfl (lv_at hl 2 rfl) ?_
  exact W.iret (v := rt_pl f g p1 en) hx hb hr (fun t ht hW => ⟨⟨rt_pl f g p1 en, (), rfl, rfl, by rw [ht]; exact hP, va_K.moved hW.alike hK, hD⟩, hS.F ht⟩) hS.2.2 dX0_linesAt_42
end
section
set_option maxHeartbeats 4000000 in
set_option maxRecDepth 100000 in
theorem c_X_interruptDue (l : Launch) (dC : Nat → ClassId) (dI : Nat → Nat → Nat) (h0 a1 a2 sz : Nat) (k1 k2 : ClassId) (f g : Nat → Int32) (ent ret cnt per cng pnd msk sr sav tkn : Int32) (en : Nat) (he : ent = nI en) (h32 : en ≤ 32) :
    Met l yX0_interruptDue wsX0_interruptDue ({ frames := 1, cells := 0, slots := 0, locals := 23 }) (va_Pc [.ref h0] (rt_pre dC dI (rt_xw h0 a1 a2 k1 k2 f g ent ret cnt per cng pnd msk sr sav tkn) [(k1, .int), (k2, .int)] sz)) (va_Qi (fun (v : Int32) (u : Unit) => v = rt_due sr pnd (rt_pl f g ret en) msk) (rt_post dC dI [(k1, .int), (k2, .int)] (va_A (rt_xw h0 a1 a2 k1 k2 f g ent ret cnt per cng pnd msk sr sav tkn) sz) (fun (u : Unit) => rt_xw h0 a1 a2 k1 k2 f g ent ret cnt per cng pnd msk sr sav tkn)) (va_A (rt_xw h0 a1 a2 k1 k2 f g ent ret cnt per cng pnd msk sr sav tkn) sz)) 0 0 (va_A (rt_xw h0 a1 a2 k1 k2 f g ent ret cnt per cng pnd msk sr sav tkn) sz) := by
  subst he
  refine Met.ofW (cc := cX0_interruptDue) (maxL := 1) (ret := (some .int)) (by decide) rfl ?_
  intro p e0 s m args below meth c s₁ B hml hv
  obtain ⟨rfl, hsz, hP, hK, hD0⟩ := hv
  have hx := B.exec
  have hb := B.bytes
  have hr := B.returns
  have hts := atoms_spec (ws := wsX0_interruptDue) B.pre
  have hown : s.vm.findClass RX0 = some m.cls := findClass_of_methodNamed B.named
  have hlocks := B.notSynchronized
  subst hsz
  have hD := hD0.self (sz := s.heap.size)
  generalize hAe : va_A (rt_xw h0 a1 a2 k1 k2 f g (nI en) ret cnt per cng pnd msk sr sav tkn) s.heap.size = A at hD ⊢
  have hA : ∀ q : Nat, s.heap.size ≤ q → A q := fun q h => by rw [← hAe]; exact Or.inr h
  have hS : va_S A s.heap s.heap [] := va_S.rf
  have hP : va_P (dC, dI) vwCl (rt_xw h0 a1 a2 k1 k2 f g (nI en) ret cnt per cng pnd msk sr sav tkn) s.heap := hP
  have hl := lv_entry ([.ref h0]) (n := 1) (Nat.le_of_ble_eq_true rfl)
  rw [lg_entry_eq]
  generalize (lg_sl ([.ref h0]) ++ List.replicate (1 - (lg_sl ([.ref h0])).length) Slot.unset).toArray = ls at hl ⊢
  have hl : lv_has ls 1 [(0, .ref h0)] := hl
  refine lv_aload_n hx hb dX0_interruptDue_0 rfl (lv_at hl 0 rfl) ?_
  refine lv_iconst (v := 2) hx hb dX0_interruptDue_1 (by decide) ?_
  have hFc := va_free (wc := rt_xw h0 a1 a2 k1 k2 f g (nI en) ret cnt per cng pnd msk sr sav tkn) hD hS hA [0, 1, 2] rfl
  refine va_calli (va_runV (As := [.int 2]) (rest := []) ⟨hx, hb, hml, hown, hts⟩ (c_X_isOn l dC dI h0 a1 a2 s.heap.size k1 k2 f g (nI en) ret cnt per cng pnd msk sr sav tkn 2) (cwV 1 hts gX0_interruptDue_X0_isOn rfl rfl rfl (by decide +kernel) ⟨Nat.le_of_ble_eq_true rfl, Nat.le_of_ble_eq_true rfl⟩) ⟨fun a U g mk q => by obtain ⟨q0, q1, qP, qK, qD⟩ := q; exact ⟨q0, q1, qP, va_K.moved (u := U) (U := U.calling g mk a) (Vm.Alike.refl U.vm) qK, qD⟩, va_recv hK hP (ci := 0) (q0 := 0) rfl rfl, fun U hU hW => ⟨rfl, by rw [hU], by rw [hU]; exact hP, va_K.moved hW.alike hK, hD.weaken (fun _ _ _ _ => trivial)⟩⟩ rfl rfl hl.1 rfl (lv_room (Nat.le_of_ble_eq_true rfl)) dX0_interruptDue_2 ⟨Nat.zero_le _, Nat.zero_le _⟩) hS (fun q _ h => hFc q h) hFc (fun r_2 u t H1 locs ht hvm hw_2 hB hz1 hk1 hS => ?_)
  obtain ⟨hP1, hK1, hD1⟩ := hB
  rw [ht] at hP1
  try dsimp only at hw_2 hP1 hD1
  obtain ⟨hP, hD⟩ := va_join (wr := []) (w1 := rt_xw h0 a1 a2 k1 k2 f g (nI en) ret cnt per cng pnd msk sr sav tkn) hP hD [0, 1, 2] [] rfl rfl (by decide) (by decide) hk1 hFc hP1 hD1
  generalize H1 = H at hP hS ⊢
  have hP : va_P (dC, dI) vwCl (rt_xw h0 a1 a2 k1 k2 f g (nI en) ret cnt per cng pnd msk sr sav tkn) H := hP
  have hD : va_D A (rt_xw h0 a1 a2 k1 k2 f g (nI en) ret cnt per cng pnd msk sr sav tkn) := hD
  refine lv_if_eq (tgt := 17) hx hb dX0_interruptDue_5 (by decide) (fun c_5 => ?_) (fun c_5 => ?_)
  · refine lv_aload_n hx hb dX0_interruptDue_17 rfl (lv_at hl 0 rfl) ?_
    refine lv_iconst (v := 4) hx hb dX0_interruptDue_18 (by decide) ?_
    have hFc := va_free (wc := rt_xw h0 a1 a2 k1 k2 f g (nI en) ret cnt per cng pnd msk sr sav tkn) hD hS hA [0, 1, 2] rfl
    refine va_calli (va_runV (As := [.int 4]) (rest := []) ⟨hx, hb, hml, hown, hts⟩ (c_X_isOn l dC dI h0 a1 a2 H.size k1 k2 f g (nI en) ret cnt per cng pnd msk sr sav tkn 4) (cwV 1 hts gX0_interruptDue_X0_isOn rfl rfl rfl (by decide +kernel) ⟨Nat.le_of_ble_eq_true rfl, Nat.le_of_ble_eq_true rfl⟩) ⟨fun a U g mk q => by obtain ⟨q0, q1, qP, qK, qD⟩ := q; exact ⟨q0, q1, qP, va_K.moved (u := U) (U := U.calling g mk a) (Vm.Alike.refl U.vm) qK, qD⟩, va_recv hK hP (ci := 0) (q0 := 0) rfl rfl, fun U hU hW => ⟨rfl, by rw [hU], by rw [hU]; exact hP, va_K.moved hW.alike hK, hD.weaken (fun _ _ _ _ => trivial)⟩⟩ rfl rfl hl.1 rfl (lv_room (Nat.le_of_ble_eq_true rfl)) dX0_interruptDue_19 ⟨Nat.zero_le _, Nat.zero_le _⟩) hS (fun q _ h => hFc q h) hFc (fun r_19 u t H1 locs ht hvm hw_19 hB hz1 hk1 hS => ?_)
    obtain ⟨hP1, hK1, hD1⟩ := hB
    rw [ht] at hP1
    try dsimp only at hw_19 hP1 hD1
    obtain ⟨hP, hD⟩ := va_join (wr := []) (w1 := rt_xw h0 a1 a2 k1 k2 f g (nI en) ret cnt per cng pnd msk sr sav tkn) hP hD [0, 1, 2] [] rfl rfl (by decide) (by decide) hk1 hFc hP1 hD1
    generalize H1 = H at hP hS ⊢
    have hP : va_P (dC, dI) vwCl (rt_xw h0 a1 a2 k1 k2 f g (nI en) ret cnt per cng pnd msk sr sav tkn) H := hP
    have hD : va_D A (rt_xw h0 a1 a2 k1 k2 f g (nI en) ret cnt per cng pnd msk sr sav tkn) := hD
    refine lv_if_eq (tgt := 43) hx hb dX0_interruptDue_22 (by decide) (fun c_22 => ?_) (fun c_22 => ?_)
    · refine lv_iconst (v := 0) hx hb dX0_interruptDue_43 (by decide) ?_
      exact W.iret (v := 0) hx hb hr (fun t ht hW => ⟨⟨0, (), rfl, (rt_due0 (Or.inl (hw_2.mp c_5)) (Or.inl (hw_19.mp c_22))).symm, by rw [ht]; exact hP, va_K.moved hW.alike hK, hD⟩, hS.F ht⟩) hS.2.2 dX0_interruptDue_44
    · refine lv_aload_n hx hb dX0_interruptDue_25 rfl (lv_at hl 0 rfl) ?_
      refine lv_aload_n hx hb dX0_interruptDue_26 rfl (lv_at hl 0 rfl) ?_
      refine lv_aload_n hx hb dX0_interruptDue_27 rfl (lv_at hl 0 rfl) ?_
      refine va_get (D := (dC, dI)) (ci := 0) (v := .int ret) (C := RX0) (T := TX0) (N := 12) hx hb hts (fun _ h => List.mem_cons_of_mem _ (List.mem_append_right _ h)) hown hK hP 0 rfl rfl 3 (by decide) (hts (.fieldLink RX0 28 "RetiredTimer" "retired" "I") (by decide +kernel)) (fun _ h9 => h9) rfl dX0_interruptDue_28 ?_
      have hFc := va_free (wc := rt_xw h0 a1 a2 k1 k2 f g (nI en) ret cnt per cng pnd msk sr sav tkn) hD hS hA [0, 1, 2] rfl
      refine va_calli (va_runV (As := [.int ret]) (rest := [.ref h0]) ⟨hx, hb, hml, hown, hts⟩ (c_X_linesAt l dC dI h0 a1 a2 H.size k1 k2 f g (nI en) ret cnt per cng pnd msk sr sav tkn ret en rfl h32) (cwV 1 hts gX0_interruptDue_X0_linesAt rfl rfl rfl (by decide +kernel) ⟨Nat.le_of_ble_eq_true rfl, Nat.le_of_ble_eq_true rfl⟩) ⟨fun a U g mk q => by obtain ⟨q0, q1, qP, qK, qD⟩ := q; exact ⟨q0, q1, qP, va_K.moved (u := U) (U := U.calling g mk a) (Vm.Alike.refl U.vm) qK, qD⟩, va_recv hK hP (ci := 0) (q0 := 0) rfl rfl, fun U hU hW => ⟨rfl, by rw [hU], by rw [hU]; exact hP, va_K.moved hW.alike hK, hD.weaken (fun _ _ _ _ => trivial)⟩⟩ rfl rfl hl.1 rfl (lv_room (Nat.le_of_ble_eq_true rfl)) dX0_interruptDue_31 ⟨Nat.zero_le _, Nat.zero_le _⟩) hS (fun q _ h => hFc q h) hFc (fun r_31 u t H1 locs ht hvm hw_31 hB hz1 hk1 hS => ?_)
      obtain ⟨hP1, hK1, hD1⟩ := hB
      rw [ht] at hP1
      try dsimp only at hw_31 hP1 hD1
      obtain ⟨hP, hD⟩ := va_join (wr := []) (w1 := rt_xw h0 a1 a2 k1 k2 f g (nI en) ret cnt per cng pnd msk sr sav tkn) hP hD [0, 1, 2] [] rfl rfl (by decide) (by decide) hk1 hFc hP1 hD1
      generalize H1 = H at hP hS ⊢
      have hP : va_P (dC, dI) vwCl (rt_xw h0 a1 a2 k1 k2 f g (nI en) ret cnt per cng pnd msk sr sav tkn) H := hP
      have hD : va_D A (rt_xw h0 a1 a2 k1 k2 f g (nI en) ret cnt per cng pnd msk sr sav tkn) := hD
      have hFc := va_free (wc := rt_xw h0 a1 a2 k1 k2 f g (nI en) ret cnt per cng pnd msk sr sav tkn) hD hS hA [0, 1, 2] rfl
      refine va_calli (va_runV (As := [.int r_31]) (rest := []) ⟨hx, hb, hml, hown, hts⟩ (c_X_isInMask l dC dI h0 a1 a2 H.size k1 k2 f g (nI en) ret cnt per cng pnd msk sr sav tkn r_31) (cwV 1 hts gX0_interruptDue_X0_isInMask rfl rfl rfl (by decide +kernel) ⟨Nat.le_of_ble_eq_true rfl, Nat.le_of_ble_eq_true rfl⟩) ⟨fun a U g mk q => by obtain ⟨q0, q1, qP, qK, qD⟩ := q; exact ⟨q0, q1, qP, va_K.moved (u := U) (U := U.calling g mk a) (Vm.Alike.refl U.vm) qK, qD⟩, va_recv hK hP (ci := 0) (q0 := 0) rfl rfl, fun U hU hW => ⟨rfl, by rw [hU], by rw [hU]; exact hP, va_K.moved hW.alike hK, hD.weaken (fun _ _ _ _ => trivial)⟩⟩ rfl rfl hl.1 rfl (lv_room (Nat.le_of_ble_eq_true rfl)) dX0_interruptDue_34 ⟨Nat.zero_le _, Nat.zero_le _⟩) hS (fun q _ h => hFc q h) hFc (fun r_34 u t H1 locs ht hvm hw_34 hB hz1 hk1 hS => ?_)
      obtain ⟨hP1, hK1, hD1⟩ := hB
      rw [ht] at hP1
      try dsimp only at hw_34 hP1 hD1
      obtain ⟨hP, hD⟩ := va_join (wr := []) (w1 := rt_xw h0 a1 a2 k1 k2 f g (nI en) ret cnt per cng pnd msk sr sav tkn) hP hD [0, 1, 2] [] rfl rfl (by decide) (by decide) hk1 hFc hP1 hD1
      generalize H1 = H at hP hS ⊢
      have hP : va_P (dC, dI) vwCl (rt_xw h0 a1 a2 k1 k2 f g (nI en) ret cnt per cng pnd msk sr sav tkn) H := hP
      have hD : va_D A (rt_xw h0 a1 a2 k1 k2 f g (nI en) ret cnt per cng pnd msk sr sav tkn) := hD
      refine lv_if_eq (tgt := 43) hx hb dX0_interruptDue_37 (by decide) (fun c_37 => ?_) (fun c_37 => ?_)
      · refine lv_iconst (v := 0) hx hb dX0_interruptDue_43 (by decide) ?_
        rw [hw_31] at hw_34
        exact W.iret (v := 0) hx hb hr (fun t ht hW => ⟨⟨0, (), rfl, (rt_due0 (Or.inl (hw_2.mp c_5)) (Or.inr (hw_34.mp c_37))).symm, by rw [ht]; exact hP, va_K.moved hW.alike hK, hD⟩, hS.F ht⟩) hS.2.2 dX0_interruptDue_44
      · refine lv_bipush (v := 8) hx hb dX0_interruptDue_40 (by decide) ?_
        rw [hw_31] at hw_34
        exact W.iret (v := 8) hx hb hr (fun t ht hW => ⟨⟨8, (), rfl, (rt_due8 (Or.inl (hw_2.mp c_5)) (fun h => c_22 (hw_19.mpr h)) (fun h => c_37 (hw_34.mpr h))).symm, by rw [ht]; exact hP, va_K.moved hW.alike hK, hD⟩, hS.F ht⟩) hS.2.2 dX0_interruptDue_42
  · refine lv_aload_n hx hb dX0_interruptDue_8 rfl (lv_at hl 0 rfl) ?_
    refine va_get (D := (dC, dI)) (ci := 0) (v := .int pnd) (C := RX0) (T := TX0) (N := 12) hx hb hts (fun _ h => List.mem_cons_of_mem _ (List.mem_append_right _ h)) hown hK hP 0 rfl rfl 7 (by decide) (hts (.fieldLink RX0 62 "RetiredTimer" "pending" "Z") (by decide +kernel)) (fun _ h9 => h9) rfl dX0_interruptDue_9 ?_
    refine lv_if_eq (tgt := 17) hx hb dX0_interruptDue_12 (by decide) (fun c_12 => ?_) (fun c_12 => ?_)
    · refine lv_aload_n hx hb dX0_interruptDue_17 rfl (lv_at hl 0 rfl) ?_
      refine lv_iconst (v := 4) hx hb dX0_interruptDue_18 (by decide) ?_
      have hFc := va_free (wc := rt_xw h0 a1 a2 k1 k2 f g (nI en) ret cnt per cng pnd msk sr sav tkn) hD hS hA [0, 1, 2] rfl
      refine va_calli (va_runV (As := [.int 4]) (rest := []) ⟨hx, hb, hml, hown, hts⟩ (c_X_isOn l dC dI h0 a1 a2 H.size k1 k2 f g (nI en) ret cnt per cng pnd msk sr sav tkn 4) (cwV 1 hts gX0_interruptDue_X0_isOn rfl rfl rfl (by decide +kernel) ⟨Nat.le_of_ble_eq_true rfl, Nat.le_of_ble_eq_true rfl⟩) ⟨fun a U g mk q => by obtain ⟨q0, q1, qP, qK, qD⟩ := q; exact ⟨q0, q1, qP, va_K.moved (u := U) (U := U.calling g mk a) (Vm.Alike.refl U.vm) qK, qD⟩, va_recv hK hP (ci := 0) (q0 := 0) rfl rfl, fun U hU hW => ⟨rfl, by rw [hU], by rw [hU]; exact hP, va_K.moved hW.alike hK, hD.weaken (fun _ _ _ _ => trivial)⟩⟩ rfl rfl hl.1 rfl (lv_room (Nat.le_of_ble_eq_true rfl)) dX0_interruptDue_19 ⟨Nat.zero_le _, Nat.zero_le _⟩) hS (fun q _ h => hFc q h) hFc (fun r_19 u t H1 locs ht hvm hw_19 hB hz1 hk1 hS => ?_)
      obtain ⟨hP1, hK1, hD1⟩ := hB
      rw [ht] at hP1
      try dsimp only at hw_19 hP1 hD1
      obtain ⟨hP, hD⟩ := va_join (wr := []) (w1 := rt_xw h0 a1 a2 k1 k2 f g (nI en) ret cnt per cng pnd msk sr sav tkn) hP hD [0, 1, 2] [] rfl rfl (by decide) (by decide) hk1 hFc hP1 hD1
      generalize H1 = H at hP hS ⊢
      have hP : va_P (dC, dI) vwCl (rt_xw h0 a1 a2 k1 k2 f g (nI en) ret cnt per cng pnd msk sr sav tkn) H := hP
      have hD : va_D A (rt_xw h0 a1 a2 k1 k2 f g (nI en) ret cnt per cng pnd msk sr sav tkn) := hD
      refine lv_if_eq (tgt := 43) hx hb dX0_interruptDue_22 (by decide) (fun c_22 => ?_) (fun c_22 => ?_)
      · refine lv_iconst (v := 0) hx hb dX0_interruptDue_43 (by decide) ?_
        exact W.iret (v := 0) hx hb hr (fun t ht hW => ⟨⟨0, (), rfl, (rt_due0 (Or.inr c_12) (Or.inl (hw_19.mp c_22))).symm, by rw [ht]; exact hP, va_K.moved hW.alike hK, hD⟩, hS.F ht⟩) hS.2.2 dX0_interruptDue_44
      · refine lv_aload_n hx hb dX0_interruptDue_25 rfl (lv_at hl 0 rfl) ?_
        refine lv_aload_n hx hb dX0_interruptDue_26 rfl (lv_at hl 0 rfl) ?_
        refine lv_aload_n hx hb dX0_interruptDue_27 rfl (lv_at hl 0 rfl) ?_
        refine va_get (D := (dC, dI)) (ci := 0) (v := .int ret) (C := RX0) (T := TX0) (N := 12) hx hb hts (fun _ h => List.mem_cons_of_mem _ (List.mem_append_right _ h)) hown hK hP 0 rfl rfl 3 (by decide) (hts (.fieldLink RX0 28 "RetiredTimer" "retired" "I") (by decide +kernel)) (fun _ h9 => h9) rfl dX0_interruptDue_28 ?_
        have hFc := va_free (wc := rt_xw h0 a1 a2 k1 k2 f g (nI en) ret cnt per cng pnd msk sr sav tkn) hD hS hA [0, 1, 2] rfl
        refine va_calli (va_runV (As := [.int ret]) (rest := [.ref h0]) ⟨hx, hb, hml, hown, hts⟩ (c_X_linesAt l dC dI h0 a1 a2 H.size k1 k2 f g (nI en) ret cnt per cng pnd msk sr sav tkn ret en rfl h32) (cwV 1 hts gX0_interruptDue_X0_linesAt rfl rfl rfl (by decide +kernel) ⟨Nat.le_of_ble_eq_true rfl, Nat.le_of_ble_eq_true rfl⟩) ⟨fun a U g mk q => by obtain ⟨q0, q1, qP, qK, qD⟩ := q; exact ⟨q0, q1, qP, va_K.moved (u := U) (U := U.calling g mk a) (Vm.Alike.refl U.vm) qK, qD⟩, va_recv hK hP (ci := 0) (q0 := 0) rfl rfl, fun U hU hW => ⟨rfl, by rw [hU], by rw [hU]; exact hP, va_K.moved hW.alike hK, hD.weaken (fun _ _ _ _ => trivial)⟩⟩ rfl rfl hl.1 rfl (lv_room (Nat.le_of_ble_eq_true rfl)) dX0_interruptDue_31 ⟨Nat.zero_le _, Nat.zero_le _⟩) hS (fun q _ h => hFc q h) hFc (fun r_31 u t H1 locs ht hvm hw_31 hB hz1 hk1 hS => ?_)
        obtain ⟨hP1, hK1, hD1⟩ := hB
        rw [ht] at hP1
        try dsimp only at hw_31 hP1 hD1
        obtain ⟨hP, hD⟩ := va_join (wr := []) (w1 := rt_xw h0 a1 a2 k1 k2 f g (nI en) ret cnt per cng pnd msk sr sav tkn) hP hD [0, 1, 2] [] rfl rfl (by decide) (by decide) hk1 hFc hP1 hD1
        generalize H1 = H at hP hS ⊢
        have hP : va_P (dC, dI) vwCl (rt_xw h0 a1 a2 k1 k2 f g (nI en) ret cnt per cng pnd msk sr sav tkn) H := hP
        have hD : va_D A (rt_xw h0 a1 a2 k1 k2 f g (nI en) ret cnt per cng pnd msk sr sav tkn) := hD
        have hFc := va_free (wc := rt_xw h0 a1 a2 k1 k2 f g (nI en) ret cnt per cng pnd msk sr sav tkn) hD hS hA [0, 1, 2] rfl
        refine va_calli (va_runV (As := [.int r_31]) (rest := []) ⟨hx, hb, hml, hown, hts⟩ (c_X_isInMask l dC dI h0 a1 a2 H.size k1 k2 f g (nI en) ret cnt per cng pnd msk sr sav tkn r_31) (cwV 1 hts gX0_interruptDue_X0_isInMask rfl rfl rfl (by decide +kernel) ⟨Nat.le_of_ble_eq_true rfl, Nat.le_of_ble_eq_true rfl⟩) ⟨fun a U g mk q => by obtain ⟨q0, q1, qP, qK, qD⟩ := q; exact ⟨q0, q1, qP, va_K.moved (u := U) (U := U.calling g mk a) (Vm.Alike.refl U.vm) qK, qD⟩, va_recv hK hP (ci := 0) (q0 := 0) rfl rfl, fun U hU hW => ⟨rfl, by rw [hU], by rw [hU]; exact hP, va_K.moved hW.alike hK, hD.weaken (fun _ _ _ _ => trivial)⟩⟩ rfl rfl hl.1 rfl (lv_room (Nat.le_of_ble_eq_true rfl)) dX0_interruptDue_34 ⟨Nat.zero_le _, Nat.zero_le _⟩) hS (fun q _ h => hFc q h) hFc (fun r_34 u t H1 locs ht hvm hw_34 hB hz1 hk1 hS => ?_)
        obtain ⟨hP1, hK1, hD1⟩ := hB
        rw [ht] at hP1
        try dsimp only at hw_34 hP1 hD1
        obtain ⟨hP, hD⟩ := va_join (wr := []) (w1 := rt_xw h0 a1 a2 k1 k2 f g (nI en) ret cnt per cng pnd msk sr sav tkn) hP hD [0, 1, 2] [] rfl rfl (by decide) (by decide) hk1 hFc hP1 hD1
        generalize H1 = H at hP hS ⊢
        have hP : va_P (dC, dI) vwCl (rt_xw h0 a1 a2 k1 k2 f g (nI en) ret cnt per cng pnd msk sr sav tkn) H := hP
        have hD : va_D A (rt_xw h0 a1 a2 k1 k2 f g (nI en) ret cnt per cng pnd msk sr sav tkn) := hD
        refine lv_if_eq (tgt := 43) hx hb dX0_interruptDue_37 (by decide) (fun c_37 => ?_) (fun c_37 => ?_)
        · refine lv_iconst (v := 0) hx hb dX0_interruptDue_43 (by decide) ?_
          rw [hw_31] at hw_34
          exact W.iret (v := 0) hx hb hr (fun t ht hW => ⟨⟨0, (), rfl, (rt_due0 (Or.inr c_12) (Or.inr (hw_34.mp c_37))).symm, by rw [ht]; exact hP, va_K.moved hW.alike hK, hD⟩, hS.F ht⟩) hS.2.2 dX0_interruptDue_44
        · refine lv_bipush (v := 8) hx hb dX0_interruptDue_40 (by decide) ?_
          rw [hw_31] at hw_34
          exact W.iret (v := 8) hx hb hr (fun t ht hW => ⟨⟨8, (), rfl, (rt_due8 (Or.inr c_12) (fun h => c_22 (hw_19.mpr h)) (fun h => c_37 (hw_34.mpr h))).symm, by rw [ht]; exact hP, va_K.moved hW.alike hK, hD⟩, hS.F ht⟩) hS.2.2 dX0_interruptDue_42
    · refine lv_iconst (v := 5) hx hb dX0_interruptDue_15 (by decide) ?_
      exact W.iret (v := 5) hx hb hr (fun t ht hW => ⟨⟨5, (), rfl, (rt_due5 (fun h => c_5 (hw_2.mpr h)) c_12).symm, by rw [ht]; exact hP, va_K.moved hW.alike hK, hD⟩, hS.F ht⟩) hS.2.2 dX0_interruptDue_16
set_option maxHeartbeats 4000000 in
set_option maxRecDepth 100000 in
theorem c_X_distanceToTimer (l : Launch) (dC : Nat → ClassId) (dI : Nat → Nat → Nat) (h0 a1 a2 sz : Nat) (k1 k2 : ClassId) (f g : Nat → Int32) (ent ret cnt per cng pnd msk sr sav tkn : Int32) :
    Met l yX0_distanceToTimer wsX0_distanceToTimer ({ frames := 1, cells := 0, slots := 0, locals := 22 }) (va_Pc [.ref h0] (rt_pre dC dI (rt_xw h0 a1 a2 k1 k2 f g ent ret cnt per cng pnd msk sr sav tkn) [(k1, .int), (k2, .int)] sz)) (va_Ql (fun (v : Int64) (u : Unit) => v = rt_tim sr cng per cnt) (rt_post dC dI [(k1, .int), (k2, .int)] (va_A (rt_xw h0 a1 a2 k1 k2 f g ent ret cnt per cng pnd msk sr sav tkn) sz) (fun (u : Unit) => rt_xw h0 a1 a2 k1 k2 f g ent ret cnt per cng pnd msk sr sav tkn)) (va_A (rt_xw h0 a1 a2 k1 k2 f g ent ret cnt per cng pnd msk sr sav tkn) sz)) 0 0 (va_A (rt_xw h0 a1 a2 k1 k2 f g ent ret cnt per cng pnd msk sr sav tkn) sz) := by
  refine Met.ofW (cc := cX0_distanceToTimer) (maxL := 1) (ret := (some .long)) (by decide) rfl ?_
  intro p e0 s m args below meth c s₁ B hml hv
  obtain ⟨rfl, hsz, hP, hK, hD0⟩ := hv
  have hx := B.exec
  have hb := B.bytes
  have hr := B.returns
  have hts := atoms_spec (ws := wsX0_distanceToTimer) B.pre
  have hown : s.vm.findClass RX0 = some m.cls := findClass_of_methodNamed B.named
  have hlocks := B.notSynchronized
  subst hsz
  have hD := hD0.self (sz := s.heap.size)
  generalize hAe : va_A (rt_xw h0 a1 a2 k1 k2 f g ent ret cnt per cng pnd msk sr sav tkn) s.heap.size = A at hD ⊢
  have hA : ∀ q : Nat, s.heap.size ≤ q → A q := fun q h => by rw [← hAe]; exact Or.inr h
  have hS : va_S A s.heap s.heap [] := va_S.rf
  have hP : va_P (dC, dI) vwCl (rt_xw h0 a1 a2 k1 k2 f g ent ret cnt per cng pnd msk sr sav tkn) s.heap := hP
  have hl := lv_entry ([.ref h0]) (n := 1) (Nat.le_of_ble_eq_true rfl)
  rw [lg_entry_eq]
  generalize (lg_sl ([.ref h0]) ++ List.replicate (1 - (lg_sl ([.ref h0])).length) Slot.unset).toArray = ls at hl ⊢
  have hl : lv_has ls 1 [(0, .ref h0)] := hl
  refine lv_aload_n hx hb dX0_distanceToTimer_0 rfl (lv_at hl 0 rfl) ?_
  refine lv_iconst (v := 2) hx hb dX0_distanceToTimer_1 (by decide) ?_
  have hFc := va_free (wc := rt_xw h0 a1 a2 k1 k2 f g ent ret cnt per cng pnd msk sr sav tkn) hD hS hA [0, 1, 2] rfl
  refine va_calli (va_runV (As := [.int 2]) (rest := []) ⟨hx, hb, hml, hown, hts⟩ (c_X_isOn l dC dI h0 a1 a2 s.heap.size k1 k2 f g ent ret cnt per cng pnd msk sr sav tkn 2) (cwV 1 hts gX0_distanceToTimer_X0_isOn rfl rfl rfl (by decide +kernel) ⟨Nat.le_of_ble_eq_true rfl, Nat.le_of_ble_eq_true rfl⟩) ⟨fun a U g mk q => by obtain ⟨q0, q1, qP, qK, qD⟩ := q; exact ⟨q0, q1, qP, va_K.moved (u := U) (U := U.calling g mk a) (Vm.Alike.refl U.vm) qK, qD⟩, va_recv hK hP (ci := 0) (q0 := 0) rfl rfl, fun U hU hW => ⟨rfl, by rw [hU], by rw [hU]; exact hP, va_K.moved hW.alike hK, hD.weaken (fun _ _ _ _ => trivial)⟩⟩ rfl rfl hl.1 rfl (lv_room (Nat.le_of_ble_eq_true rfl)) dX0_distanceToTimer_2 ⟨Nat.zero_le _, Nat.zero_le _⟩) hS (fun q _ h => hFc q h) hFc (fun r_2 u t H1 locs ht hvm hw_2 hB hz1 hk1 hS => ?_)
  obtain ⟨hP1, hK1, hD1⟩ := hB
  rw [ht] at hP1
  try dsimp only at hw_2 hP1 hD1
  obtain ⟨hP, hD⟩ := va_join (wr := []) (w1 := rt_xw h0 a1 a2 k1 k2 f g ent ret cnt per cng pnd msk sr sav tkn) hP hD [0, 1, 2] [] rfl rfl (by decide) (by decide) hk1 hFc hP1 hD1
  generalize H1 = H at hP hS ⊢
  have hP : va_P (dC, dI) vwCl (rt_xw h0 a1 a2 k1 k2 f g ent ret cnt per cng pnd msk sr sav tkn) H := hP
  have hD : va_D A (rt_xw h0 a1 a2 k1 k2 f g ent ret cnt per cng pnd msk sr sav tkn) := hD
  refine lv_if_eq (tgt := 22) hx hb dX0_distanceToTimer_5 (by decide) (fun c_5 => ?_) (fun c_5 => ?_)
  · refine lv_ldc2 (v := 1099511627776) hx hb hown (hts (.constantLong RX0 94 1099511627776) (by decide +kernel)) dX0_distanceToTimer_22 ?_
    exact W.lret (v := 1099511627776) hx hb hr (fun t ht hW => ⟨⟨1099511627776, (), rfl, by unfold rt_tim; rw [if_pos (Or.inl (hw_2.mp c_5))], by rw [ht]; exact hP, va_K.moved hW.alike hK, hD⟩, hS.F ht⟩) hS.2.2 dX0_distanceToTimer_25
  · refine lv_aload_n hx hb dX0_distanceToTimer_8 rfl (lv_at hl 0 rfl) ?_
    refine va_get (D := (dC, dI)) (ci := 0) (v := .int cng) (C := RX0) (T := TX0) (N := 12) hx hb hts (fun _ h => List.mem_cons_of_mem _ (List.mem_append_right _ h)) hown hK hP 0 rfl rfl 6 (by decide) (hts (.fieldLink RX0 58 "RetiredTimer" "counting" "Z") (by decide +kernel)) (fun _ h9 => h9) rfl dX0_distanceToTimer_9 ?_
    refine lv_if_eq (tgt := 22) hx hb dX0_distanceToTimer_12 (by decide) (fun c_12 => ?_) (fun c_12 => ?_)
    · refine lv_ldc2 (v := 1099511627776) hx hb hown (hts (.constantLong RX0 94 1099511627776) (by decide +kernel)) dX0_distanceToTimer_22 ?_
      exact W.lret (v := 1099511627776) hx hb hr (fun t ht hW => ⟨⟨1099511627776, (), rfl, by unfold rt_tim; rw [if_pos (Or.inr c_12)], by rw [ht]; exact hP, va_K.moved hW.alike hK, hD⟩, hS.F ht⟩) hS.2.2 dX0_distanceToTimer_25
    · refine lv_aload_n hx hb dX0_distanceToTimer_15 rfl (lv_at hl 0 rfl) ?_
      have hFc := va_free (wc := rt_xw h0 a1 a2 k1 k2 f g ent ret cnt per cng pnd msk sr sav tkn) hD hS hA [0, 1, 2] rfl
      refine va_calll (va_runV (As := []) (rest := []) ⟨hx, hb, hml, hown, hts⟩ (c_X_distanceToPeriod l dC dI h0 a1 a2 H.size k1 k2 f g ent ret cnt per cng pnd msk sr sav tkn) (cwV 0 hts gX0_distanceToTimer_X0_distanceToPeriod rfl rfl rfl (by decide +kernel) ⟨Nat.le_of_ble_eq_true rfl, Nat.le_of_ble_eq_true rfl⟩) ⟨fun a U g mk q => by obtain ⟨q0, q1, qP, qK, qD⟩ := q; exact ⟨q0, q1, qP, va_K.moved (u := U) (U := U.calling g mk a) (Vm.Alike.refl U.vm) qK, qD⟩, va_recv hK hP (ci := 0) (q0 := 0) rfl rfl, fun U hU hW => ⟨rfl, by rw [hU], by rw [hU]; exact hP, va_K.moved hW.alike hK, hD.weaken (fun _ _ _ _ => trivial)⟩⟩ rfl rfl hl.1 rfl (lv_room (Nat.le_of_ble_eq_true rfl)) dX0_distanceToTimer_16 ⟨Nat.zero_le _, Nat.zero_le _⟩) hS (fun q _ h => hFc q h) hFc (fun r_16 u t H1 locs ht hvm hw_16 hB hz1 hk1 hS => ?_)
      obtain ⟨hP1, hK1, hD1⟩ := hB
      rw [ht] at hP1
      try dsimp only at hw_16 hP1 hD1
      obtain ⟨hP, hD⟩ := va_join (wr := []) (w1 := rt_xw h0 a1 a2 k1 k2 f g ent ret cnt per cng pnd msk sr sav tkn) hP hD [0, 1, 2] [] rfl rfl (by decide) (by decide) hk1 hFc hP1 hD1
      generalize H1 = H at hP hS ⊢
      have hP : va_P (dC, dI) vwCl (rt_xw h0 a1 a2 k1 k2 f g ent ret cnt per cng pnd msk sr sav tkn) H := hP
      have hD : va_D A (rt_xw h0 a1 a2 k1 k2 f g ent ret cnt per cng pnd msk sr sav tkn) := hD
      refine lv_goto (tgt := 25) hx hb dX0_distanceToTimer_19 (by decide) ?_
      exact W.lret (v := r_16) hx hb hr (fun t ht hW => ⟨⟨r_16, (), rfl, by unfold rt_tim; rw [if_neg (fun h => h.elim (fun q => c_5 (hw_2.mpr q)) c_12)]; exact hw_16, by rw [ht]; exact hP, va_K.moved hW.alike hK, hD⟩, hS.F ht⟩) hS.2.2 dX0_distanceToTimer_25
set_option maxHeartbeats 4000000 in
set_option maxRecDepth 100000 in
theorem lp_X_dl {p : Program} {l : Launch} {e0 : Env} {R : Room} {s : State} {m : MethodId} {args : Array Value} {below : List Frame} {meth : Method} {c : Code} {Q : State → Prop} {dC : Nat → ClassId} {dI : Nat → Nat → Nat} {A : Nat → Prop} {h0 a1 a2 : Nat} {k1 k2 : ClassId} {f g : Nat → Int32} {ret cnt per cng pnd msk sr sav tkn : Int32} {en : Nat} (hx : p.tables.exec = Jvm.exec) (hb : c.code = cX0_distanceToLines) (hts : ∀ w ∈ wsX0_distanceToLines, w.before args s = true) (hown : s.vm.findClass RX0 = some m.cls) (hml : c.maxLocals = 2) (hA : ∀ q : Nat, s.heap.size ≤ q → A q) (hRf : 1 ≤ R.frames) (hRl : 21 ≤ R.locals) (hK : va_K (dC, dI) vwCl [(k1, .int), (k2, .int)] s) (h32 : en ≤ 32)
    (k66 : ∀ (H : Heap) (locs : List Loc) (ls : Array Slot), va_P (dC, dI) vwCl (rt_xw h0 a1 a2 k1 k2 f g (nI en) ret cnt per cng pnd msk sr sav tkn) H → va_D A (rt_xw h0 a1 a2 k1 k2 f g (nI en) ret cnt per cng pnd msk sr sav tkn) → va_S A s.heap H locs → W p l e0 R s m args below meth c H locs 0 0 Q (F0 m 66 ls [.long (rt_pdl f g ret msk en 0)]))
    (k73 : rt_pdl f g ret msk en 0 = 1099511627776 → ∀ (H : Heap) (locs : List Loc) (ls : Array Slot), va_P (dC, dI) vwCl (rt_xw h0 a1 a2 k1 k2 f g (nI en) ret cnt per cng pnd msk sr sav tkn) H → va_D A (rt_xw h0 a1 a2 k1 k2 f g (nI en) ret cnt per cng pnd msk sr sav tkn) → va_S A s.heap H locs → W p l e0 R s m args below meth c H locs 0 0 Q (F0 m 73 ls [])) :
    ∀ (n i : Nat), i + n = en → rt_pdl f g ret msk n i = rt_pdl f g ret msk en 0 → ∀ (H : Heap) (locs : List Loc) (ls : Array Slot), va_P (dC, dI) vwCl (rt_xw h0 a1 a2 k1 k2 f g (nI en) ret cnt per cng pnd msk sr sav tkn) H → va_D A (rt_xw h0 a1 a2 k1 k2 f g (nI en) ret cnt per cng pnd msk sr sav tkn) → va_S A s.heap H locs → lv_has ls 2 [(0, .ref h0), (1, .int (nI i))] → W p l e0 R s m args below meth c H locs 0 0 Q (F0 m 14 ls []) := by
  intro n
  induction n with
  | zero =>
    intro i hi hq H locs ls hP hD hS hl
    refine lv_iload_n hx hb dX0_distanceToLines_14 rfl (lv_at hl 1 rfl) ?_
    refine lv_aload_n hx hb dX0_distanceToLines_15 rfl (lv_at hl 0 rfl) ?_
    refine va_get (D := (dC, dI)) (ci := 0) (v := .int (nI en)) (C := RX0) (T := TX0) (N := 12) hx hb hts (fun _ h => List.mem_cons_of_mem _ (List.mem_append_right _ h)) hown hK hP 0 rfl rfl 2 (by decide) (hts (.fieldLink RX0 19 "RetiredTimer" "entries" "I") (by decide +kernel)) (fun _ h9 => h9) rfl dX0_distanceToLines_16 ?_
    refine lv_icmp_ge (tgt := 73) hx hb dX0_distanceToLines_19 (by decide) (fun c_19 => ?_) (fun c_19 => absurd (nI_le (by omega) (by omega)) c_19)
    exact k73 hq.symm H locs ls hP hD hS
  | succ n ih =>
    intro i hi hq H locs ls hP hD hS hl
    refine lv_iload_n hx hb dX0_distanceToLines_14 rfl (lv_at hl 1 rfl) ?_
    refine lv_aload_n hx hb dX0_distanceToLines_15 rfl (lv_at hl 0 rfl) ?_
    refine va_get (D := (dC, dI)) (ci := 0) (v := .int (nI en)) (C := RX0) (T := TX0) (N := 12) hx hb hts (fun _ h => List.mem_cons_of_mem _ (List.mem_append_right _ h)) hown hK hP 0 rfl rfl 2 (by decide) (hts (.fieldLink RX0 19 "RetiredTimer" "entries" "I") (by decide +kernel)) (fun _ h9 => h9) rfl dX0_distanceToLines_16 ?_
    refine lv_icmp_ge (tgt := 73) hx hb dX0_distanceToLines_19 (by decide) (fun c_19 => absurd c_19 (nI_ge (by omega) (by omega))) (fun c_19 => ?_)
    refine lv_iload_n hx hb dX0_distanceToLines_22 rfl (lv_at hl 1 rfl) ?_
    refine lv_bipush (v := 32) hx hb dX0_distanceToLines_23 (by decide) ?_
    refine lv_icmp_ge (tgt := 73) hx hb dX0_distanceToLines_25 (by decide) (fun c_25 => absurd c_25 (nI_ge (b := 32) (by omega) (by decide))) (fun c_25 => ?_)
    refine lv_aload_n hx hb dX0_distanceToLines_28 rfl (lv_at hl 0 rfl) ?_
    refine va_get (D := (dC, dI)) (ci := 0) (v := .ref a1) (C := RX0) (T := TX0) (N := 12) hx hb hts (fun _ h => List.mem_cons_of_mem _ (List.mem_append_right _ h)) hown hK hP 0 rfl rfl 0 (by decide) (hts (.fieldLink RX0 9 "RetiredTimer" "entryCounts" "[I") (by decide +kernel)) (fun _ h9 => h9) rfl dX0_distanceToLines_29 ?_
    refine lv_iload_n hx hb dX0_distanceToLines_32 rfl (lv_at hl 1 rfl) ?_
    refine va_iald hx hb hK hP 1 0 rfl rfl (vp_in_nI (N := 32) (by omega) (by decide)) dX0_distanceToLines_33 ?_
    rw [show f (nI i).toNatClampNeg = f i from by rw [nI_clamp (by omega)]]
    refine lv_aload_n hx hb dX0_distanceToLines_34 rfl (lv_at hl 0 rfl) ?_
    refine va_get (D := (dC, dI)) (ci := 0) (v := .int ret) (C := RX0) (T := TX0) (N := 12) hx hb hts (fun _ h => List.mem_cons_of_mem _ (List.mem_append_right _ h)) hown hK hP 0 rfl rfl 3 (by decide) (hts (.fieldLink RX0 28 "RetiredTimer" "retired" "I") (by decide +kernel)) (fun _ h9 => h9) rfl dX0_distanceToLines_35 ?_
    refine lv_icmp_le (tgt := 67) hx hb dX0_distanceToLines_38 (by decide) (fun c_38 => ?_) (fun c_38 => ?_)
    · refine lv_iinc (v := (nI i) + 1) (lv' := [(1, .int ((nI i) + 1)), (0, .ref h0)]) hx hb dX0_distanceToLines_67 hl (k := 1) rfl rfl (by decide) rfl (fun ls hl => ?_)
      refine lv_goto (tgt := 14) hx hb dX0_distanceToLines_70 (by decide) ?_
      have e2 : rt_pdl f g ret msk n (i + 1) = rt_pdl f g ret msk en 0 := by rw [← hq]; simp only [rt_pdl]; rw [if_neg (fun h => rt_nle2 c_38 h.1)]
      exact ih (i + 1) (by omega) e2 H locs ls hP hD hS (by rw [← nI_1]; exact lv_sub hl [1, 0] rfl)
    · refine lv_aload_n hx hb dX0_distanceToLines_41 rfl (lv_at hl 0 rfl) ?_
      refine lv_aload_n hx hb dX0_distanceToLines_42 rfl (lv_at hl 0 rfl) ?_
      refine va_get (D := (dC, dI)) (ci := 0) (v := .ref a2) (C := RX0) (T := TX0) (N := 12) hx hb hts (fun _ h => List.mem_cons_of_mem _ (List.mem_append_right _ h)) hown hK hP 0 rfl rfl 1 (by decide) (hts (.fieldLink RX0 13 "RetiredTimer" "entryLines" "[I") (by decide +kernel)) (fun _ h9 => h9) rfl dX0_distanceToLines_43 ?_
      refine lv_iload_n hx hb dX0_distanceToLines_46 rfl (lv_at hl 1 rfl) ?_
      refine va_iald hx hb hK hP 2 1 rfl rfl (vp_in_nI (N := 32) (by omega) (by decide)) dX0_distanceToLines_47 ?_
      rw [show g (nI i).toNatClampNeg = g i from by rw [nI_clamp (by omega)]]
      have hFc := va_free (wc := rt_xw h0 a1 a2 k1 k2 f g (nI en) ret cnt per cng pnd msk sr sav tkn) hD hS hA [0, 1, 2] rfl
      refine va_calli (va_runV (As := [.int (g i)]) (rest := []) ⟨hx, hb, hml, hown, hts⟩ (c_X_isInMask l dC dI h0 a1 a2 H.size k1 k2 f g (nI en) ret cnt per cng pnd msk sr sav tkn (g i)) (cwV 1 hts gX0_distanceToLines_X0_isInMask rfl rfl rfl (by decide +kernel) ⟨hRf, hRl⟩) ⟨fun a U g mk q => by obtain ⟨q0, q1, qP, qK, qD⟩ := q; exact ⟨q0, q1, qP, va_K.moved (u := U) (U := U.calling g mk a) (Vm.Alike.refl U.vm) qK, qD⟩, va_recv hK hP (ci := 0) (q0 := 0) rfl rfl, fun U hU hW => ⟨rfl, by rw [hU], by rw [hU]; exact hP, va_K.moved hW.alike hK, hD.weaken (fun _ _ _ _ => trivial)⟩⟩ rfl rfl hl.1 rfl (lv_room (Nat.le_of_ble_eq_true rfl)) dX0_distanceToLines_48 ⟨Nat.zero_le _, Nat.zero_le _⟩) hS (fun q _ h => hFc q h) hFc (fun r_48 u t H1 locs ht hvm hw_48 hB hz1 hk1 hS => ?_)
      obtain ⟨hP1, hK1, hD1⟩ := hB
      rw [ht] at hP1
      try dsimp only at hw_48 hP1 hD1
      obtain ⟨hP, hD⟩ := va_join (wr := []) (w1 := rt_xw h0 a1 a2 k1 k2 f g (nI en) ret cnt per cng pnd msk sr sav tkn) hP hD [0, 1, 2] [] rfl rfl (by decide) (by decide) hk1 hFc hP1 hD1
      generalize H1 = H at hP hS ⊢
      have hP : va_P (dC, dI) vwCl (rt_xw h0 a1 a2 k1 k2 f g (nI en) ret cnt per cng pnd msk sr sav tkn) H := hP
      have hD : va_D A (rt_xw h0 a1 a2 k1 k2 f g (nI en) ret cnt per cng pnd msk sr sav tkn) := hD
      refine lv_if_eq (tgt := 67) hx hb dX0_distanceToLines_51 (by decide) (fun c_51 => ?_) (fun c_51 => ?_)
      · refine lv_iinc (v := (nI i) + 1) (lv' := [(1, .int ((nI i) + 1)), (0, .ref h0)]) hx hb dX0_distanceToLines_67 hl (k := 1) rfl rfl (by decide) rfl (fun ls hl => ?_)
        refine lv_goto (tgt := 14) hx hb dX0_distanceToLines_70 (by decide) ?_
        have e2 : rt_pdl f g ret msk n (i + 1) = rt_pdl f g ret msk en 0 := by rw [← hq]; simp only [rt_pdl]; rw [if_neg (fun h => h.2 (hw_48.mp c_51))]
        exact ih (i + 1) (by omega) e2 H locs ls hP hD hS (by rw [← nI_1]; exact lv_sub hl [1, 0] rfl)
      · refine lv_aload_n hx hb dX0_distanceToLines_54 rfl (lv_at hl 0 rfl) ?_
        refine va_get (D := (dC, dI)) (ci := 0) (v := .ref a1) (C := RX0) (T := TX0) (N := 12) hx hb hts (fun _ h => List.mem_cons_of_mem _ (List.mem_append_right _ h)) hown hK hP 0 rfl rfl 0 (by decide) (hts (.fieldLink RX0 9 "RetiredTimer" "entryCounts" "[I") (by decide +kernel)) (fun _ h9 => h9) rfl dX0_distanceToLines_55 ?_
        refine lv_iload_n hx hb dX0_distanceToLines_58 rfl (lv_at hl 1 rfl) ?_
        refine va_iald hx hb hK hP 1 0 rfl rfl (vp_in_nI (N := 32) (by omega) (by decide)) dX0_distanceToLines_59 ?_
        rw [show f (nI i).toNatClampNeg = f i from by rw [nI_clamp (by omega)]]
        refine lv_aload_n hx hb dX0_distanceToLines_60 rfl (lv_at hl 0 rfl) ?_
        refine va_get (D := (dC, dI)) (ci := 0) (v := .int ret) (C := RX0) (T := TX0) (N := 12) hx hb hts (fun _ h => List.mem_cons_of_mem _ (List.mem_append_right _ h)) hown hK hP 0 rfl rfl 3 (by decide) (hts (.fieldLink RX0 28 "RetiredTimer" "retired" "I") (by decide +kernel)) (fun _ h9 => h9) rfl dX0_distanceToLines_61 ?_
        refine lv_isub hx hb dX0_distanceToLines_64 ?_
        refine lv_i2l (v := ((f i) - ret).toInt64) hx hb dX0_distanceToLines_65 rfl ?_
        have e2 : (f i - ret).toInt64 = rt_pdl f g ret msk en 0 := by rw [← hq]; simp only [rt_pdl]; rw [if_pos ⟨rt_nle c_38, fun h => c_51 (hw_48.mpr h)⟩]
        rw [e2]
        exact k66 H locs ls hP hD hS
set_option maxHeartbeats 4000000 in
set_option maxRecDepth 100000 in
theorem c_X_distanceToLines (l : Launch) (dC : Nat → ClassId) (dI : Nat → Nat → Nat) (h0 a1 a2 sz : Nat) (k1 k2 : ClassId) (f g : Nat → Int32) (ent ret cnt per cng pnd msk sr sav tkn : Int32) (en : Nat) (he : ent = nI en) (h32 : en ≤ 32) :
    Met l yX0_distanceToLines wsX0_distanceToLines ({ frames := 1, cells := 0, slots := 0, locals := 21 }) (va_Pc [.ref h0] (rt_pre dC dI (rt_xw h0 a1 a2 k1 k2 f g ent ret cnt per cng pnd msk sr sav tkn) [(k1, .int), (k2, .int)] sz)) (va_Ql (fun (v : Int64) (u : Unit) => v = rt_dl f g en ret msk sr) (rt_post dC dI [(k1, .int), (k2, .int)] (va_A (rt_xw h0 a1 a2 k1 k2 f g ent ret cnt per cng pnd msk sr sav tkn) sz) (fun (u : Unit) => rt_xw h0 a1 a2 k1 k2 f g ent ret cnt per cng pnd msk sr sav tkn)) (va_A (rt_xw h0 a1 a2 k1 k2 f g ent ret cnt per cng pnd msk sr sav tkn) sz)) 0 0 (va_A (rt_xw h0 a1 a2 k1 k2 f g ent ret cnt per cng pnd msk sr sav tkn) sz) := by
  subst he
  refine Met.ofW (cc := cX0_distanceToLines) (maxL := 2) (ret := (some .long)) (by decide) rfl ?_
  intro p e0 s m args below meth c s₁ B hml hv
  obtain ⟨rfl, hsz, hP, hK, hD0⟩ := hv
  have hx := B.exec
  have hb := B.bytes
  have hr := B.returns
  have hts := atoms_spec (ws := wsX0_distanceToLines) B.pre
  have hown : s.vm.findClass RX0 = some m.cls := findClass_of_methodNamed B.named
  have hlocks := B.notSynchronized
  subst hsz
  have hD := hD0.self (sz := s.heap.size)
  generalize hAe : va_A (rt_xw h0 a1 a2 k1 k2 f g (nI en) ret cnt per cng pnd msk sr sav tkn) s.heap.size = A at hD ⊢
  have hA : ∀ q : Nat, s.heap.size ≤ q → A q := fun q h => by rw [← hAe]; exact Or.inr h
  have hS : va_S A s.heap s.heap [] := va_S.rf
  have hP : va_P (dC, dI) vwCl (rt_xw h0 a1 a2 k1 k2 f g (nI en) ret cnt per cng pnd msk sr sav tkn) s.heap := hP
  have hl := lv_entry ([.ref h0]) (n := 2) (Nat.le_of_ble_eq_true rfl)
  rw [lg_entry_eq]
  generalize (lg_sl ([.ref h0]) ++ List.replicate (2 - (lg_sl ([.ref h0])).length) Slot.unset).toArray = ls at hl ⊢
  have hl : lv_has ls 2 [(0, .ref h0)] := hl
  refine lv_aload_n hx hb dX0_distanceToLines_0 rfl (lv_at hl 0 rfl) ?_
  refine lv_iconst (v := 4) hx hb dX0_distanceToLines_1 (by decide) ?_
  have hFc := va_free (wc := rt_xw h0 a1 a2 k1 k2 f g (nI en) ret cnt per cng pnd msk sr sav tkn) hD hS hA [0, 1, 2] rfl
  refine va_calli (va_runV (As := [.int 4]) (rest := []) ⟨hx, hb, hml, hown, hts⟩ (c_X_isOn l dC dI h0 a1 a2 s.heap.size k1 k2 f g (nI en) ret cnt per cng pnd msk sr sav tkn 4) (cwV 1 hts gX0_distanceToLines_X0_isOn rfl rfl rfl (by decide +kernel) ⟨Nat.le_of_ble_eq_true rfl, Nat.le_of_ble_eq_true rfl⟩) ⟨fun a U g mk q => by obtain ⟨q0, q1, qP, qK, qD⟩ := q; exact ⟨q0, q1, qP, va_K.moved (u := U) (U := U.calling g mk a) (Vm.Alike.refl U.vm) qK, qD⟩, va_recv hK hP (ci := 0) (q0 := 0) rfl rfl, fun U hU hW => ⟨rfl, by rw [hU], by rw [hU]; exact hP, va_K.moved hW.alike hK, hD.weaken (fun _ _ _ _ => trivial)⟩⟩ rfl rfl hl.1 rfl (lv_room (Nat.le_of_ble_eq_true rfl)) dX0_distanceToLines_2 ⟨Nat.zero_le _, Nat.zero_le _⟩) hS (fun q _ h => hFc q h) hFc (fun r_2 u t H1 locs ht hvm hw_2 hB hz1 hk1 hS => ?_)
  obtain ⟨hP1, hK1, hD1⟩ := hB
  rw [ht] at hP1
  try dsimp only at hw_2 hP1 hD1
  obtain ⟨hP, hD⟩ := va_join (wr := []) (w1 := rt_xw h0 a1 a2 k1 k2 f g (nI en) ret cnt per cng pnd msk sr sav tkn) hP hD [0, 1, 2] [] rfl rfl (by decide) (by decide) hk1 hFc hP1 hD1
  generalize H1 = H at hP hS ⊢
  have hP : va_P (dC, dI) vwCl (rt_xw h0 a1 a2 k1 k2 f g (nI en) ret cnt per cng pnd msk sr sav tkn) H := hP
  have hD : va_D A (rt_xw h0 a1 a2 k1 k2 f g (nI en) ret cnt per cng pnd msk sr sav tkn) := hD
  refine lv_if_ne (tgt := 12) hx hb dX0_distanceToLines_5 (by decide) (fun c_5 => ?_) (fun c_5 => ?_)
  · refine lv_iconst (v := 0) hx hb dX0_distanceToLines_12 (by decide) ?_
    refine lv_istore_n (lv' := [(1, .int 0), (0, .ref h0)]) hx hb dX0_distanceToLines_13 rfl hl (by decide) rfl (fun ls hl => ?_)
    refine lp_X_dl (f := f) (g := g) (ret := ret) (msk := msk) hx hb hts hown hml hA (Nat.le_of_ble_eq_true rfl) (Nat.le_of_ble_eq_true rfl) hK h32 (fun H locs ls hP hD hS => ?_) (fun h73 H locs ls hP hD hS => ?_) en 0 (by omega) rfl _ _ ls hP hD hS (lv_sub hl [1, 0] rfl)
    · exact W.lret (v := rt_pdl f g ret msk en 0) hx hb hr (fun t ht hW => ⟨⟨rt_pdl f g ret msk en 0, (), rfl, by unfold rt_dl; rw [if_neg (fun h => c_5 (hw_2.mpr h))], by rw [ht]; exact hP, va_K.moved hW.alike hK, hD⟩, hS.F ht⟩) hS.2.2 dX0_distanceToLines_66
    · refine lv_ldc2 (v := 1099511627776) hx hb hown (hts (.constantLong RX0 94 1099511627776) (by decide +kernel)) dX0_distanceToLines_73 ?_
      exact W.lret (v := 1099511627776) hx hb hr (fun t ht hW => ⟨⟨1099511627776, (), rfl, by unfold rt_dl; rw [if_neg (fun h => c_5 (hw_2.mpr h))]; exact h73.symm, by rw [ht]; exact hP, va_K.moved hW.alike hK, hD⟩, hS.F ht⟩) hS.2.2 dX0_distanceToLines_76
  · refine lv_ldc2 (v := 1099511627776) hx hb hown (hts (.constantLong RX0 94 1099511627776) (by decide +kernel)) dX0_distanceToLines_8 ?_
    exact W.lret (v := 1099511627776) hx hb hr (fun t ht hW => ⟨⟨1099511627776, (), rfl, by unfold rt_dl; rw [if_pos (hw_2.mp c_5)], by rw [ht]; exact hP, va_K.moved hW.alike hK, hD⟩, hS.F ht⟩) hS.2.2 dX0_distanceToLines_11
end
section
set_option maxHeartbeats 4000000 in
set_option maxRecDepth 100000 in
theorem c_X_distanceToInterrupt (l : Launch) (dC : Nat → ClassId) (dI : Nat → Nat → Nat) (h0 a1 a2 sz : Nat) (k1 k2 : ClassId) (f g : Nat → Int32) (ent ret cnt per cng pnd msk sr sav tkn : Int32) (en : Nat) (he : ent = nI en) (h32 : en ≤ 32) :
    Met l yX0_distanceToInterrupt wsX0_distanceToInterrupt ({ frames := 2, cells := 0, slots := 0, locals := 43 }) (va_Pc [.ref h0] (rt_pre dC dI (rt_xw h0 a1 a2 k1 k2 f g ent ret cnt per cng pnd msk sr sav tkn) [(k1, .int), (k2, .int)] sz)) (va_Ql (fun (v : Int64) (u : Unit) => v = rt_dst f g en ret cnt per cng pnd msk sr) (rt_post dC dI [(k1, .int), (k2, .int)] (va_A (rt_xw h0 a1 a2 k1 k2 f g ent ret cnt per cng pnd msk sr sav tkn) sz) (fun (u : Unit) => rt_xw h0 a1 a2 k1 k2 f g ent ret cnt per cng pnd msk sr sav tkn)) (va_A (rt_xw h0 a1 a2 k1 k2 f g ent ret cnt per cng pnd msk sr sav tkn) sz)) 0 0 (va_A (rt_xw h0 a1 a2 k1 k2 f g ent ret cnt per cng pnd msk sr sav tkn) sz) := by
  subst he
  refine Met.ofW (cc := cX0_distanceToInterrupt) (maxL := 1) (ret := (some .long)) (by decide) rfl ?_
  intro p e0 s m args below meth c s₁ B hml hv
  obtain ⟨rfl, hsz, hP, hK, hD0⟩ := hv
  have hx := B.exec
  have hb := B.bytes
  have hr := B.returns
  have hts := atoms_spec (ws := wsX0_distanceToInterrupt) B.pre
  have hown : s.vm.findClass RX0 = some m.cls := findClass_of_methodNamed B.named
  have hlocks := B.notSynchronized
  subst hsz
  have hD := hD0.self (sz := s.heap.size)
  generalize hAe : va_A (rt_xw h0 a1 a2 k1 k2 f g (nI en) ret cnt per cng pnd msk sr sav tkn) s.heap.size = A at hD ⊢
  have hA : ∀ q : Nat, s.heap.size ≤ q → A q := fun q h => by rw [← hAe]; exact Or.inr h
  have hS : va_S A s.heap s.heap [] := va_S.rf
  have hP : va_P (dC, dI) vwCl (rt_xw h0 a1 a2 k1 k2 f g (nI en) ret cnt per cng pnd msk sr sav tkn) s.heap := hP
  have hl := lv_entry ([.ref h0]) (n := 1) (Nat.le_of_ble_eq_true rfl)
  rw [lg_entry_eq]
  generalize (lg_sl ([.ref h0]) ++ List.replicate (1 - (lg_sl ([.ref h0])).length) Slot.unset).toArray = ls at hl ⊢
  have hl : lv_has ls 1 [(0, .ref h0)] := hl
  refine lv_aload_n hx hb dX0_distanceToInterrupt_0 rfl (lv_at hl 0 rfl) ?_
  have hFc := va_free (wc := rt_xw h0 a1 a2 k1 k2 f g (nI en) ret cnt per cng pnd msk sr sav tkn) hD hS hA [0, 1, 2] rfl
  refine va_calli (va_runV (As := []) (rest := []) ⟨hx, hb, hml, hown, hts⟩ (c_X_interruptDue l dC dI h0 a1 a2 s.heap.size k1 k2 f g (nI en) ret cnt per cng pnd msk sr sav tkn en rfl h32) (cwV 0 hts gX0_distanceToInterrupt_X0_interruptDue rfl rfl rfl (by decide +kernel) ⟨Nat.le_of_ble_eq_true rfl, Nat.le_of_ble_eq_true rfl⟩) ⟨fun a U g mk q => by obtain ⟨q0, q1, qP, qK, qD⟩ := q; exact ⟨q0, q1, qP, va_K.moved (u := U) (U := U.calling g mk a) (Vm.Alike.refl U.vm) qK, qD⟩, va_recv hK hP (ci := 0) (q0 := 0) rfl rfl, fun U hU hW => ⟨rfl, by rw [hU], by rw [hU]; exact hP, va_K.moved hW.alike hK, hD.weaken (fun _ _ _ _ => trivial)⟩⟩ rfl rfl hl.1 rfl (lv_room (Nat.le_of_ble_eq_true rfl)) dX0_distanceToInterrupt_1 ⟨Nat.zero_le _, Nat.zero_le _⟩) hS (fun q _ h => hFc q h) hFc (fun r_1 u t H1 locs ht hvm hw_1 hB hz1 hk1 hS => ?_)
  obtain ⟨hP1, hK1, hD1⟩ := hB
  rw [ht] at hP1
  try dsimp only at hw_1 hP1 hD1
  obtain ⟨hP, hD⟩ := va_join (wr := []) (w1 := rt_xw h0 a1 a2 k1 k2 f g (nI en) ret cnt per cng pnd msk sr sav tkn) hP hD [0, 1, 2] [] rfl rfl (by decide) (by decide) hk1 hFc hP1 hD1
  generalize H1 = H at hP hS ⊢
  have hP : va_P (dC, dI) vwCl (rt_xw h0 a1 a2 k1 k2 f g (nI en) ret cnt per cng pnd msk sr sav tkn) H := hP
  have hD : va_D A (rt_xw h0 a1 a2 k1 k2 f g (nI en) ret cnt per cng pnd msk sr sav tkn) := hD
  refine lv_if_eq (tgt := 9) hx hb dX0_distanceToInterrupt_4 (by decide) (fun c_4 => ?_) (fun c_4 => ?_)
  · refine lv_aload_n hx hb dX0_distanceToInterrupt_9 rfl (lv_at hl 0 rfl) ?_
    have hFc := va_free (wc := rt_xw h0 a1 a2 k1 k2 f g (nI en) ret cnt per cng pnd msk sr sav tkn) hD hS hA [0, 1, 2] rfl
    refine va_calll (va_runV (As := []) (rest := []) ⟨hx, hb, hml, hown, hts⟩ (c_X_distanceToTimer l dC dI h0 a1 a2 H.size k1 k2 f g (nI en) ret cnt per cng pnd msk sr sav tkn) (cwV 0 hts gX0_distanceToInterrupt_X0_distanceToTimer rfl rfl rfl (by decide +kernel) ⟨Nat.le_of_ble_eq_true rfl, Nat.le_of_ble_eq_true rfl⟩) ⟨fun a U g mk q => by obtain ⟨q0, q1, qP, qK, qD⟩ := q; exact ⟨q0, q1, qP, va_K.moved (u := U) (U := U.calling g mk a) (Vm.Alike.refl U.vm) qK, qD⟩, va_recv hK hP (ci := 0) (q0 := 0) rfl rfl, fun U hU hW => ⟨rfl, by rw [hU], by rw [hU]; exact hP, va_K.moved hW.alike hK, hD.weaken (fun _ _ _ _ => trivial)⟩⟩ rfl rfl hl.1 rfl (lv_room (Nat.le_of_ble_eq_true rfl)) dX0_distanceToInterrupt_10 ⟨Nat.zero_le _, Nat.zero_le _⟩) hS (fun q _ h => hFc q h) hFc (fun r_10 u t H1 locs ht hvm hw_10 hB hz1 hk1 hS => ?_)
    obtain ⟨hP1, hK1, hD1⟩ := hB
    rw [ht] at hP1
    try dsimp only at hw_10 hP1 hD1
    obtain ⟨hP, hD⟩ := va_join (wr := []) (w1 := rt_xw h0 a1 a2 k1 k2 f g (nI en) ret cnt per cng pnd msk sr sav tkn) hP hD [0, 1, 2] [] rfl rfl (by decide) (by decide) hk1 hFc hP1 hD1
    generalize H1 = H at hP hS ⊢
    have hP : va_P (dC, dI) vwCl (rt_xw h0 a1 a2 k1 k2 f g (nI en) ret cnt per cng pnd msk sr sav tkn) H := hP
    have hD : va_D A (rt_xw h0 a1 a2 k1 k2 f g (nI en) ret cnt per cng pnd msk sr sav tkn) := hD
    refine lv_aload_n hx hb dX0_distanceToInterrupt_13 rfl (lv_at hl 0 rfl) ?_
    have hFc := va_free (wc := rt_xw h0 a1 a2 k1 k2 f g (nI en) ret cnt per cng pnd msk sr sav tkn) hD hS hA [0, 1, 2] rfl
    refine va_calll (va_runV (As := []) (rest := [.long r_10]) ⟨hx, hb, hml, hown, hts⟩ (c_X_distanceToLines l dC dI h0 a1 a2 H.size k1 k2 f g (nI en) ret cnt per cng pnd msk sr sav tkn en rfl h32) (cwV 0 hts gX0_distanceToInterrupt_X0_distanceToLines rfl rfl rfl (by decide +kernel) ⟨Nat.le_of_ble_eq_true rfl, Nat.le_of_ble_eq_true rfl⟩) ⟨fun a U g mk q => by obtain ⟨q0, q1, qP, qK, qD⟩ := q; exact ⟨q0, q1, qP, va_K.moved (u := U) (U := U.calling g mk a) (Vm.Alike.refl U.vm) qK, qD⟩, va_recv hK hP (ci := 0) (q0 := 0) rfl rfl, fun U hU hW => ⟨rfl, by rw [hU], by rw [hU]; exact hP, va_K.moved hW.alike hK, hD.weaken (fun _ _ _ _ => trivial)⟩⟩ rfl rfl hl.1 rfl (lv_room (Nat.le_of_ble_eq_true rfl)) dX0_distanceToInterrupt_14 ⟨Nat.zero_le _, Nat.zero_le _⟩) hS (fun q _ h => hFc q h) hFc (fun r_14 u t H1 locs ht hvm hw_14 hB hz1 hk1 hS => ?_)
    obtain ⟨hP1, hK1, hD1⟩ := hB
    rw [ht] at hP1
    try dsimp only at hw_14 hP1 hD1
    obtain ⟨hP, hD⟩ := va_join (wr := []) (w1 := rt_xw h0 a1 a2 k1 k2 f g (nI en) ret cnt per cng pnd msk sr sav tkn) hP hD [0, 1, 2] [] rfl rfl (by decide) (by decide) hk1 hFc hP1 hD1
    generalize H1 = H at hP hS ⊢
    have hP : va_P (dC, dI) vwCl (rt_xw h0 a1 a2 k1 k2 f g (nI en) ret cnt per cng pnd msk sr sav tkn) H := hP
    have hD : va_D A (rt_xw h0 a1 a2 k1 k2 f g (nI en) ret cnt per cng pnd msk sr sav tkn) := hD
    refine va_mmin_long hx hb (hml.trans hl.1.symm) hown (hts (.methodLink RX0 85 Lib.MathLoose.min_long.x) (by decide +kernel)) (hts (.static Lib.MathLoose.min_long.x) (by decide +kernel)) (hts (.initialized "java/lang/Math") (by decide +kernel)) (hts (.code Lib.MathLoose.min_long.x Lib.MathLoose.min_long.code 4 (some .long)) (by decide +kernel)) (Nat.le_of_ble_eq_true rfl) (Nat.le_of_ble_eq_true rfl) (Nat.zero_le _) (Nat.zero_le _) dX0_distanceToInterrupt_17 ?_
    exact W.lret (v := if r_14 < r_10 then r_14 else r_10) hx hb hr (fun t ht hW => ⟨⟨if r_14 < r_10 then r_14 else r_10, (), rfl, by unfold rt_dst; rw [if_pos (hw_1.symm.trans c_4), hw_10, hw_14]; rfl, by rw [ht]; exact hP, va_K.moved hW.alike hK, hD⟩, hS.F ht⟩) hS.2.2 dX0_distanceToInterrupt_20
  · refine lv_lconst (v := 0) hx hb dX0_distanceToInterrupt_7 (by decide) ?_
    exact W.lret (v := 0) hx hb hr (fun t ht hW => ⟨⟨0, (), rfl, by unfold rt_dst; rw [if_neg (fun h => c_4 (hw_1.trans h))], by rw [ht]; exact hP, va_K.moved hW.alike hK, hD⟩, hS.F ht⟩) hS.2.2 dX0_distanceToInterrupt_8
set_option maxHeartbeats 4000000 in
set_option maxRecDepth 100000 in
theorem c_X_advanceCount (l : Launch) (dC : Nat → ClassId) (dI : Nat → Nat → Nat) (h0 a1 a2 sz : Nat) (k1 k2 : ClassId) (f g : Nat → Int32) (ent ret cnt per cng pnd msk sr sav tkn : Int32) (p1 : Int32) :
    Met l yX0_advanceCount wsX0_advanceCount ({ frames := 1, cells := 0, slots := 0, locals := 22 }) (va_Pc [.ref h0, .int p1] (rt_pre dC dI (rt_xw h0 a1 a2 k1 k2 f g ent ret cnt per cng pnd msk sr sav tkn) [(k1, .int), (k2, .int)] sz)) (va_Qv (fun (u : Int32 × Int32) => u.1 = rt_ac per cnt p1 ∧ u.2 = rt_ap per cnt pnd p1) (rt_post dC dI [(k1, .int), (k2, .int)] (va_A (rt_xw h0 a1 a2 k1 k2 f g ent ret cnt per cng pnd msk sr sav tkn) sz) (fun (u : Int32 × Int32) => rt_xw h0 a1 a2 k1 k2 f g ent ret u.1 per cng u.2 msk sr sav tkn)) (va_A (rt_xw h0 a1 a2 k1 k2 f g ent ret cnt per cng pnd msk sr sav tkn) sz)) 0 0 (va_A (rt_xw h0 a1 a2 k1 k2 f g ent ret cnt per cng pnd msk sr sav tkn) sz) := by
  refine Met.ofW (cc := cX0_advanceCount) (maxL := 5) (ret := none) (by decide) rfl ?_
  intro p e0 s m args below meth c s₁ B hml hv
  obtain ⟨rfl, hsz, hP, hK, hD0⟩ := hv
  have hx := B.exec
  have hb := B.bytes
  have hr := B.returns
  have hts := atoms_spec (ws := wsX0_advanceCount) B.pre
  have hown : s.vm.findClass RX0 = some m.cls := findClass_of_methodNamed B.named
  have hlocks := B.notSynchronized
  subst hsz
  have hD := hD0.self (sz := s.heap.size)
  generalize hAe : va_A (rt_xw h0 a1 a2 k1 k2 f g ent ret cnt per cng pnd msk sr sav tkn) s.heap.size = A at hD ⊢
  have hA : ∀ q : Nat, s.heap.size ≤ q → A q := fun q h => by rw [← hAe]; exact Or.inr h
  have hS : va_S A s.heap s.heap [] := va_S.rf
  have hP : va_P (dC, dI) vwCl (rt_xw h0 a1 a2 k1 k2 f g ent ret cnt per cng pnd msk sr sav tkn) s.heap := hP
  have hl := lv_entry ([.ref h0, .int p1]) (n := 5) (Nat.le_of_ble_eq_true rfl)
  rw [lg_entry_eq]
  generalize (lg_sl ([.ref h0, .int p1]) ++ List.replicate (5 - (lg_sl ([.ref h0, .int p1])).length) Slot.unset).toArray = ls at hl ⊢
  have hl : lv_has ls 5 [(0, .ref h0), (1, .int p1)] := hl
  refine lv_aload_n hx hb dX0_advanceCount_0 rfl (lv_at hl 0 rfl) ?_
  have hFc := va_free (wc := rt_xw h0 a1 a2 k1 k2 f g ent ret cnt per cng pnd msk sr sav tkn) hD hS hA [0, 1, 2] rfl
  refine va_calll (va_runV (As := []) (rest := []) ⟨hx, hb, hml, hown, hts⟩ (c_X_distanceToPeriod l dC dI h0 a1 a2 s.heap.size k1 k2 f g ent ret cnt per cng pnd msk sr sav tkn) (cwV 0 hts gX0_advanceCount_X0_distanceToPeriod rfl rfl rfl (by decide +kernel) ⟨Nat.le_of_ble_eq_true rfl, Nat.le_of_ble_eq_true rfl⟩) ⟨fun a U g mk q => by obtain ⟨q0, q1, qP, qK, qD⟩ := q; exact ⟨q0, q1, qP, va_K.moved (u := U) (U := U.calling g mk a) (Vm.Alike.refl U.vm) qK, qD⟩, va_recv hK hP (ci := 0) (q0 := 0) rfl rfl, fun U hU hW => ⟨rfl, by rw [hU], by rw [hU]; exact hP, va_K.moved hW.alike hK, hD.weaken (fun _ _ _ _ => trivial)⟩⟩ rfl rfl hl.1 rfl (lv_room (Nat.le_of_ble_eq_true rfl)) dX0_advanceCount_1 ⟨Nat.zero_le _, Nat.zero_le _⟩) hS (fun q _ h => hFc q h) hFc (fun r_1 u t H1 locs ht hvm hw_1 hB hz1 hk1 hS => ?_)
  obtain ⟨hP1, hK1, hD1⟩ := hB
  rw [ht] at hP1
  try dsimp only at hw_1 hP1 hD1
  obtain ⟨hP, hD⟩ := va_join (wr := []) (w1 := rt_xw h0 a1 a2 k1 k2 f g ent ret cnt per cng pnd msk sr sav tkn) hP hD [0, 1, 2] [] rfl rfl (by decide) (by decide) hk1 hFc hP1 hD1
  generalize H1 = H at hP hS ⊢
  have hP : va_P (dC, dI) vwCl (rt_xw h0 a1 a2 k1 k2 f g ent ret cnt per cng pnd msk sr sav tkn) H := hP
  have hD : va_D A (rt_xw h0 a1 a2 k1 k2 f g ent ret cnt per cng pnd msk sr sav tkn) := hD
  refine lv_lstore_n (lv' := [(2, .long r_1), (0, .ref h0), (1, .int p1)]) hx hb dX0_advanceCount_4 rfl hl (by decide) rfl (fun ls hl => ?_)
  refine lv_iload_n hx hb dX0_advanceCount_5 rfl (lv_at hl 2 rfl) ?_
  refine lv_i2l (v := p1.toInt64) hx hb dX0_advanceCount_6 rfl ?_
  refine lv_lload_n hx hb dX0_advanceCount_7 rfl (lv_at hl 0 rfl) ?_
  refine W.lcmp hx hb dX0_advanceCount_8 ?_
  refine lv_if_ge (tgt := 23) hx hb dX0_advanceCount_9 (by decide) (fun c_9 => ?_) (fun c_9 => ?_)
  · refine lv_aload_n hx hb dX0_advanceCount_23 rfl (lv_at hl 1 rfl) ?_
    refine lv_iconst (v := 1) hx hb dX0_advanceCount_24 (by decide) ?_
    refine va_put (D := (dC, dI)) (ci := 0) (v := .int 1) (ty := .boolean) (C := RX0) (T := TX0) (N := 12) hx hb hts (fun _ h => List.mem_cons_of_mem _ (List.mem_append_right _ h)) tyX0 tyX0_ok nmX0 hown hK hP hD hS 0 rfl rfl 7 (by decide) (hts (.fieldLink RX0 62 "RetiredTimer" "pending" "Z") (by decide +kernel)) (fun _ h9 => h9) rfl (by decide +kernel) rfl rfl (Nat.le_of_ble_eq_true rfl) dX0_advanceCount_25 (fun H locs hP hD hS => ?_)
    have hP : va_P (dC, dI) vwCl (rt_xw h0 a1 a2 k1 k2 f g ent ret cnt per cng 1 msk sr sav tkn) H := hP
    have hD : va_D A (rt_xw h0 a1 a2 k1 k2 f g ent ret cnt per cng 1 msk sr sav tkn) := hD
    refine lv_iload_n hx hb dX0_advanceCount_28 rfl (lv_at hl 2 rfl) ?_
    refine lv_lload_n hx hb dX0_advanceCount_29 rfl (lv_at hl 0 rfl) ?_
    refine lv_l2i (v := r_1.toInt32) hx hb dX0_advanceCount_30 rfl ?_
    refine lv_isub hx hb dX0_advanceCount_31 ?_
    refine lv_istore (lv' := [(4, .int (p1 - r_1.toInt32)), (2, .long r_1), (0, .ref h0), (1, .int p1)]) hx hb dX0_advanceCount_32 hl (by decide) rfl (fun ls hl => ?_)
    refine lv_aload_n hx hb dX0_advanceCount_34 rfl (lv_at hl 2 rfl) ?_
    refine lv_aload_n hx hb dX0_advanceCount_35 rfl (lv_at hl 2 rfl) ?_
    refine va_get (D := (dC, dI)) (ci := 0) (v := .int per) (C := RX0) (T := TX0) (N := 12) hx hb hts (fun _ h => List.mem_cons_of_mem _ (List.mem_append_right _ h)) hown hK hP 0 rfl rfl 5 (by decide) (hts (.fieldLink RX0 55 "RetiredTimer" "period" "I") (by decide +kernel)) (fun _ h9 => h9) rfl dX0_advanceCount_36 ?_
    refine lv_if_ne (tgt := 47) hx hb dX0_advanceCount_39 (by decide) (fun c_39 => ?_) (fun c_39 => ?_)
    · refine lv_iload hx hb dX0_advanceCount_47 (lv_at hl 0 rfl) ?_
      refine lv_aload_n hx hb dX0_advanceCount_49 rfl (lv_at hl 2 rfl) ?_
      refine va_get (D := (dC, dI)) (ci := 0) (v := .int per) (C := RX0) (T := TX0) (N := 12) hx hb hts (fun _ h => List.mem_cons_of_mem _ (List.mem_append_right _ h)) hown hK hP 0 rfl rfl 5 (by decide) (hts (.fieldLink RX0 55 "RetiredTimer" "period" "I") (by decide +kernel)) (fun _ h9 => h9) rfl dX0_advanceCount_50 ?_
      refine lv_irem hx hb dX0_advanceCount_53 c_39 ?_
      refine va_put (D := (dC, dI)) (ci := 0) (v := .int ((p1 - r_1.toInt32) - (p1 - r_1.toInt32) / per * per)) (ty := .int) (C := RX0) (T := TX0) (N := 12) hx hb hts (fun _ h => List.mem_cons_of_mem _ (List.mem_append_right _ h)) tyX0 tyX0_ok nmX0 hown hK hP hD hS 0 rfl rfl 4 (by decide) (hts (.fieldLink RX0 65 "RetiredTimer" "count" "I") (by decide +kernel)) (fun _ h9 => h9) rfl (by decide +kernel) rfl rfl (Nat.le_of_ble_eq_true rfl) dX0_advanceCount_54 (fun H locs hP hD hS => ?_)
      have hP : va_P (dC, dI) vwCl (rt_xw h0 a1 a2 k1 k2 f g ent ret ((p1 - r_1.toInt32) - (p1 - r_1.toInt32) / per * per) per cng 1 msk sr sav tkn) H := hP
      have hD : va_D A (rt_xw h0 a1 a2 k1 k2 f g ent ret ((p1 - r_1.toInt32) - (p1 - r_1.toInt32) / per * per) per cng 1 msk sr sav tkn) := hD
      have hge : ¬ p1.toInt64 < rt_per per cnt := by rw [← hw_1]; exact rt_geL ((lg_cmp_ge _ _).mp c_9)
      exact W.vret hx hb hr (fun t ht hW => ⟨⟨((p1 - r_1.toInt32) - (p1 - r_1.toInt32) / per * per, 1), rfl, ⟨by unfold rt_ac; rw [if_neg hge, if_neg c_39, ← hw_1], by unfold rt_ap; rw [if_neg hge]⟩, by rw [ht]; exact hP, va_K.moved hW.alike hK, hD⟩, hS.F ht⟩) hS.2.2 dX0_advanceCount_57
    · refine lv_iload hx hb dX0_advanceCount_42 (lv_at hl 0 rfl) ?_
      refine lv_goto (tgt := 54) hx hb dX0_advanceCount_44 (by decide) ?_
      refine va_put (D := (dC, dI)) (ci := 0) (v := .int (p1 - r_1.toInt32)) (ty := .int) (C := RX0) (T := TX0) (N := 12) hx hb hts (fun _ h => List.mem_cons_of_mem _ (List.mem_append_right _ h)) tyX0 tyX0_ok nmX0 hown hK hP hD hS 0 rfl rfl 4 (by decide) (hts (.fieldLink RX0 65 "RetiredTimer" "count" "I") (by decide +kernel)) (fun _ h9 => h9) rfl (by decide +kernel) rfl rfl (Nat.le_of_ble_eq_true rfl) dX0_advanceCount_54 (fun H locs hP hD hS => ?_)
      have hP : va_P (dC, dI) vwCl (rt_xw h0 a1 a2 k1 k2 f g ent ret (p1 - r_1.toInt32) per cng 1 msk sr sav tkn) H := hP
      have hD : va_D A (rt_xw h0 a1 a2 k1 k2 f g ent ret (p1 - r_1.toInt32) per cng 1 msk sr sav tkn) := hD
      have hge : ¬ p1.toInt64 < rt_per per cnt := by rw [← hw_1]; exact rt_geL ((lg_cmp_ge _ _).mp c_9)
      exact W.vret hx hb hr (fun t ht hW => ⟨⟨(p1 - r_1.toInt32, 1), rfl, ⟨by unfold rt_ac; rw [if_neg hge, if_pos c_39, ← hw_1], by unfold rt_ap; rw [if_neg hge]⟩, by rw [ht]; exact hP, va_K.moved hW.alike hK, hD⟩, hS.F ht⟩) hS.2.2 dX0_advanceCount_57
  · refine lv_aload_n hx hb dX0_advanceCount_12 rfl (lv_at hl 1 rfl) ?_
    refine lv_dup hx hb dX0_advanceCount_13 rfl ?_
    refine va_get (D := (dC, dI)) (ci := 0) (v := .int cnt) (C := RX0) (T := TX0) (N := 12) hx hb hts (fun _ h => List.mem_cons_of_mem _ (List.mem_append_right _ h)) hown hK hP 0 rfl rfl 4 (by decide) (hts (.fieldLink RX0 65 "RetiredTimer" "count" "I") (by decide +kernel)) (fun _ h9 => h9) rfl dX0_advanceCount_14 ?_
    refine lv_iload_n hx hb dX0_advanceCount_17 rfl (lv_at hl 2 rfl) ?_
    refine lv_iadd hx hb dX0_advanceCount_18 ?_
    refine va_put (D := (dC, dI)) (ci := 0) (v := .int (cnt + p1)) (ty := .int) (C := RX0) (T := TX0) (N := 12) hx hb hts (fun _ h => List.mem_cons_of_mem _ (List.mem_append_right _ h)) tyX0 tyX0_ok nmX0 hown hK hP hD hS 0 rfl rfl 4 (by decide) (hts (.fieldLink RX0 65 "RetiredTimer" "count" "I") (by decide +kernel)) (fun _ h9 => h9) rfl (by decide +kernel) rfl rfl (Nat.le_of_ble_eq_true rfl) dX0_advanceCount_19 (fun H locs hP hD hS => ?_)
    have hP : va_P (dC, dI) vwCl (rt_xw h0 a1 a2 k1 k2 f g ent ret (cnt + p1) per cng pnd msk sr sav tkn) H := hP
    have hD : va_D A (rt_xw h0 a1 a2 k1 k2 f g ent ret (cnt + p1) per cng pnd msk sr sav tkn) := hD
    have hlt : p1.toInt64 < rt_per per cnt := by rw [← hw_1]; exact rt_nleL (fun h => c_9 ((lg_cmp_ge _ _).mpr h))
    exact W.vret hx hb hr (fun t ht hW => ⟨⟨(cnt + p1, pnd), rfl, ⟨by unfold rt_ac; rw [if_pos hlt], by unfold rt_ap; rw [if_pos hlt]⟩, by rw [ht]; exact hP, va_K.moved hW.alike hK, hD⟩, hS.F ht⟩) hS.2.2 dX0_advanceCount_22
set_option maxHeartbeats 4000000 in
set_option maxRecDepth 100000 in
theorem c_X_advance (l : Launch) (dC : Nat → ClassId) (dI : Nat → Nat → Nat) (h0 a1 a2 sz : Nat) (k1 k2 : ClassId) (f g : Nat → Int32) (ent ret cnt per cng pnd msk sr sav tkn : Int32) (p1 : Int32) :
    Met l yX0_advance wsX0_advance ({ frames := 2, cells := 0, slots := 0, locals := 46 }) (va_Pc [.ref h0, .int p1] (rt_pre dC dI (rt_xw h0 a1 a2 k1 k2 f g ent ret cnt per cng pnd msk sr sav tkn) [(k1, .int), (k2, .int)] sz)) (va_Qv (fun (u : Int32 × Int32 × Int32) => u.1 = ret + p1 ∧ u.2.1 = rt_cc cng per cnt p1 ∧ u.2.2 = rt_cp cng per cnt pnd p1) (rt_post dC dI [(k1, .int), (k2, .int)] (va_A (rt_xw h0 a1 a2 k1 k2 f g ent ret cnt per cng pnd msk sr sav tkn) sz) (fun (u : Int32 × Int32 × Int32) => rt_xw h0 a1 a2 k1 k2 f g ent u.1 u.2.1 per cng u.2.2 msk sr sav tkn)) (va_A (rt_xw h0 a1 a2 k1 k2 f g ent ret cnt per cng pnd msk sr sav tkn) sz)) 0 0 (va_A (rt_xw h0 a1 a2 k1 k2 f g ent ret cnt per cng pnd msk sr sav tkn) sz) := by
  refine Met.ofW (cc := cX0_advance) (maxL := 2) (ret := none) (by decide) rfl ?_
  intro p e0 s m args below meth c s₁ B hml hv
  obtain ⟨rfl, hsz, hP, hK, hD0⟩ := hv
  have hx := B.exec
  have hb := B.bytes
  have hr := B.returns
  have hts := atoms_spec (ws := wsX0_advance) B.pre
  have hown : s.vm.findClass RX0 = some m.cls := findClass_of_methodNamed B.named
  have hlocks := B.notSynchronized
  subst hsz
  have hD := hD0.self (sz := s.heap.size)
  generalize hAe : va_A (rt_xw h0 a1 a2 k1 k2 f g ent ret cnt per cng pnd msk sr sav tkn) s.heap.size = A at hD ⊢
  have hA : ∀ q : Nat, s.heap.size ≤ q → A q := fun q h => by rw [← hAe]; exact Or.inr h
  have hS : va_S A s.heap s.heap [] := va_S.rf
  have hP : va_P (dC, dI) vwCl (rt_xw h0 a1 a2 k1 k2 f g ent ret cnt per cng pnd msk sr sav tkn) s.heap := hP
  have hl := lv_entry ([.ref h0, .int p1]) (n := 2) (Nat.le_of_ble_eq_true rfl)
  rw [lg_entry_eq]
  generalize (lg_sl ([.ref h0, .int p1]) ++ List.replicate (2 - (lg_sl ([.ref h0, .int p1])).length) Slot.unset).toArray = ls at hl ⊢
  have hl : lv_has ls 2 [(0, .ref h0), (1, .int p1)] := hl
  refine lv_aload_n hx hb dX0_advance_0 rfl (lv_at hl 0 rfl) ?_
  refine lv_dup hx hb dX0_advance_1 rfl ?_
  refine va_get (D := (dC, dI)) (ci := 0) (v := .int ret) (C := RX0) (T := TX0) (N := 12) hx hb hts (fun _ h => List.mem_cons_of_mem _ (List.mem_append_right _ h)) hown hK hP 0 rfl rfl 3 (by decide) (hts (.fieldLink RX0 28 "RetiredTimer" "retired" "I") (by decide +kernel)) (fun _ h9 => h9) rfl dX0_advance_2 ?_
  refine lv_iload_n hx hb dX0_advance_5 rfl (lv_at hl 1 rfl) ?_
  refine lv_iadd hx hb dX0_advance_6 ?_
  refine va_put (D := (dC, dI)) (ci := 0) (v := .int (ret + p1)) (ty := .int) (C := RX0) (T := TX0) (N := 12) hx hb hts (fun _ h => List.mem_cons_of_mem _ (List.mem_append_right _ h)) tyX0 tyX0_ok nmX0 hown hK hP hD hS 0 rfl rfl 3 (by decide) (hts (.fieldLink RX0 28 "RetiredTimer" "retired" "I") (by decide +kernel)) (fun _ h9 => h9) rfl (by decide +kernel) rfl rfl (Nat.le_of_ble_eq_true rfl) dX0_advance_7 (fun H locs hP hD hS => ?_)
  have hP : va_P (dC, dI) vwCl (rt_xw h0 a1 a2 k1 k2 f g ent (ret + p1) cnt per cng pnd msk sr sav tkn) H := hP
  have hD : va_D A (rt_xw h0 a1 a2 k1 k2 f g ent (ret + p1) cnt per cng pnd msk sr sav tkn) := hD
  refine lv_aload_n hx hb dX0_advance_10 rfl (lv_at hl 0 rfl) ?_
  refine va_get (D := (dC, dI)) (ci := 0) (v := .int cng) (C := RX0) (T := TX0) (N := 12) hx hb hts (fun _ h => List.mem_cons_of_mem _ (List.mem_append_right _ h)) hown hK hP 0 rfl rfl 6 (by decide) (hts (.fieldLink RX0 58 "RetiredTimer" "counting" "Z") (by decide +kernel)) (fun _ h9 => h9) rfl dX0_advance_11 ?_
  refine lv_if_eq (tgt := 22) hx hb dX0_advance_14 (by decide) (fun c_14 => ?_) (fun c_14 => ?_)
  · exact W.vret hx hb hr (fun t ht hW => ⟨⟨(ret + p1, cnt, pnd), rfl, ⟨rfl, by unfold rt_cc; rw [if_pos c_14], by unfold rt_cp; rw [if_pos c_14]⟩, by rw [ht]; exact hP, va_K.moved hW.alike hK, hD⟩, hS.F ht⟩) hS.2.2 dX0_advance_22
  · refine lv_aload_n hx hb dX0_advance_17 rfl (lv_at hl 0 rfl) ?_
    refine lv_iload_n hx hb dX0_advance_18 rfl (lv_at hl 1 rfl) ?_
    have hFc := va_free (wc := rt_xw h0 a1 a2 k1 k2 f g ent (ret + p1) cnt per cng pnd msk sr sav tkn) hD hS hA [0, 1, 2] rfl
    refine va_callv (va_runV (As := [.int p1]) (rest := []) ⟨hx, hb, hml, hown, hts⟩ (c_X_advanceCount l dC dI h0 a1 a2 H.size k1 k2 f g ent (ret + p1) cnt per cng pnd msk sr sav tkn p1) (cwV 1 hts gX0_advance_X0_advanceCount rfl rfl rfl (by decide +kernel) ⟨Nat.le_of_ble_eq_true rfl, Nat.le_of_ble_eq_true rfl⟩) ⟨fun a U g mk q => by obtain ⟨q0, q1, qP, qK, qD⟩ := q; exact ⟨q0, q1, qP, va_K.moved (u := U) (U := U.calling g mk a) (Vm.Alike.refl U.vm) qK, qD⟩, va_recv hK hP (ci := 0) (q0 := 0) rfl rfl, fun U hU hW => ⟨rfl, by rw [hU], by rw [hU]; exact hP, va_K.moved hW.alike hK, hD.weaken (fun _ _ _ _ => trivial)⟩⟩ rfl rfl hl.1 rfl (lv_room (Nat.le_of_ble_eq_true rfl)) dX0_advance_19 ⟨Nat.zero_le _, Nat.zero_le _⟩) hS (fun q _ h => hFc q h) hFc (fun u t H1 locs ht hvm hw_19 hB hz1 hk1 hS => ?_)
    obtain ⟨cnt_19, pnd_19⟩ := u
    obtain ⟨hP1, hK1, hD1⟩ := hB
    rw [ht] at hP1
    try dsimp only at hw_19 hP1 hD1
    obtain ⟨hP, hD⟩ := va_join (wr := []) (w1 := rt_xw h0 a1 a2 k1 k2 f g ent (ret + p1) cnt_19 per cng pnd_19 msk sr sav tkn) hP hD [0, 1, 2] [] rfl rfl (by decide) (by decide) hk1 hFc hP1 hD1
    generalize H1 = H at hP hS ⊢
    have hP : va_P (dC, dI) vwCl (rt_xw h0 a1 a2 k1 k2 f g ent (ret + p1) cnt_19 per cng pnd_19 msk sr sav tkn) H := hP
    have hD : va_D A (rt_xw h0 a1 a2 k1 k2 f g ent (ret + p1) cnt_19 per cng pnd_19 msk sr sav tkn) := hD
    exact W.vret hx hb hr (fun t ht hW => ⟨⟨(ret + p1, cnt_19, pnd_19), rfl, ⟨rfl, by unfold rt_cc; rw [if_neg c_14]; exact hw_19.1, by unfold rt_cp; rw [if_neg c_14]; exact hw_19.2⟩, by rw [ht]; exact hP, va_K.moved hW.alike hK, hD⟩, hS.F ht⟩) hS.2.2 dX0_advance_22
end
section
set_option maxHeartbeats 4000000 in
set_option maxRecDepth 100000 in
theorem c_X_steps (l : Launch) (dC : Nat → ClassId) (dI : Nat → Nat → Nat) (h0 a1 a2 sz : Nat) (k1 k2 : ClassId) (f g : Nat → Int32) (ent ret cnt per cng pnd msk sr sav tkn : Int32) (p1 : Int32) (en rn pn : Nat) (he : ent = nI en) (h32 : en ≤ 32) (hrn : ret = nI rn) (hrl : rn < 2147483648) (hpn : per = nI pn) (hpl : pn < 268435456) (hf : ∀ j, j < en → ¬ f j < 0) :
    Met l yX0_steps wsX0_steps ({ frames := 3, cells := 0, slots := 0, locals := 67 }) (va_Pc [.ref h0, .int p1] (rt_pre dC dI (rt_xw h0 a1 a2 k1 k2 f g ent ret cnt per cng pnd msk sr sav tkn) [(k1, .int), (k2, .int)] sz)) (va_Qi (fun (v : Int32) (u : Int32 × Int32 × Int32) => v = rt_ans f g en rn cnt per cng pnd msk sr p1 ∧ u.1 = nI (rn + rt_tn f g en rn cnt per cng pnd msk sr p1) ∧ u.2.1 = rt_cc cng per cnt (nI (rt_tn f g en rn cnt per cng pnd msk sr p1)) ∧ u.2.2 = rt_cp cng per cnt pnd (nI (rt_tn f g en rn cnt per cng pnd msk sr p1))) (rt_post dC dI [(k1, .int), (k2, .int)] (va_A (rt_xw h0 a1 a2 k1 k2 f g ent ret cnt per cng pnd msk sr sav tkn) sz) (fun (u : Int32 × Int32 × Int32) => rt_xw h0 a1 a2 k1 k2 f g ent u.1 u.2.1 per cng u.2.2 msk sr sav tkn)) (va_A (rt_xw h0 a1 a2 k1 k2 f g ent ret cnt per cng pnd msk sr sav tkn) sz)) 0 0 (va_A (rt_xw h0 a1 a2 k1 k2 f g ent ret cnt per cng pnd msk sr sav tkn) sz) := by
  subst he
  subst hrn
  subst hpn
  refine Met.ofW (cc := cX0_steps) (maxL := 5) (ret := (some .int)) (by decide) rfl ?_
  intro p e0 s m args below meth c s₁ B hml hv
  obtain ⟨rfl, hsz, hP, hK, hD0⟩ := hv
  have hx := B.exec
  have hb := B.bytes
  have hr := B.returns
  have hts := atoms_spec (ws := wsX0_steps) B.pre
  have hown : s.vm.findClass RX0 = some m.cls := findClass_of_methodNamed B.named
  have hlocks := B.notSynchronized
  subst hsz
  have hD := hD0.self (sz := s.heap.size)
  generalize hAe : va_A (rt_xw h0 a1 a2 k1 k2 f g (nI en) (nI rn) cnt (nI pn) cng pnd msk sr sav tkn) s.heap.size = A at hD ⊢
  have hA : ∀ q : Nat, s.heap.size ≤ q → A q := fun q h => by rw [← hAe]; exact Or.inr h
  have hS : va_S A s.heap s.heap [] := va_S.rf
  have hP : va_P (dC, dI) vwCl (rt_xw h0 a1 a2 k1 k2 f g (nI en) (nI rn) cnt (nI pn) cng pnd msk sr sav tkn) s.heap := hP
  have hl := lv_entry ([.ref h0, .int p1]) (n := 5) (Nat.le_of_ble_eq_true rfl)
  rw [lg_entry_eq]
  generalize (lg_sl ([.ref h0, .int p1]) ++ List.replicate (5 - (lg_sl ([.ref h0, .int p1])).length) Slot.unset).toArray = ls at hl ⊢
  have hl : lv_has ls 5 [(0, .ref h0), (1, .int p1)] := hl
  refine lv_iload_n hx hb dX0_steps_0 rfl (lv_at hl 1 rfl) ?_
  refine lv_iconst (v := 1) hx hb dX0_steps_1 (by decide) ?_
  refine lv_icmp_lt (tgt := 23) hx hb dX0_steps_2 (by decide) (fun c_2 => ?_) (fun c_2 => ?_)
  · refine lv_iconst (v := -1) hx hb dX0_steps_23 (by decide) ?_
    exact W.iret (v := (-1)) hx hb hr (fun t ht hW => ⟨⟨(-1), ((nI rn), cnt, pnd), rfl, rt_refuse hpl (Or.inl c_2), by rw [ht]; exact hP, va_K.moved hW.alike hK, hD⟩, hS.F ht⟩) hS.2.2 dX0_steps_24
  · refine lv_iload_n hx hb dX0_steps_5 rfl (lv_at hl 1 rfl) ?_
    refine lv_sipush (v := 20000) hx hb dX0_steps_6 (by decide) ?_
    refine lv_icmp_gt (tgt := 23) hx hb dX0_steps_9 (by decide) (fun c_9 => ?_) (fun c_9 => ?_)
    · refine lv_iconst (v := -1) hx hb dX0_steps_23 (by decide) ?_
      exact W.iret (v := (-1)) hx hb hr (fun t ht hW => ⟨⟨(-1), ((nI rn), cnt, pnd), rfl, rt_refuse hpl (Or.inr (Or.inl c_9)), by rw [ht]; exact hP, va_K.moved hW.alike hK, hD⟩, hS.F ht⟩) hS.2.2 dX0_steps_24
    · refine lv_iload_n hx hb dX0_steps_12 rfl (lv_at hl 1 rfl) ?_
      refine lv_ldc (v := 2147483647) hx hb hown (hts (.constant RX0 27 2147483647) (by decide +kernel)) dX0_steps_13 ?_
      refine lv_aload_n hx hb dX0_steps_15 rfl (lv_at hl 0 rfl) ?_
      refine va_get (D := (dC, dI)) (ci := 0) (v := .int (nI rn)) (C := RX0) (T := TX0) (N := 12) hx hb hts (fun _ h => List.mem_cons_of_mem _ (List.mem_append_right _ h)) hown hK hP 0 rfl rfl 3 (by decide) (hts (.fieldLink RX0 28 "RetiredTimer" "retired" "I") (by decide +kernel)) (fun _ h9 => h9) rfl dX0_steps_16 ?_
      refine lv_isub hx hb dX0_steps_19 ?_
      refine lv_icmp_le (tgt := 25) hx hb dX0_steps_20 (by decide) (fun c_20 => ?_) (fun c_20 => ?_)
      · refine lv_aload_n hx hb dX0_steps_25 rfl (lv_at hl 0 rfl) ?_
        have hFc := va_free (wc := rt_xw h0 a1 a2 k1 k2 f g (nI en) (nI rn) cnt (nI pn) cng pnd msk sr sav tkn) hD hS hA [0, 1, 2] rfl
        refine va_calll (va_runV (As := []) (rest := []) ⟨hx, hb, hml, hown, hts⟩ (c_X_distanceToInterrupt l dC dI h0 a1 a2 s.heap.size k1 k2 f g (nI en) (nI rn) cnt (nI pn) cng pnd msk sr sav tkn en rfl h32) (cwV 0 hts gX0_steps_X0_distanceToInterrupt rfl rfl rfl (by decide +kernel) ⟨Nat.le_of_ble_eq_true rfl, Nat.le_of_ble_eq_true rfl⟩) ⟨fun a U g mk q => by obtain ⟨q0, q1, qP, qK, qD⟩ := q; exact ⟨q0, q1, qP, va_K.moved (u := U) (U := U.calling g mk a) (Vm.Alike.refl U.vm) qK, qD⟩, va_recv hK hP (ci := 0) (q0 := 0) rfl rfl, fun U hU hW => ⟨rfl, by rw [hU], by rw [hU]; exact hP, va_K.moved hW.alike hK, hD.weaken (fun _ _ _ _ => trivial)⟩⟩ rfl rfl hl.1 rfl (lv_room (Nat.le_of_ble_eq_true rfl)) dX0_steps_26 ⟨Nat.zero_le _, Nat.zero_le _⟩) hS (fun q _ h => hFc q h) hFc (fun r_26 u t H1 locs ht hvm hw_26 hB hz1 hk1 hS => ?_)
        obtain ⟨hP1, hK1, hD1⟩ := hB
        rw [ht] at hP1
        try dsimp only at hw_26 hP1 hD1
        obtain ⟨hP, hD⟩ := va_join (wr := []) (w1 := rt_xw h0 a1 a2 k1 k2 f g (nI en) (nI rn) cnt (nI pn) cng pnd msk sr sav tkn) hP hD [0, 1, 2] [] rfl rfl (by decide) (by decide) hk1 hFc hP1 hD1
        generalize H1 = H at hP hS ⊢
        have hP : va_P (dC, dI) vwCl (rt_xw h0 a1 a2 k1 k2 f g (nI en) (nI rn) cnt (nI pn) cng pnd msk sr sav tkn) H := hP
        have hD : va_D A (rt_xw h0 a1 a2 k1 k2 f g (nI en) (nI rn) cnt (nI pn) cng pnd msk sr sav tkn) := hD
        refine lv_lstore_n (lv' := [(2, .long r_26), (0, .ref h0), (1, .int p1)]) hx hb dX0_steps_29 rfl hl (by decide) rfl (fun ls hl => ?_)
        refine lv_lload_n hx hb dX0_steps_30 rfl (lv_at hl 0 rfl) ?_
        refine lv_iload_n hx hb dX0_steps_31 rfl (lv_at hl 2 rfl) ?_
        refine lv_i2l (v := p1.toInt64) hx hb dX0_steps_32 rfl ?_
        refine W.lcmp hx hb dX0_steps_33 ?_
        refine lv_if_ge (tgt := 42) hx hb dX0_steps_34 (by decide) (fun c_34 => ?_) (fun c_34 => ?_)
        · refine lv_iload_n hx hb dX0_steps_42 rfl (lv_at hl 2 rfl) ?_
          refine lv_istore (lv' := [(4, .int p1), (2, .long r_26), (0, .ref h0), (1, .int p1)]) hx hb dX0_steps_43 hl (by decide) rfl (fun ls hl => ?_)
          refine lv_aload_n hx hb dX0_steps_45 rfl (lv_at hl 2 rfl) ?_
          refine lv_iload hx hb dX0_steps_46 (lv_at hl 0 rfl) ?_
          have hFc := va_free (wc := rt_xw h0 a1 a2 k1 k2 f g (nI en) (nI rn) cnt (nI pn) cng pnd msk sr sav tkn) hD hS hA [0, 1, 2] rfl
          refine va_callv (va_runV (As := [.int p1]) (rest := []) ⟨hx, hb, hml, hown, hts⟩ (c_X_advance l dC dI h0 a1 a2 H.size k1 k2 f g (nI en) (nI rn) cnt (nI pn) cng pnd msk sr sav tkn p1) (cwV 1 hts gX0_steps_X0_advance rfl rfl rfl (by decide +kernel) ⟨Nat.le_of_ble_eq_true rfl, Nat.le_of_ble_eq_true rfl⟩) ⟨fun a U g mk q => by obtain ⟨q0, q1, qP, qK, qD⟩ := q; exact ⟨q0, q1, qP, va_K.moved (u := U) (U := U.calling g mk a) (Vm.Alike.refl U.vm) qK, qD⟩, va_recv hK hP (ci := 0) (q0 := 0) rfl rfl, fun U hU hW => ⟨rfl, by rw [hU], by rw [hU]; exact hP, va_K.moved hW.alike hK, hD.weaken (fun _ _ _ _ => trivial)⟩⟩ rfl rfl hl.1 rfl (lv_room (Nat.le_of_ble_eq_true rfl)) dX0_steps_48 ⟨Nat.zero_le _, Nat.zero_le _⟩) hS (fun q _ h => hFc q h) hFc (fun u t H1 locs ht hvm hw_48 hB hz1 hk1 hS => ?_)
          obtain ⟨ret_48, cnt_48, pnd_48⟩ := u
          obtain ⟨hP1, hK1, hD1⟩ := hB
          rw [ht] at hP1
          try dsimp only at hw_48 hP1 hD1
          obtain ⟨hP, hD⟩ := va_join (wr := []) (w1 := rt_xw h0 a1 a2 k1 k2 f g (nI en) ret_48 cnt_48 (nI pn) cng pnd_48 msk sr sav tkn) hP hD [0, 1, 2] [] rfl rfl (by decide) (by decide) hk1 hFc hP1 hD1
          generalize H1 = H at hP hS ⊢
          have hP : va_P (dC, dI) vwCl (rt_xw h0 a1 a2 k1 k2 f g (nI en) ret_48 cnt_48 (nI pn) cng pnd_48 msk sr sav tkn) H := hP
          have hD : va_D A (rt_xw h0 a1 a2 k1 k2 f g (nI en) ret_48 cnt_48 (nI pn) cng pnd_48 msk sr sav tkn) := hD
          refine lv_iload hx hb dX0_steps_51 (lv_at hl 0 rfl) ?_
          have hok : ¬ (p1 < 1 ∨ 20000 < p1 ∨ 2147483647 - nI rn < p1) := fun h => h.elim c_2 (fun h => h.elim c_9 (fun h => rt_nle2 c_20 h))
          have hac := rt_accept (g := g) (cnt := cnt) (cng := cng) (pnd := pnd) (msk := msk) (sr := sr) hrl hpl hf hok
          rw [← hw_26, if_neg (rt_geL ((lg_cmp_ge _ _).mp c_34))] at hac
          exact W.iret (v := p1) hx hb hr (fun t ht hW => ⟨⟨p1, (ret_48, cnt_48, pnd_48), rfl, ⟨hac.trans (if_neg hok).symm, hw_48.1.trans ((congrArg (nI rn + ·) hac).trans (nI_add _ _)), hw_48.2.1.trans (congrArg (rt_cc cng (nI pn) cnt) hac), hw_48.2.2.trans (congrArg (rt_cp cng (nI pn) cnt pnd) hac)⟩, by rw [ht]; exact hP, va_K.moved hW.alike hK, hD⟩, hS.F ht⟩) hS.2.2 dX0_steps_53
        · refine lv_lload_n hx hb dX0_steps_37 rfl (lv_at hl 0 rfl) ?_
          refine lv_l2i (v := r_26.toInt32) hx hb dX0_steps_38 rfl ?_
          refine lv_goto (tgt := 43) hx hb dX0_steps_39 (by decide) ?_
          refine lv_istore (lv' := [(4, .int r_26.toInt32), (2, .long r_26), (0, .ref h0), (1, .int p1)]) hx hb dX0_steps_43 hl (by decide) rfl (fun ls hl => ?_)
          refine lv_aload_n hx hb dX0_steps_45 rfl (lv_at hl 2 rfl) ?_
          refine lv_iload hx hb dX0_steps_46 (lv_at hl 0 rfl) ?_
          have hFc := va_free (wc := rt_xw h0 a1 a2 k1 k2 f g (nI en) (nI rn) cnt (nI pn) cng pnd msk sr sav tkn) hD hS hA [0, 1, 2] rfl
          refine va_callv (va_runV (As := [.int r_26.toInt32]) (rest := []) ⟨hx, hb, hml, hown, hts⟩ (c_X_advance l dC dI h0 a1 a2 H.size k1 k2 f g (nI en) (nI rn) cnt (nI pn) cng pnd msk sr sav tkn r_26.toInt32) (cwV 1 hts gX0_steps_X0_advance rfl rfl rfl (by decide +kernel) ⟨Nat.le_of_ble_eq_true rfl, Nat.le_of_ble_eq_true rfl⟩) ⟨fun a U g mk q => by obtain ⟨q0, q1, qP, qK, qD⟩ := q; exact ⟨q0, q1, qP, va_K.moved (u := U) (U := U.calling g mk a) (Vm.Alike.refl U.vm) qK, qD⟩, va_recv hK hP (ci := 0) (q0 := 0) rfl rfl, fun U hU hW => ⟨rfl, by rw [hU], by rw [hU]; exact hP, va_K.moved hW.alike hK, hD.weaken (fun _ _ _ _ => trivial)⟩⟩ rfl rfl hl.1 rfl (lv_room (Nat.le_of_ble_eq_true rfl)) dX0_steps_48 ⟨Nat.zero_le _, Nat.zero_le _⟩) hS (fun q _ h => hFc q h) hFc (fun u t H1 locs ht hvm hw_48 hB hz1 hk1 hS => ?_)
          obtain ⟨ret_48, cnt_48, pnd_48⟩ := u
          obtain ⟨hP1, hK1, hD1⟩ := hB
          rw [ht] at hP1
          try dsimp only at hw_48 hP1 hD1
          obtain ⟨hP, hD⟩ := va_join (wr := []) (w1 := rt_xw h0 a1 a2 k1 k2 f g (nI en) ret_48 cnt_48 (nI pn) cng pnd_48 msk sr sav tkn) hP hD [0, 1, 2] [] rfl rfl (by decide) (by decide) hk1 hFc hP1 hD1
          generalize H1 = H at hP hS ⊢
          have hP : va_P (dC, dI) vwCl (rt_xw h0 a1 a2 k1 k2 f g (nI en) ret_48 cnt_48 (nI pn) cng pnd_48 msk sr sav tkn) H := hP
          have hD : va_D A (rt_xw h0 a1 a2 k1 k2 f g (nI en) ret_48 cnt_48 (nI pn) cng pnd_48 msk sr sav tkn) := hD
          refine lv_iload hx hb dX0_steps_51 (lv_at hl 0 rfl) ?_
          have hok : ¬ (p1 < 1 ∨ 20000 < p1 ∨ 2147483647 - nI rn < p1) := fun h => h.elim c_2 (fun h => h.elim c_9 (fun h => rt_nle2 c_20 h))
          have hac := rt_accept (g := g) (cnt := cnt) (cng := cng) (pnd := pnd) (msk := msk) (sr := sr) hrl hpl hf hok
          rw [← hw_26, if_pos (rt_nleL (fun h => c_34 ((lg_cmp_ge _ _).mpr h)))] at hac
          exact W.iret (v := r_26.toInt32) hx hb hr (fun t ht hW => ⟨⟨r_26.toInt32, (ret_48, cnt_48, pnd_48), rfl, ⟨hac.trans (if_neg hok).symm, hw_48.1.trans ((congrArg (nI rn + ·) hac).trans (nI_add _ _)), hw_48.2.1.trans (congrArg (rt_cc cng (nI pn) cnt) hac), hw_48.2.2.trans (congrArg (rt_cp cng (nI pn) cnt pnd) hac)⟩, by rw [ht]; exact hP, va_K.moved hW.alike hK, hD⟩, hS.F ht⟩) hS.2.2 dX0_steps_53
      · refine lv_iconst (v := -1) hx hb dX0_steps_23 (by decide) ?_
        exact W.iret (v := (-1)) hx hb hr (fun t ht hW => ⟨⟨(-1), ((nI rn), cnt, pnd), rfl, rt_refuse hpl (Or.inr (Or.inr (rt_nle c_20))), by rw [ht]; exact hP, va_K.moved hW.alike hK, hD⟩, hS.F ht⟩) hS.2.2 dX0_steps_24
set_option maxHeartbeats 4000000 in
set_option maxRecDepth 100000 in
theorem c_X_take (l : Launch) (dC : Nat → ClassId) (dI : Nat → Nat → Nat) (h0 a1 a2 sz : Nat) (k1 k2 : ClassId) (f g : Nat → Int32) (ent ret cnt per cng pnd msk sr sav tkn : Int32) (en : Nat) (he : ent = nI en) (h32 : en ≤ 32) :
    Met l yX0_take wsX0_take ({ frames := 2, cells := 0, slots := 0, locals := 43 }) (va_Pc [.ref h0] (rt_pre dC dI (rt_xw h0 a1 a2 k1 k2 f g ent ret cnt per cng pnd msk sr sav tkn) [(k1, .int), (k2, .int)] sz)) (va_Qi (fun (v : Int32) (u : Int32 × Int32 × Int32) => v = rt_due sr pnd (rt_pl f g ret en) msk ∧ u.1 = (if rt_due sr pnd (rt_pl f g ret en) msk = 0 then sr else (sr &&& 32) ||| 1) ∧ u.2.1 = (if rt_due sr pnd (rt_pl f g ret en) msk = 0 then sav else sr) ∧ u.2.2 = (if rt_due sr pnd (rt_pl f g ret en) msk = 0 then tkn else tkn + 1)) (rt_post dC dI [(k1, .int), (k2, .int)] (va_A (rt_xw h0 a1 a2 k1 k2 f g ent ret cnt per cng pnd msk sr sav tkn) sz) (fun (u : Int32 × Int32 × Int32) => rt_xw h0 a1 a2 k1 k2 f g ent ret cnt per cng pnd msk u.1 u.2.1 u.2.2)) (va_A (rt_xw h0 a1 a2 k1 k2 f g ent ret cnt per cng pnd msk sr sav tkn) sz)) 0 0 (va_A (rt_xw h0 a1 a2 k1 k2 f g ent ret cnt per cng pnd msk sr sav tkn) sz) := by
  subst he
  refine Met.ofW (cc := cX0_take) (maxL := 2) (ret := (some .int)) (by decide) rfl ?_
  intro p e0 s m args below meth c s₁ B hml hv
  obtain ⟨rfl, hsz, hP, hK, hD0⟩ := hv
  have hx := B.exec
  have hb := B.bytes
  have hr := B.returns
  have hts := atoms_spec (ws := wsX0_take) B.pre
  have hown : s.vm.findClass RX0 = some m.cls := findClass_of_methodNamed B.named
  have hlocks := B.notSynchronized
  subst hsz
  have hD := hD0.self (sz := s.heap.size)
  generalize hAe : va_A (rt_xw h0 a1 a2 k1 k2 f g (nI en) ret cnt per cng pnd msk sr sav tkn) s.heap.size = A at hD ⊢
  have hA : ∀ q : Nat, s.heap.size ≤ q → A q := fun q h => by rw [← hAe]; exact Or.inr h
  have hS : va_S A s.heap s.heap [] := va_S.rf
  have hP : va_P (dC, dI) vwCl (rt_xw h0 a1 a2 k1 k2 f g (nI en) ret cnt per cng pnd msk sr sav tkn) s.heap := hP
  have hl := lv_entry ([.ref h0]) (n := 2) (Nat.le_of_ble_eq_true rfl)
  rw [lg_entry_eq]
  generalize (lg_sl ([.ref h0]) ++ List.replicate (2 - (lg_sl ([.ref h0])).length) Slot.unset).toArray = ls at hl ⊢
  have hl : lv_has ls 2 [(0, .ref h0)] := hl
  refine lv_aload_n hx hb dX0_take_0 rfl (lv_at hl 0 rfl) ?_
  have hFc := va_free (wc := rt_xw h0 a1 a2 k1 k2 f g (nI en) ret cnt per cng pnd msk sr sav tkn) hD hS hA [0, 1, 2] rfl
  refine va_calli (va_runV (As := []) (rest := []) ⟨hx, hb, hml, hown, hts⟩ (c_X_interruptDue l dC dI h0 a1 a2 s.heap.size k1 k2 f g (nI en) ret cnt per cng pnd msk sr sav tkn en rfl h32) (cwV 0 hts gX0_take_X0_interruptDue rfl rfl rfl (by decide +kernel) ⟨Nat.le_of_ble_eq_true rfl, Nat.le_of_ble_eq_true rfl⟩) ⟨fun a U g mk q => by obtain ⟨q0, q1, qP, qK, qD⟩ := q; exact ⟨q0, q1, qP, va_K.moved (u := U) (U := U.calling g mk a) (Vm.Alike.refl U.vm) qK, qD⟩, va_recv hK hP (ci := 0) (q0 := 0) rfl rfl, fun U hU hW => ⟨rfl, by rw [hU], by rw [hU]; exact hP, va_K.moved hW.alike hK, hD.weaken (fun _ _ _ _ => trivial)⟩⟩ rfl rfl hl.1 rfl (lv_room (Nat.le_of_ble_eq_true rfl)) dX0_take_1 ⟨Nat.zero_le _, Nat.zero_le _⟩) hS (fun q _ h => hFc q h) hFc (fun r_1 u t H1 locs ht hvm hw_1 hB hz1 hk1 hS => ?_)
  obtain ⟨hP1, hK1, hD1⟩ := hB
  rw [ht] at hP1
  try dsimp only at hw_1 hP1 hD1
  obtain ⟨hP, hD⟩ := va_join (wr := []) (w1 := rt_xw h0 a1 a2 k1 k2 f g (nI en) ret cnt per cng pnd msk sr sav tkn) hP hD [0, 1, 2] [] rfl rfl (by decide) (by decide) hk1 hFc hP1 hD1
  generalize H1 = H at hP hS ⊢
  have hP : va_P (dC, dI) vwCl (rt_xw h0 a1 a2 k1 k2 f g (nI en) ret cnt per cng pnd msk sr sav tkn) H := hP
  have hD : va_D A (rt_xw h0 a1 a2 k1 k2 f g (nI en) ret cnt per cng pnd msk sr sav tkn) := hD
  refine lv_istore_n (lv' := [(1, .int r_1), (0, .ref h0)]) hx hb dX0_take_4 rfl hl (by decide) rfl (fun ls hl => ?_)
  refine lv_iload_n hx hb dX0_take_5 rfl (lv_at hl 0 rfl) ?_
  refine lv_if_eq (tgt := 40) hx hb dX0_take_6 (by decide) (fun c_6 => ?_) (fun c_6 => ?_)
  · refine lv_iload_n hx hb dX0_take_40 rfl (lv_at hl 0 rfl) ?_
    exact W.iret (v := r_1) hx hb hr (fun t ht hW => ⟨⟨r_1, (sr, sav, tkn), rfl, ⟨hw_1, by rw [if_pos (hw_1.symm.trans c_6)], by rw [if_pos (hw_1.symm.trans c_6)], by rw [if_pos (hw_1.symm.trans c_6)]⟩, by rw [ht]; exact hP, va_K.moved hW.alike hK, hD⟩, hS.F ht⟩) hS.2.2 dX0_take_41
  · refine lv_aload_n hx hb dX0_take_9 rfl (lv_at hl 1 rfl) ?_
    refine lv_aload_n hx hb dX0_take_10 rfl (lv_at hl 1 rfl) ?_
    refine va_get (D := (dC, dI)) (ci := 0) (v := .int sr) (C := RX0) (T := TX0) (N := 12) hx hb hts (fun _ h => List.mem_cons_of_mem _ (List.mem_append_right _ h)) hown hK hP 0 rfl rfl 9 (by decide) (hts (.fieldLink RX0 42 "RetiredTimer" "sr" "I") (by decide +kernel)) (fun _ h9 => h9) rfl dX0_take_11 ?_
    refine va_put (D := (dC, dI)) (ci := 0) (v := .int sr) (ty := .int) (C := RX0) (T := TX0) (N := 12) hx hb hts (fun _ h => List.mem_cons_of_mem _ (List.mem_append_right _ h)) tyX0 tyX0_ok nmX0 hown hK hP hD hS 0 rfl rfl 10 (by decide) (hts (.fieldLink RX0 45 "RetiredTimer" "saved" "I") (by decide +kernel)) (fun _ h9 => h9) rfl (by decide +kernel) rfl rfl (Nat.le_of_ble_eq_true rfl) dX0_take_14 (fun H locs hP hD hS => ?_)
    have hP : va_P (dC, dI) vwCl (rt_xw h0 a1 a2 k1 k2 f g (nI en) ret cnt per cng pnd msk sr sr tkn) H := hP
    have hD : va_D A (rt_xw h0 a1 a2 k1 k2 f g (nI en) ret cnt per cng pnd msk sr sr tkn) := hD
    refine lv_aload_n hx hb dX0_take_17 rfl (lv_at hl 1 rfl) ?_
    refine lv_aload_n hx hb dX0_take_18 rfl (lv_at hl 1 rfl) ?_
    refine va_get (D := (dC, dI)) (ci := 0) (v := .int sr) (C := RX0) (T := TX0) (N := 12) hx hb hts (fun _ h => List.mem_cons_of_mem _ (List.mem_append_right _ h)) hown hK hP 0 rfl rfl 9 (by decide) (hts (.fieldLink RX0 42 "RetiredTimer" "sr" "I") (by decide +kernel)) (fun _ h9 => h9) rfl dX0_take_19 ?_
    refine lv_bipush (v := 32) hx hb dX0_take_22 (by decide) ?_
    refine lv_iand hx hb dX0_take_24 ?_
    refine lv_iconst (v := 1) hx hb dX0_take_25 (by decide) ?_
    refine lv_ior hx hb dX0_take_26 ?_
    refine va_put (D := (dC, dI)) (ci := 0) (v := .int ((sr &&& 32) ||| 1)) (ty := .int) (C := RX0) (T := TX0) (N := 12) hx hb hts (fun _ h => List.mem_cons_of_mem _ (List.mem_append_right _ h)) tyX0 tyX0_ok nmX0 hown hK hP hD hS 0 rfl rfl 9 (by decide) (hts (.fieldLink RX0 42 "RetiredTimer" "sr" "I") (by decide +kernel)) (fun _ h9 => h9) rfl (by decide +kernel) rfl rfl (Nat.le_of_ble_eq_true rfl) dX0_take_27 (fun H locs hP hD hS => ?_)
    have hP : va_P (dC, dI) vwCl (rt_xw h0 a1 a2 k1 k2 f g (nI en) ret cnt per cng pnd msk ((sr &&& 32) ||| 1) sr tkn) H := hP
    have hD : va_D A (rt_xw h0 a1 a2 k1 k2 f g (nI en) ret cnt per cng pnd msk ((sr &&& 32) ||| 1) sr tkn) := hD
    refine lv_aload_n hx hb dX0_take_30 rfl (lv_at hl 1 rfl) ?_
    refine lv_dup hx hb dX0_take_31 rfl ?_
    refine va_get (D := (dC, dI)) (ci := 0) (v := .int tkn) (C := RX0) (T := TX0) (N := 12) hx hb hts (fun _ h => List.mem_cons_of_mem _ (List.mem_append_right _ h)) hown hK hP 0 rfl rfl 11 (by decide) (hts (.fieldLink RX0 48 "RetiredTimer" "taken" "I") (by decide +kernel)) (fun _ h9 => h9) rfl dX0_take_32 ?_
    refine lv_iconst (v := 1) hx hb dX0_take_35 (by decide) ?_
    refine lv_iadd hx hb dX0_take_36 ?_
    refine va_put (D := (dC, dI)) (ci := 0) (v := .int (tkn + 1)) (ty := .int) (C := RX0) (T := TX0) (N := 12) hx hb hts (fun _ h => List.mem_cons_of_mem _ (List.mem_append_right _ h)) tyX0 tyX0_ok nmX0 hown hK hP hD hS 0 rfl rfl 11 (by decide) (hts (.fieldLink RX0 48 "RetiredTimer" "taken" "I") (by decide +kernel)) (fun _ h9 => h9) rfl (by decide +kernel) rfl rfl (Nat.le_of_ble_eq_true rfl) dX0_take_37 (fun H locs hP hD hS => ?_)
    have hP : va_P (dC, dI) vwCl (rt_xw h0 a1 a2 k1 k2 f g (nI en) ret cnt per cng pnd msk ((sr &&& 32) ||| 1) sr (tkn + 1)) H := hP
    have hD : va_D A (rt_xw h0 a1 a2 k1 k2 f g (nI en) ret cnt per cng pnd msk ((sr &&& 32) ||| 1) sr (tkn + 1)) := hD
    refine lv_iload_n hx hb dX0_take_40 rfl (lv_at hl 0 rfl) ?_
    exact W.iret (v := r_1) hx hb hr (fun t ht hW => ⟨⟨r_1, ((sr &&& 32) ||| 1, sr, tkn + 1), rfl, ⟨hw_1, by rw [if_neg (fun h => c_6 (hw_1.trans h))], by rw [if_neg (fun h => c_6 (hw_1.trans h))], by rw [if_neg (fun h => c_6 (hw_1.trans h))]⟩, by rw [ht]; exact hP, va_K.moved hW.alike hK, hD⟩, hS.F ht⟩) hS.2.2 dX0_take_41
set_option maxHeartbeats 4000000 in
set_option maxRecDepth 100000 in
theorem c_X_until (l : Launch) (dC : Nat → ClassId) (dI : Nat → Nat → Nat) (h0 a1 a2 sz : Nat) (k1 k2 : ClassId) (f g : Nat → Int32) (ent ret cnt per cng pnd msk sr sav tkn : Int32) (en rn : Nat) (he : ent = nI en) (h32 : en ≤ 32) (hrn : ret = nI rn) :
    Met l yX0_until wsX0_until ({ frames := 3, cells := 0, slots := 0, locals := 63 }) (va_Pc [.ref h0] (rt_pre dC dI (rt_xw h0 a1 a2 k1 k2 f g ent ret cnt per cng pnd msk sr sav tkn) [(k1, .int), (k2, .int)] sz)) (va_Qi (fun (v : Int32) (u : Unit) => v = rt_un f g en rn cnt per cng pnd msk sr) (rt_post dC dI [(k1, .int), (k2, .int)] (va_A (rt_xw h0 a1 a2 k1 k2 f g ent ret cnt per cng pnd msk sr sav tkn) sz) (fun (u : Unit) => rt_xw h0 a1 a2 k1 k2 f g ent ret cnt per cng pnd msk sr sav tkn)) (va_A (rt_xw h0 a1 a2 k1 k2 f g ent ret cnt per cng pnd msk sr sav tkn) sz)) 0 0 (va_A (rt_xw h0 a1 a2 k1 k2 f g ent ret cnt per cng pnd msk sr sav tkn) sz) := by
  subst he
  subst hrn
  refine Met.ofW (cc := cX0_until) (maxL := 3) (ret := (some .int)) (by decide) rfl ?_
  intro p e0 s m args below meth c s₁ B hml hv
  obtain ⟨rfl, hsz, hP, hK, hD0⟩ := hv
  have hx := B.exec
  have hb := B.bytes
  have hr := B.returns
  have hts := atoms_spec (ws := wsX0_until) B.pre
  have hown : s.vm.findClass RX0 = some m.cls := findClass_of_methodNamed B.named
  have hlocks := B.notSynchronized
  subst hsz
  have hD := hD0.self (sz := s.heap.size)
  generalize hAe : va_A (rt_xw h0 a1 a2 k1 k2 f g (nI en) (nI rn) cnt per cng pnd msk sr sav tkn) s.heap.size = A at hD ⊢
  have hA : ∀ q : Nat, s.heap.size ≤ q → A q := fun q h => by rw [← hAe]; exact Or.inr h
  have hS : va_S A s.heap s.heap [] := va_S.rf
  have hP : va_P (dC, dI) vwCl (rt_xw h0 a1 a2 k1 k2 f g (nI en) (nI rn) cnt per cng pnd msk sr sav tkn) s.heap := hP
  have hl := lv_entry ([.ref h0]) (n := 3) (Nat.le_of_ble_eq_true rfl)
  rw [lg_entry_eq]
  generalize (lg_sl ([.ref h0]) ++ List.replicate (3 - (lg_sl ([.ref h0])).length) Slot.unset).toArray = ls at hl ⊢
  have hl : lv_has ls 3 [(0, .ref h0)] := hl
  refine lv_aload_n hx hb dX0_until_0 rfl (lv_at hl 0 rfl) ?_
  have hFc := va_free (wc := rt_xw h0 a1 a2 k1 k2 f g (nI en) (nI rn) cnt per cng pnd msk sr sav tkn) hD hS hA [0, 1, 2] rfl
  refine va_calll (va_runV (As := []) (rest := []) ⟨hx, hb, hml, hown, hts⟩ (c_X_distanceToInterrupt l dC dI h0 a1 a2 s.heap.size k1 k2 f g (nI en) (nI rn) cnt per cng pnd msk sr sav tkn en rfl h32) (cwV 0 hts gX0_until_X0_distanceToInterrupt rfl rfl rfl (by decide +kernel) ⟨Nat.le_of_ble_eq_true rfl, Nat.le_of_ble_eq_true rfl⟩) ⟨fun a U g mk q => by obtain ⟨q0, q1, qP, qK, qD⟩ := q; exact ⟨q0, q1, qP, va_K.moved (u := U) (U := U.calling g mk a) (Vm.Alike.refl U.vm) qK, qD⟩, va_recv hK hP (ci := 0) (q0 := 0) rfl rfl, fun U hU hW => ⟨rfl, by rw [hU], by rw [hU]; exact hP, va_K.moved hW.alike hK, hD.weaken (fun _ _ _ _ => trivial)⟩⟩ rfl rfl hl.1 rfl (lv_room (Nat.le_of_ble_eq_true rfl)) dX0_until_1 ⟨Nat.zero_le _, Nat.zero_le _⟩) hS (fun q _ h => hFc q h) hFc (fun r_1 u t H1 locs ht hvm hw_1 hB hz1 hk1 hS => ?_)
  obtain ⟨hP1, hK1, hD1⟩ := hB
  rw [ht] at hP1
  try dsimp only at hw_1 hP1 hD1
  obtain ⟨hP, hD⟩ := va_join (wr := []) (w1 := rt_xw h0 a1 a2 k1 k2 f g (nI en) (nI rn) cnt per cng pnd msk sr sav tkn) hP hD [0, 1, 2] [] rfl rfl (by decide) (by decide) hk1 hFc hP1 hD1
  generalize H1 = H at hP hS ⊢
  have hP : va_P (dC, dI) vwCl (rt_xw h0 a1 a2 k1 k2 f g (nI en) (nI rn) cnt per cng pnd msk sr sav tkn) H := hP
  have hD : va_D A (rt_xw h0 a1 a2 k1 k2 f g (nI en) (nI rn) cnt per cng pnd msk sr sav tkn) := hD
  refine lv_lstore_n (lv' := [(1, .long r_1), (0, .ref h0)]) hx hb dX0_until_4 rfl hl (by decide) rfl (fun ls hl => ?_)
  refine lv_lload_n hx hb dX0_until_5 rfl (lv_at hl 0 rfl) ?_
  refine lv_ldc (v := 2147483647) hx hb hown (hts (.constant RX0 27 2147483647) (by decide +kernel)) dX0_until_6 ?_
  refine lv_aload_n hx hb dX0_until_8 rfl (lv_at hl 1 rfl) ?_
  refine va_get (D := (dC, dI)) (ci := 0) (v := .int (nI rn)) (C := RX0) (T := TX0) (N := 12) hx hb hts (fun _ h => List.mem_cons_of_mem _ (List.mem_append_right _ h)) hown hK hP 0 rfl rfl 3 (by decide) (hts (.fieldLink RX0 28 "RetiredTimer" "retired" "I") (by decide +kernel)) (fun _ h9 => h9) rfl dX0_until_9 ?_
  refine lv_isub hx hb dX0_until_12 ?_
  refine lv_i2l (v := (2147483647 - (nI rn)).toInt64) hx hb dX0_until_13 rfl ?_
  refine W.lcmp hx hb dX0_until_14 ?_
  refine lv_if_gt (tgt := 23) hx hb dX0_until_15 (by decide) (fun c_15 => ?_) (fun c_15 => ?_)
  · refine lv_iconst (v := -1) hx hb dX0_until_23 (by decide) ?_
    exact W.iret (v := (-1)) hx hb hr (fun t ht hW => ⟨⟨(-1), (), rfl, by unfold rt_un; rw [← hw_1, if_neg (rt_ltL ((lg_cmp_gt _ _).mp c_15))], by rw [ht]; exact hP, va_K.moved hW.alike hK, hD⟩, hS.F ht⟩) hS.2.2 dX0_until_24
  · refine lv_lload_n hx hb dX0_until_18 rfl (lv_at hl 0 rfl) ?_
    refine lv_l2i (v := r_1.toInt32) hx hb dX0_until_19 rfl ?_
    refine lv_goto (tgt := 24) hx hb dX0_until_20 (by decide) ?_
    exact W.iret (v := r_1.toInt32) hx hb hr (fun t ht hW => ⟨⟨r_1.toInt32, (), rfl, by unfold rt_un; rw [← hw_1, if_pos (rt_nltL (fun h => c_15 ((lg_cmp_gt _ _).mpr h)))], by rw [ht]; exact hP, va_K.moved hW.alike hK, hD⟩, hS.F ht⟩) hS.2.2 dX0_until_24
set_option maxHeartbeats 4000000 in
set_option maxRecDepth 100000 in
theorem c_X_entry (l : Launch) (dC : Nat → ClassId) (dI : Nat → Nat → Nat) (h0 a1 a2 sz : Nat) (k1 k2 : ClassId) (f g : Nat → Int32) (ent ret cnt per cng pnd msk sr sav tkn : Int32) (p1 : Int32) (p2 : Int32) (en : Nat) (he : ent = nI en) (h32 : en ≤ 32) :
    Met l yX0_entry wsX0_entry ({ frames := 1, cells := 0, slots := 0, locals := 20 }) (va_Pc [.ref h0, .int p1, .int p2] (rt_pre dC dI (rt_xw h0 a1 a2 k1 k2 f g ent ret cnt per cng pnd msk sr sav tkn) [(k1, .int), (k2, .int)] sz)) (va_Qi (fun (v : Int32) (u : (Nat → Int32) × (Nat → Int32) × Int32) => (rt_ref f en p1 ∧ v = 0 ∧ u.1 = f ∧ u.2.1 = g ∧ u.2.2 = nI en) ∨ (¬ rt_ref f en p1 ∧ v = 1 ∧ u.1 = upd f en p1 ∧ u.2.1 = upd g en p2 ∧ u.2.2 = nI (en + 1))) (rt_post dC dI [(k1, .int), (k2, .int)] (va_A (rt_xw h0 a1 a2 k1 k2 f g ent ret cnt per cng pnd msk sr sav tkn) sz) (fun (u : (Nat → Int32) × (Nat → Int32) × Int32) => rt_xw h0 a1 a2 k1 k2 u.1 u.2.1 u.2.2 ret cnt per cng pnd msk sr sav tkn)) (va_A (rt_xw h0 a1 a2 k1 k2 f g ent ret cnt per cng pnd msk sr sav tkn) sz)) 0 0 (va_A (rt_xw h0 a1 a2 k1 k2 f g ent ret cnt per cng pnd msk sr sav tkn) sz) := by
  subst he
  refine Met.ofW (cc := cX0_entry) (maxL := 3) (ret := (some .boolean)) (by decide) rfl ?_
  intro p e0 s m args below meth c s₁ B hml hv
  obtain ⟨rfl, hsz, hP, hK, hD0⟩ := hv
  have hx := B.exec
  have hb := B.bytes
  have hr := B.returns
  have hts := atoms_spec (ws := wsX0_entry) B.pre
  have hown : s.vm.findClass RX0 = some m.cls := findClass_of_methodNamed B.named
  have hlocks := B.notSynchronized
  subst hsz
  have hD := hD0.self (sz := s.heap.size)
  generalize hAe : va_A (rt_xw h0 a1 a2 k1 k2 f g (nI en) ret cnt per cng pnd msk sr sav tkn) s.heap.size = A at hD ⊢
  have hA : ∀ q : Nat, s.heap.size ≤ q → A q := fun q h => by rw [← hAe]; exact Or.inr h
  have hS : va_S A s.heap s.heap [] := va_S.rf
  have hP : va_P (dC, dI) vwCl (rt_xw h0 a1 a2 k1 k2 f g (nI en) ret cnt per cng pnd msk sr sav tkn) s.heap := hP
  have hl := lv_entry ([.ref h0, .int p1, .int p2]) (n := 3) (Nat.le_of_ble_eq_true rfl)
  rw [lg_entry_eq]
  generalize (lg_sl ([.ref h0, .int p1, .int p2]) ++ List.replicate (3 - (lg_sl ([.ref h0, .int p1, .int p2])).length) Slot.unset).toArray = ls at hl ⊢
  have hl : lv_has ls 3 [(0, .ref h0), (1, .int p1), (2, .int p2)] := hl
  refine lv_aload_n hx hb dX0_entry_0 rfl (lv_at hl 0 rfl) ?_
  refine va_get (D := (dC, dI)) (ci := 0) (v := .int (nI en)) (C := RX0) (T := TX0) (N := 12) hx hb hts (fun _ h => List.mem_cons_of_mem _ (List.mem_append_right _ h)) hown hK hP 0 rfl rfl 2 (by decide) (hts (.fieldLink RX0 19 "RetiredTimer" "entries" "I") (by decide +kernel)) (fun _ h9 => h9) rfl dX0_entry_1 ?_
  refine lv_bipush (v := 32) hx hb dX0_entry_4 (by decide) ?_
  refine lv_icmp_ge (tgt := 17) hx hb dX0_entry_6 (by decide) (fun c_6 => ?_) (fun c_6 => ?_)
  · refine lv_iconst (v := 0) hx hb dX0_entry_17 (by decide) ?_
    exact W.zret (v := 0) hx hb hr rfl (fun t ht hW => ⟨⟨0, (f, g, (nI en)), rfl, Or.inl ⟨Or.inl (rt_full h32 c_6), rfl, rfl, rfl, rfl⟩, by rw [ht]; exact hP, va_K.moved hW.alike hK, hD⟩, hS.F ht⟩) hS.2.2 dX0_entry_18
  · refine lv_iload_n hx hb dX0_entry_9 rfl (lv_at hl 1 rfl) ?_
    refine lv_aload_n hx hb dX0_entry_10 rfl (lv_at hl 0 rfl) ?_
    have hFc := va_free (wc := rt_xw h0 a1 a2 k1 k2 f g (nI en) ret cnt per cng pnd msk sr sav tkn) hD hS hA [0, 1, 2] rfl
    refine va_calli (va_runV (As := []) (rest := [.int p1]) ⟨hx, hb, hml, hown, hts⟩ (c_X_lastEntryCount l dC dI h0 a1 a2 s.heap.size k1 k2 f g (nI en) ret cnt per cng pnd msk sr sav tkn en rfl h32) (cwV 0 hts gX0_entry_X0_lastEntryCount rfl rfl rfl (by decide +kernel) ⟨Nat.le_of_ble_eq_true rfl, Nat.le_of_ble_eq_true rfl⟩) ⟨fun a U g mk q => by obtain ⟨q0, q1, qP, qK, qD⟩ := q; exact ⟨q0, q1, qP, va_K.moved (u := U) (U := U.calling g mk a) (Vm.Alike.refl U.vm) qK, qD⟩, va_recv hK hP (ci := 0) (q0 := 0) rfl rfl, fun U hU hW => ⟨rfl, by rw [hU], by rw [hU]; exact hP, va_K.moved hW.alike hK, hD.weaken (fun _ _ _ _ => trivial)⟩⟩ rfl rfl hl.1 rfl (lv_room (Nat.le_of_ble_eq_true rfl)) dX0_entry_11 ⟨Nat.zero_le _, Nat.zero_le _⟩) hS (fun q _ h => hFc q h) hFc (fun r_11 u t H1 locs ht hvm hw_11 hB hz1 hk1 hS => ?_)
    obtain ⟨hP1, hK1, hD1⟩ := hB
    rw [ht] at hP1
    try dsimp only at hw_11 hP1 hD1
    obtain ⟨hP, hD⟩ := va_join (wr := []) (w1 := rt_xw h0 a1 a2 k1 k2 f g (nI en) ret cnt per cng pnd msk sr sav tkn) hP hD [0, 1, 2] [] rfl rfl (by decide) (by decide) hk1 hFc hP1 hD1
    generalize H1 = H at hP hS ⊢
    have hP : va_P (dC, dI) vwCl (rt_xw h0 a1 a2 k1 k2 f g (nI en) ret cnt per cng pnd msk sr sav tkn) H := hP
    have hD : va_D A (rt_xw h0 a1 a2 k1 k2 f g (nI en) ret cnt per cng pnd msk sr sav tkn) := hD
    refine lv_icmp_gt (tgt := 19) hx hb dX0_entry_14 (by decide) (fun c_14 => ?_) (fun c_14 => ?_)
    · have hlt : en < 32 := rt_nfull h32 c_6
      refine lv_aload_n hx hb dX0_entry_19 rfl (lv_at hl 0 rfl) ?_
      refine va_get (D := (dC, dI)) (ci := 0) (v := .ref a1) (C := RX0) (T := TX0) (N := 12) hx hb hts (fun _ h => List.mem_cons_of_mem _ (List.mem_append_right _ h)) hown hK hP 0 rfl rfl 0 (by decide) (hts (.fieldLink RX0 9 "RetiredTimer" "entryCounts" "[I") (by decide +kernel)) (fun _ h9 => h9) rfl dX0_entry_20 ?_
      refine lv_aload_n hx hb dX0_entry_23 rfl (lv_at hl 0 rfl) ?_
      refine va_get (D := (dC, dI)) (ci := 0) (v := .int (nI en)) (C := RX0) (T := TX0) (N := 12) hx hb hts (fun _ h => List.mem_cons_of_mem _ (List.mem_append_right _ h)) hown hK hP 0 rfl rfl 2 (by decide) (hts (.fieldLink RX0 19 "RetiredTimer" "entries" "I") (by decide +kernel)) (fun _ h9 => h9) rfl dX0_entry_24 ?_
      refine lv_iload_n hx hb dX0_entry_27 rfl (lv_at hl 1 rfl) ?_
      refine va_iast hx hb hK hP hD hS 1 0 rfl rfl (vp_in_nI (N := 32) hlt (by decide)) dX0_entry_28 (fun H locs hP hD hS => ?_)
      have hP : va_P (dC, dI) vwCl (rt_xw h0 a1 a2 k1 k2 (upd f (nI en).toNatClampNeg p1) g (nI en) ret cnt per cng pnd msk sr sav tkn) H := hP
      have hD : va_D A (rt_xw h0 a1 a2 k1 k2 (upd f (nI en).toNatClampNeg p1) g (nI en) ret cnt per cng pnd msk sr sav tkn) := hD
      rw [show (nI en).toNatClampNeg = en from nI_clamp (by omega)] at hP hD
      refine lv_aload_n hx hb dX0_entry_29 rfl (lv_at hl 0 rfl) ?_
      refine va_get (D := (dC, dI)) (ci := 0) (v := .ref a2) (C := RX0) (T := TX0) (N := 12) hx hb hts (fun _ h => List.mem_cons_of_mem _ (List.mem_append_right _ h)) hown hK hP 0 rfl rfl 1 (by decide) (hts (.fieldLink RX0 13 "RetiredTimer" "entryLines" "[I") (by decide +kernel)) (fun _ h9 => h9) rfl dX0_entry_30 ?_
      refine lv_aload_n hx hb dX0_entry_33 rfl (lv_at hl 0 rfl) ?_
      refine va_get (D := (dC, dI)) (ci := 0) (v := .int (nI en)) (C := RX0) (T := TX0) (N := 12) hx hb hts (fun _ h => List.mem_cons_of_mem _ (List.mem_append_right _ h)) hown hK hP 0 rfl rfl 2 (by decide) (hts (.fieldLink RX0 19 "RetiredTimer" "entries" "I") (by decide +kernel)) (fun _ h9 => h9) rfl dX0_entry_34 ?_
      refine lv_iload_n hx hb dX0_entry_37 rfl (lv_at hl 2 rfl) ?_
      refine va_iast hx hb hK hP hD hS 2 1 rfl rfl (vp_in_nI (N := 32) hlt (by decide)) dX0_entry_38 (fun H locs hP hD hS => ?_)
      have hP : va_P (dC, dI) vwCl (rt_xw h0 a1 a2 k1 k2 (upd f en p1) (upd g (nI en).toNatClampNeg p2) (nI en) ret cnt per cng pnd msk sr sav tkn) H := hP
      have hD : va_D A (rt_xw h0 a1 a2 k1 k2 (upd f en p1) (upd g (nI en).toNatClampNeg p2) (nI en) ret cnt per cng pnd msk sr sav tkn) := hD
      rw [show (nI en).toNatClampNeg = en from nI_clamp (by omega)] at hP hD
      refine lv_aload_n hx hb dX0_entry_39 rfl (lv_at hl 0 rfl) ?_
      refine lv_dup hx hb dX0_entry_40 rfl ?_
      refine va_get (D := (dC, dI)) (ci := 0) (v := .int (nI en)) (C := RX0) (T := TX0) (N := 12) hx hb hts (fun _ h => List.mem_cons_of_mem _ (List.mem_append_right _ h)) hown hK hP 0 rfl rfl 2 (by decide) (hts (.fieldLink RX0 19 "RetiredTimer" "entries" "I") (by decide +kernel)) (fun _ h9 => h9) rfl dX0_entry_41 ?_
      refine lv_iconst (v := 1) hx hb dX0_entry_44 (by decide) ?_
      refine lv_iadd hx hb dX0_entry_45 ?_
      refine va_put (D := (dC, dI)) (ci := 0) (v := .int ((nI en) + 1)) (ty := .int) (C := RX0) (T := TX0) (N := 12) hx hb hts (fun _ h => List.mem_cons_of_mem _ (List.mem_append_right _ h)) tyX0 tyX0_ok nmX0 hown hK hP hD hS 0 rfl rfl 2 (by decide) (hts (.fieldLink RX0 19 "RetiredTimer" "entries" "I") (by decide +kernel)) (fun _ h9 => h9) rfl (by decide +kernel) rfl rfl (Nat.le_of_ble_eq_true rfl) dX0_entry_46 (fun H locs hP hD hS => ?_)
      have hP : va_P (dC, dI) vwCl (rt_xw h0 a1 a2 k1 k2 (upd f en p1) (upd g en p2) ((nI en) + 1) ret cnt per cng pnd msk sr sav tkn) H := hP
      have hD : va_D A (rt_xw h0 a1 a2 k1 k2 (upd f en p1) (upd g en p2) ((nI en) + 1) ret cnt per cng pnd msk sr sav tkn) := hD
      refine lv_iconst (v := 1) hx hb dX0_entry_49 (by decide) ?_
      exact W.zret (v := 1) hx hb hr rfl (fun t ht hW => ⟨⟨1, (upd f en p1, upd g en p2, (nI en) + 1), rfl, Or.inr ⟨fun h => h.elim (fun h => by omega) (fun h => rt_nle2 h (hw_11 ▸ c_14)), rfl, rfl, rfl, nI_1 en⟩, by rw [ht]; exact hP, va_K.moved hW.alike hK, hD⟩, hS.F ht⟩) hS.2.2 dX0_entry_50
    · refine lv_iconst (v := 0) hx hb dX0_entry_17 (by decide) ?_
      exact W.zret (v := 0) hx hb hr rfl (fun t ht hW => ⟨⟨0, (f, g, (nI en)), rfl, Or.inl ⟨Or.inr (hw_11 ▸ rt_nlt c_14), rfl, rfl, rfl, rfl⟩, by rw [ht]; exact hP, va_K.moved hW.alike hK, hD⟩, hS.F ht⟩) hS.2.2 dX0_entry_18
set_option maxHeartbeats 4000000 in
set_option maxRecDepth 100000 in
theorem c_X_entryOf (l : Launch) (dC : Nat → ClassId) (dI : Nat → Nat → Nat) (h0 a1 a2 sz : Nat) (k1 k2 : ClassId) (f g : Nat → Int32) (ent ret cnt per cng pnd msk sr sav tkn : Int32) (p1 : Int32) (p2 : Int32) (en : Nat) (he : ent = nI en) (h32 : en ≤ 32) :
    Met l yX0_entryOf wsX0_entryOf ({ frames := 0, cells := 0, slots := 0, locals := 0 }) (va_Pc [.ref h0, .int p1, .int p2] (rt_pre dC dI (rt_xw h0 a1 a2 k1 k2 f g ent ret cnt per cng pnd msk sr sav tkn) [(k1, .int), (k2, .int)] sz)) (va_Qi (fun (v : Int32) (u : Unit) => v = rt_eo f g en p1 p2) (rt_post dC dI [(k1, .int), (k2, .int)] (va_A (rt_xw h0 a1 a2 k1 k2 f g ent ret cnt per cng pnd msk sr sav tkn) sz) (fun (u : Unit) => rt_xw h0 a1 a2 k1 k2 f g ent ret cnt per cng pnd msk sr sav tkn)) (va_A (rt_xw h0 a1 a2 k1 k2 f g ent ret cnt per cng pnd msk sr sav tkn) sz)) 0 0 (va_A (rt_xw h0 a1 a2 k1 k2 f g ent ret cnt per cng pnd msk sr sav tkn) sz) := by
  subst he
  refine Met.ofW (cc := cX0_entryOf) (maxL := 3) (ret := (some .int)) (by decide) rfl ?_
  intro p e0 s m args below meth c s₁ B hml hv
  obtain ⟨rfl, hsz, hP, hK, hD0⟩ := hv
  have hx := B.exec
  have hb := B.bytes
  have hr := B.returns
  have hts := atoms_spec (ws := wsX0_entryOf) B.pre
  have hown : s.vm.findClass RX0 = some m.cls := findClass_of_methodNamed B.named
  have hlocks := B.notSynchronized
  subst hsz
  have hD := hD0.self (sz := s.heap.size)
  generalize hAe : va_A (rt_xw h0 a1 a2 k1 k2 f g (nI en) ret cnt per cng pnd msk sr sav tkn) s.heap.size = A at hD ⊢
  have hA : ∀ q : Nat, s.heap.size ≤ q → A q := fun q h => by rw [← hAe]; exact Or.inr h
  have hS : va_S A s.heap s.heap [] := va_S.rf
  have hP : va_P (dC, dI) vwCl (rt_xw h0 a1 a2 k1 k2 f g (nI en) ret cnt per cng pnd msk sr sav tkn) s.heap := hP
  have hl := lv_entry ([.ref h0, .int p1, .int p2]) (n := 3) (Nat.le_of_ble_eq_true rfl)
  rw [lg_entry_eq]
  generalize (lg_sl ([.ref h0, .int p1, .int p2]) ++ List.replicate (3 - (lg_sl ([.ref h0, .int p1, .int p2])).length) Slot.unset).toArray = ls at hl ⊢
  have hl : lv_has ls 3 [(0, .ref h0), (1, .int p1), (2, .int p2)] := hl
  refine lv_iload_n hx hb dX0_entryOf_0 rfl (lv_at hl 1 rfl) ?_
  refine lv_if_lt (tgt := 18) hx hb dX0_entryOf_1 (by decide) (fun c_1 => ?_) (fun c_1 => ?_)
  · refine lv_iconst (v := -1) hx hb dX0_entryOf_18 (by decide) ?_
    exact W.iret (v := (-1)) hx hb hr (fun t ht hW => ⟨⟨(-1), (), rfl, by unfold rt_eo; rw [if_pos (Or.inl c_1)], by rw [ht]; exact hP, va_K.moved hW.alike hK, hD⟩, hS.F ht⟩) hS.2.2 dX0_entryOf_19
  · refine lv_iload_n hx hb dX0_entryOf_4 rfl (lv_at hl 1 rfl) ?_
    refine lv_aload_n hx hb dX0_entryOf_5 rfl (lv_at hl 0 rfl) ?_
    refine va_get (D := (dC, dI)) (ci := 0) (v := .int (nI en)) (C := RX0) (T := TX0) (N := 12) hx hb hts (fun _ h => List.mem_cons_of_mem _ (List.mem_append_right _ h)) hown hK hP 0 rfl rfl 2 (by decide) (hts (.fieldLink RX0 19 "RetiredTimer" "entries" "I") (by decide +kernel)) (fun _ h9 => h9) rfl dX0_entryOf_6 ?_
    refine lv_icmp_ge (tgt := 18) hx hb dX0_entryOf_9 (by decide) (fun c_9 => ?_) (fun c_9 => ?_)
    · refine lv_iconst (v := -1) hx hb dX0_entryOf_18 (by decide) ?_
      exact W.iret (v := (-1)) hx hb hr (fun t ht hW => ⟨⟨(-1), (), rfl, by unfold rt_eo; rw [if_pos (Or.inr c_9)], by rw [ht]; exact hP, va_K.moved hW.alike hK, hD⟩, hS.F ht⟩) hS.2.2 dX0_entryOf_19
    · refine lv_iload_n hx hb dX0_entryOf_12 rfl (lv_at hl 1 rfl) ?_
      refine lv_bipush (v := 32) hx hb dX0_entryOf_13 (by decide) ?_
      refine lv_icmp_lt (tgt := 20) hx hb dX0_entryOf_15 (by decide) (fun c_15 => ?_) (fun c_15 => absurd (rt_lt32 h32 c_9) c_15)
      refine lv_iload_n hx hb dX0_entryOf_20 rfl (lv_at hl 2 rfl) ?_
      refine lv_if_eq (tgt := 33) hx hb dX0_entryOf_21 (by decide) (fun c_21 => ?_) (fun c_21 => ?_)
      · refine lv_aload_n hx hb dX0_entryOf_33 rfl (lv_at hl 0 rfl) ?_
        refine va_get (D := (dC, dI)) (ci := 0) (v := .ref a1) (C := RX0) (T := TX0) (N := 12) hx hb hts (fun _ h => List.mem_cons_of_mem _ (List.mem_append_right _ h)) hown hK hP 0 rfl rfl 0 (by decide) (hts (.fieldLink RX0 9 "RetiredTimer" "entryCounts" "[I") (by decide +kernel)) (fun _ h9 => h9) rfl dX0_entryOf_34 ?_
        refine lv_iload_n hx hb dX0_entryOf_37 rfl (lv_at hl 1 rfl) ?_
        refine va_iald hx hb hK hP 1 0 rfl rfl (rt_idx h32 c_1 c_9) dX0_entryOf_38 ?_
        exact W.iret (v := f p1.toNatClampNeg) hx hb hr (fun t ht hW => ⟨⟨f p1.toNatClampNeg, (), rfl, by unfold rt_eo; rw [if_neg (fun h => h.elim c_1 c_9), if_pos c_21], by rw [ht]; exact hP, va_K.moved hW.alike hK, hD⟩, hS.F ht⟩) hS.2.2 dX0_entryOf_39
      · refine lv_aload_n hx hb dX0_entryOf_24 rfl (lv_at hl 0 rfl) ?_
        refine va_get (D := (dC, dI)) (ci := 0) (v := .ref a2) (C := RX0) (T := TX0) (N := 12) hx hb hts (fun _ h => List.mem_cons_of_mem _ (List.mem_append_right _ h)) hown hK hP 0 rfl rfl 1 (by decide) (hts (.fieldLink RX0 13 "RetiredTimer" "entryLines" "[I") (by decide +kernel)) (fun _ h9 => h9) rfl dX0_entryOf_25 ?_
        refine lv_iload_n hx hb dX0_entryOf_28 rfl (lv_at hl 1 rfl) ?_
        refine va_iald hx hb hK hP 2 1 rfl rfl (rt_idx h32 c_1 c_9) dX0_entryOf_29 ?_
        refine lv_goto (tgt := 39) hx hb dX0_entryOf_30 (by decide) ?_
        exact W.iret (v := g p1.toNatClampNeg) hx hb hr (fun t ht hW => ⟨⟨g p1.toNatClampNeg, (), rfl, by unfold rt_eo; rw [if_neg (fun h => h.elim c_1 c_9), if_neg c_21], by rw [ht]; exact hP, va_K.moved hW.alike hK, hD⟩, hS.F ht⟩) hS.2.2 dX0_entryOf_39
end
section
set_option maxHeartbeats 4000000 in
set_option maxRecDepth 100000 in
theorem c_X_look (l : Launch) (dC : Nat → ClassId) (dI : Nat → Nat → Nat) (h0 a1 a2 sz : Nat) (k1 k2 : ClassId) (f g : Nat → Int32) (ent ret cnt per cng pnd msk sr sav tkn : Int32) (p1 : Int32) (en rn : Nat) (he : ent = nI en) (h32 : en ≤ 32) (hrn : ret = nI rn) :
    Met l yX0_look wsX0_look ({ frames := 2, cells := 0, slots := 0, locals := 43 }) (va_Pc [.ref h0, .int p1] (rt_pre dC dI (rt_xw h0 a1 a2 k1 k2 f g ent ret cnt per cng pnd msk sr sav tkn) [(k1, .int), (k2, .int)] sz)) (va_Qi (fun (v : Int32) (u : Unit) => (∃ j, j < 12 ∧ p1 = nI j ∧ v = rt_lk en rn cnt per cng pnd msk sr sav tkn (rt_pl f g ret en) j) ∨ ((p1 < 0 ∨ nI 12 ≤ p1) ∧ v = -1)) (rt_post dC dI [(k1, .int), (k2, .int)] (va_A (rt_xw h0 a1 a2 k1 k2 f g ent ret cnt per cng pnd msk sr sav tkn) sz) (fun (u : Unit) => rt_xw h0 a1 a2 k1 k2 f g ent ret cnt per cng pnd msk sr sav tkn)) (va_A (rt_xw h0 a1 a2 k1 k2 f g ent ret cnt per cng pnd msk sr sav tkn) sz)) 0 0 (va_A (rt_xw h0 a1 a2 k1 k2 f g ent ret cnt per cng pnd msk sr sav tkn) sz) := by
  subst he
  subst hrn
  refine Met.ofW (cc := cX0_look) (maxL := 2) (ret := (some .int)) (by decide) rfl ?_
  intro p e0 s m args below meth c s₁ B hml hv
  obtain ⟨rfl, hsz, hP, hK, hD0⟩ := hv
  have hx := B.exec
  have hb := B.bytes
  have hr := B.returns
  have hts := atoms_spec (ws := wsX0_look) B.pre
  have hown : s.vm.findClass RX0 = some m.cls := findClass_of_methodNamed B.named
  have hlocks := B.notSynchronized
  subst hsz
  have hD := hD0.self (sz := s.heap.size)
  generalize hAe : va_A (rt_xw h0 a1 a2 k1 k2 f g (nI en) (nI rn) cnt per cng pnd msk sr sav tkn) s.heap.size = A at hD ⊢
  have hA : ∀ q : Nat, s.heap.size ≤ q → A q := fun q h => by rw [← hAe]; exact Or.inr h
  have hS : va_S A s.heap s.heap [] := va_S.rf
  have hP : va_P (dC, dI) vwCl (rt_xw h0 a1 a2 k1 k2 f g (nI en) (nI rn) cnt per cng pnd msk sr sav tkn) s.heap := hP
  have hl := lv_entry ([.ref h0, .int p1]) (n := 2) (Nat.le_of_ble_eq_true rfl)
  rw [lg_entry_eq]
  generalize (lg_sl ([.ref h0, .int p1]) ++ List.replicate (2 - (lg_sl ([.ref h0, .int p1])).length) Slot.unset).toArray = ls at hl ⊢
  have hl : lv_has ls 2 [(0, .ref h0), (1, .int p1)] := hl
  refine lv_iload_n hx hb dX0_look_0 rfl (lv_at hl 1 rfl) ?_
  rcases pk_ix p1 (n := 12) (by decide) with hn | hn | ⟨j, hj, rfl⟩
  · refine lv_tableOut (tgt := 144) hx hb dX0_look_1 (rt_out (Or.inl hn)) (by decide) ?_
    refine lv_iconst (v := -1) hx hb dX0_look_144 (by decide) ?_
    exact W.iret (v := (-1)) hx hb hr (fun t ht hW => ⟨⟨(-1), (), rfl, Or.inr ⟨Or.inl hn, rfl⟩, by rw [ht]; exact hP, va_K.moved hW.alike hK, hD⟩, hS.F ht⟩) hS.2.2 dX0_look_145
  · refine lv_tableOut (tgt := 144) hx hb dX0_look_1 (rt_out (Or.inr hn)) (by decide) ?_
    refine lv_iconst (v := -1) hx hb dX0_look_144 (by decide) ?_
    exact W.iret (v := (-1)) hx hb hr (fun t ht hW => ⟨⟨(-1), (), rfl, Or.inr ⟨Or.inr hn, rfl⟩, by rw [ht]; exact hP, va_K.moved hW.alike hK, hD⟩, hS.F ht⟩) hS.2.2 dX0_look_145
  · rcases (show j = 0 ∨ j = 1 ∨ j = 2 ∨ j = 3 ∨ j = 4 ∨ j = 5 ∨ j = 6 ∨ j = 7 ∨ j = 8 ∨ j = 9 ∨ j = 10 ∨ j = 11 by omega) with rfl | rfl | rfl | rfl | rfl | rfl | rfl | rfl | rfl | rfl | rfl | rfl
    · refine lv_tableIn (off := 63) (tgt := 64) hx hb dX0_look_1 (by decide +kernel) (by decide +kernel) (by decide +kernel) (by decide) ?_
      refine lv_aload_n hx hb dX0_look_64 rfl (lv_at hl 0 rfl) ?_
      refine va_get (D := (dC, dI)) (ci := 0) (v := .int (nI rn)) (C := RX0) (T := TX0) (N := 12) hx hb hts (fun _ h => List.mem_cons_of_mem _ (List.mem_append_right _ h)) hown hK hP 0 rfl rfl 3 (by decide) (hts (.fieldLink RX0 28 "RetiredTimer" "retired" "I") (by decide +kernel)) (fun _ h9 => h9) rfl dX0_look_65 ?_
      exact W.iret (v := (nI rn)) hx hb hr (fun t ht hW => ⟨⟨(nI rn), (), rfl, Or.inl ⟨0, by decide, rfl, rfl⟩, by rw [ht]; exact hP, va_K.moved hW.alike hK, hD⟩, hS.F ht⟩) hS.2.2 dX0_look_68
    · refine lv_tableIn (off := 68) (tgt := 69) hx hb dX0_look_1 (by decide +kernel) (by decide +kernel) (by decide +kernel) (by decide) ?_
      refine lv_aload_n hx hb dX0_look_69 rfl (lv_at hl 0 rfl) ?_
      refine va_get (D := (dC, dI)) (ci := 0) (v := .int cnt) (C := RX0) (T := TX0) (N := 12) hx hb hts (fun _ h => List.mem_cons_of_mem _ (List.mem_append_right _ h)) hown hK hP 0 rfl rfl 4 (by decide) (hts (.fieldLink RX0 65 "RetiredTimer" "count" "I") (by decide +kernel)) (fun _ h9 => h9) rfl dX0_look_70 ?_
      exact W.iret (v := cnt) hx hb hr (fun t ht hW => ⟨⟨cnt, (), rfl, Or.inl ⟨1, by decide, rfl, rfl⟩, by rw [ht]; exact hP, va_K.moved hW.alike hK, hD⟩, hS.F ht⟩) hS.2.2 dX0_look_73
    · refine lv_tableIn (off := 73) (tgt := 74) hx hb dX0_look_1 (by decide +kernel) (by decide +kernel) (by decide +kernel) (by decide) ?_
      refine lv_aload_n hx hb dX0_look_74 rfl (lv_at hl 0 rfl) ?_
      refine va_get (D := (dC, dI)) (ci := 0) (v := .int per) (C := RX0) (T := TX0) (N := 12) hx hb hts (fun _ h => List.mem_cons_of_mem _ (List.mem_append_right _ h)) hown hK hP 0 rfl rfl 5 (by decide) (hts (.fieldLink RX0 55 "RetiredTimer" "period" "I") (by decide +kernel)) (fun _ h9 => h9) rfl dX0_look_75 ?_
      exact W.iret (v := per) hx hb hr (fun t ht hW => ⟨⟨per, (), rfl, Or.inl ⟨2, by decide, rfl, rfl⟩, by rw [ht]; exact hP, va_K.moved hW.alike hK, hD⟩, hS.F ht⟩) hS.2.2 dX0_look_78
    · refine lv_tableIn (off := 78) (tgt := 79) hx hb dX0_look_1 (by decide +kernel) (by decide +kernel) (by decide +kernel) (by decide) ?_
      refine lv_aload_n hx hb dX0_look_79 rfl (lv_at hl 0 rfl) ?_
      refine va_get (D := (dC, dI)) (ci := 0) (v := .int pnd) (C := RX0) (T := TX0) (N := 12) hx hb hts (fun _ h => List.mem_cons_of_mem _ (List.mem_append_right _ h)) hown hK hP 0 rfl rfl 7 (by decide) (hts (.fieldLink RX0 62 "RetiredTimer" "pending" "Z") (by decide +kernel)) (fun _ h9 => h9) rfl dX0_look_80 ?_
      refine lv_if_eq (tgt := 90) hx hb dX0_look_83 (by decide) (fun c_83 => ?_) (fun c_83 => ?_)
      · refine lv_iconst (v := 0) hx hb dX0_look_90 (by decide) ?_
        exact W.iret (v := 0) hx hb hr (fun t ht hW => ⟨⟨0, (), rfl, Or.inl ⟨3, by decide, rfl, by show _ = (if pnd = 0 then (0 : Int32) else 1); rw [if_pos c_83]⟩, by rw [ht]; exact hP, va_K.moved hW.alike hK, hD⟩, hS.F ht⟩) hS.2.2 dX0_look_91
      · refine lv_iconst (v := 1) hx hb dX0_look_86 (by decide) ?_
        refine lv_goto (tgt := 91) hx hb dX0_look_87 (by decide) ?_
        exact W.iret (v := 1) hx hb hr (fun t ht hW => ⟨⟨1, (), rfl, Or.inl ⟨3, by decide, rfl, by show _ = (if pnd = 0 then (0 : Int32) else 1); rw [if_neg c_83]⟩, by rw [ht]; exact hP, va_K.moved hW.alike hK, hD⟩, hS.F ht⟩) hS.2.2 dX0_look_91
    · refine lv_tableIn (off := 91) (tgt := 92) hx hb dX0_look_1 (by decide +kernel) (by decide +kernel) (by decide +kernel) (by decide) ?_
      refine lv_aload_n hx hb dX0_look_92 rfl (lv_at hl 0 rfl) ?_
      refine va_get (D := (dC, dI)) (ci := 0) (v := .int cng) (C := RX0) (T := TX0) (N := 12) hx hb hts (fun _ h => List.mem_cons_of_mem _ (List.mem_append_right _ h)) hown hK hP 0 rfl rfl 6 (by decide) (hts (.fieldLink RX0 58 "RetiredTimer" "counting" "Z") (by decide +kernel)) (fun _ h9 => h9) rfl dX0_look_93 ?_
      refine lv_if_eq (tgt := 103) hx hb dX0_look_96 (by decide) (fun c_96 => ?_) (fun c_96 => ?_)
      · refine lv_iconst (v := 0) hx hb dX0_look_103 (by decide) ?_
        exact W.iret (v := 0) hx hb hr (fun t ht hW => ⟨⟨0, (), rfl, Or.inl ⟨4, by decide, rfl, by show _ = (if cng = 0 then (0 : Int32) else 1); rw [if_pos c_96]⟩, by rw [ht]; exact hP, va_K.moved hW.alike hK, hD⟩, hS.F ht⟩) hS.2.2 dX0_look_104
      · refine lv_iconst (v := 1) hx hb dX0_look_99 (by decide) ?_
        refine lv_goto (tgt := 104) hx hb dX0_look_100 (by decide) ?_
        exact W.iret (v := 1) hx hb hr (fun t ht hW => ⟨⟨1, (), rfl, Or.inl ⟨4, by decide, rfl, by show _ = (if cng = 0 then (0 : Int32) else 1); rw [if_neg c_96]⟩, by rw [ht]; exact hP, va_K.moved hW.alike hK, hD⟩, hS.F ht⟩) hS.2.2 dX0_look_104
    · refine lv_tableIn (off := 104) (tgt := 105) hx hb dX0_look_1 (by decide +kernel) (by decide +kernel) (by decide +kernel) (by decide) ?_
      refine lv_aload_n hx hb dX0_look_105 rfl (lv_at hl 0 rfl) ?_
      refine va_get (D := (dC, dI)) (ci := 0) (v := .int msk) (C := RX0) (T := TX0) (N := 12) hx hb hts (fun _ h => List.mem_cons_of_mem _ (List.mem_append_right _ h)) hown hK hP 0 rfl rfl 8 (by decide) (hts (.fieldLink RX0 51 "RetiredTimer" "mask" "I") (by decide +kernel)) (fun _ h9 => h9) rfl dX0_look_106 ?_
      exact W.iret (v := msk) hx hb hr (fun t ht hW => ⟨⟨msk, (), rfl, Or.inl ⟨5, by decide, rfl, rfl⟩, by rw [ht]; exact hP, va_K.moved hW.alike hK, hD⟩, hS.F ht⟩) hS.2.2 dX0_look_109
    · refine lv_tableIn (off := 109) (tgt := 110) hx hb dX0_look_1 (by decide +kernel) (by decide +kernel) (by decide +kernel) (by decide) ?_
      refine lv_aload_n hx hb dX0_look_110 rfl (lv_at hl 0 rfl) ?_
      refine lv_aload_n hx hb dX0_look_111 rfl (lv_at hl 0 rfl) ?_
      refine va_get (D := (dC, dI)) (ci := 0) (v := .int (nI rn)) (C := RX0) (T := TX0) (N := 12) hx hb hts (fun _ h => List.mem_cons_of_mem _ (List.mem_append_right _ h)) hown hK hP 0 rfl rfl 3 (by decide) (hts (.fieldLink RX0 28 "RetiredTimer" "retired" "I") (by decide +kernel)) (fun _ h9 => h9) rfl dX0_look_112 ?_
      have hFc := va_free (wc := rt_xw h0 a1 a2 k1 k2 f g (nI en) (nI rn) cnt per cng pnd msk sr sav tkn) hD hS hA [0, 1, 2] rfl
      refine va_calli (va_runV (As := [.int (nI rn)]) (rest := []) ⟨hx, hb, hml, hown, hts⟩ (c_X_linesAt l dC dI h0 a1 a2 s.heap.size k1 k2 f g (nI en) (nI rn) cnt per cng pnd msk sr sav tkn (nI rn) en rfl h32) (cwV 1 hts gX0_look_X0_linesAt rfl rfl rfl (by decide +kernel) ⟨Nat.le_of_ble_eq_true rfl, Nat.le_of_ble_eq_true rfl⟩) ⟨fun a U g mk q => by obtain ⟨q0, q1, qP, qK, qD⟩ := q; exact ⟨q0, q1, qP, va_K.moved (u := U) (U := U.calling g mk a) (Vm.Alike.refl U.vm) qK, qD⟩, va_recv hK hP (ci := 0) (q0 := 0) rfl rfl, fun U hU hW => ⟨rfl, by rw [hU], by rw [hU]; exact hP, va_K.moved hW.alike hK, hD.weaken (fun _ _ _ _ => trivial)⟩⟩ rfl rfl hl.1 rfl (lv_room (Nat.le_of_ble_eq_true rfl)) dX0_look_115 ⟨Nat.zero_le _, Nat.zero_le _⟩) hS (fun q _ h => hFc q h) hFc (fun r_115 u t H1 locs ht hvm hw_115 hB hz1 hk1 hS => ?_)
      obtain ⟨hP1, hK1, hD1⟩ := hB
      rw [ht] at hP1
      try dsimp only at hw_115 hP1 hD1
      obtain ⟨hP, hD⟩ := va_join (wr := []) (w1 := rt_xw h0 a1 a2 k1 k2 f g (nI en) (nI rn) cnt per cng pnd msk sr sav tkn) hP hD [0, 1, 2] [] rfl rfl (by decide) (by decide) hk1 hFc hP1 hD1
      generalize H1 = H at hP hS ⊢
      have hP : va_P (dC, dI) vwCl (rt_xw h0 a1 a2 k1 k2 f g (nI en) (nI rn) cnt per cng pnd msk sr sav tkn) H := hP
      have hD : va_D A (rt_xw h0 a1 a2 k1 k2 f g (nI en) (nI rn) cnt per cng pnd msk sr sav tkn) := hD
      exact W.iret (v := r_115) hx hb hr (fun t ht hW => ⟨⟨r_115, (), rfl, Or.inl ⟨6, by decide, rfl, hw_115⟩, by rw [ht]; exact hP, va_K.moved hW.alike hK, hD⟩, hS.F ht⟩) hS.2.2 dX0_look_118
    · refine lv_tableIn (off := 118) (tgt := 119) hx hb dX0_look_1 (by decide +kernel) (by decide +kernel) (by decide +kernel) (by decide) ?_
      refine lv_aload_n hx hb dX0_look_119 rfl (lv_at hl 0 rfl) ?_
      refine va_get (D := (dC, dI)) (ci := 0) (v := .int sr) (C := RX0) (T := TX0) (N := 12) hx hb hts (fun _ h => List.mem_cons_of_mem _ (List.mem_append_right _ h)) hown hK hP 0 rfl rfl 9 (by decide) (hts (.fieldLink RX0 42 "RetiredTimer" "sr" "I") (by decide +kernel)) (fun _ h9 => h9) rfl dX0_look_120 ?_
      exact W.iret (v := sr) hx hb hr (fun t ht hW => ⟨⟨sr, (), rfl, Or.inl ⟨7, by decide, rfl, rfl⟩, by rw [ht]; exact hP, va_K.moved hW.alike hK, hD⟩, hS.F ht⟩) hS.2.2 dX0_look_123
    · refine lv_tableIn (off := 123) (tgt := 124) hx hb dX0_look_1 (by decide +kernel) (by decide +kernel) (by decide +kernel) (by decide) ?_
      refine lv_aload_n hx hb dX0_look_124 rfl (lv_at hl 0 rfl) ?_
      refine va_get (D := (dC, dI)) (ci := 0) (v := .int sav) (C := RX0) (T := TX0) (N := 12) hx hb hts (fun _ h => List.mem_cons_of_mem _ (List.mem_append_right _ h)) hown hK hP 0 rfl rfl 10 (by decide) (hts (.fieldLink RX0 45 "RetiredTimer" "saved" "I") (by decide +kernel)) (fun _ h9 => h9) rfl dX0_look_125 ?_
      exact W.iret (v := sav) hx hb hr (fun t ht hW => ⟨⟨sav, (), rfl, Or.inl ⟨8, by decide, rfl, rfl⟩, by rw [ht]; exact hP, va_K.moved hW.alike hK, hD⟩, hS.F ht⟩) hS.2.2 dX0_look_128
    · refine lv_tableIn (off := 128) (tgt := 129) hx hb dX0_look_1 (by decide +kernel) (by decide +kernel) (by decide +kernel) (by decide) ?_
      refine lv_aload_n hx hb dX0_look_129 rfl (lv_at hl 0 rfl) ?_
      refine va_get (D := (dC, dI)) (ci := 0) (v := .int tkn) (C := RX0) (T := TX0) (N := 12) hx hb hts (fun _ h => List.mem_cons_of_mem _ (List.mem_append_right _ h)) hown hK hP 0 rfl rfl 11 (by decide) (hts (.fieldLink RX0 48 "RetiredTimer" "taken" "I") (by decide +kernel)) (fun _ h9 => h9) rfl dX0_look_130 ?_
      exact W.iret (v := tkn) hx hb hr (fun t ht hW => ⟨⟨tkn, (), rfl, Or.inl ⟨9, by decide, rfl, rfl⟩, by rw [ht]; exact hP, va_K.moved hW.alike hK, hD⟩, hS.F ht⟩) hS.2.2 dX0_look_133
    · refine lv_tableIn (off := 133) (tgt := 134) hx hb dX0_look_1 (by decide +kernel) (by decide +kernel) (by decide +kernel) (by decide) ?_
      refine lv_aload_n hx hb dX0_look_134 rfl (lv_at hl 0 rfl) ?_
      refine va_get (D := (dC, dI)) (ci := 0) (v := .int (nI en)) (C := RX0) (T := TX0) (N := 12) hx hb hts (fun _ h => List.mem_cons_of_mem _ (List.mem_append_right _ h)) hown hK hP 0 rfl rfl 2 (by decide) (hts (.fieldLink RX0 19 "RetiredTimer" "entries" "I") (by decide +kernel)) (fun _ h9 => h9) rfl dX0_look_135 ?_
      exact W.iret (v := (nI en)) hx hb hr (fun t ht hW => ⟨⟨(nI en), (), rfl, Or.inl ⟨10, by decide, rfl, rfl⟩, by rw [ht]; exact hP, va_K.moved hW.alike hK, hD⟩, hS.F ht⟩) hS.2.2 dX0_look_138
    · refine lv_tableIn (off := 138) (tgt := 139) hx hb dX0_look_1 (by decide +kernel) (by decide +kernel) (by decide +kernel) (by decide) ?_
      refine lv_aload_n hx hb dX0_look_139 rfl (lv_at hl 0 rfl) ?_
      have hFc := va_free (wc := rt_xw h0 a1 a2 k1 k2 f g (nI en) (nI rn) cnt per cng pnd msk sr sav tkn) hD hS hA [0, 1, 2] rfl
      refine va_calli (va_runV (As := []) (rest := []) ⟨hx, hb, hml, hown, hts⟩ (c_X_interruptDue l dC dI h0 a1 a2 s.heap.size k1 k2 f g (nI en) (nI rn) cnt per cng pnd msk sr sav tkn en rfl h32) (cwV 0 hts gX0_look_X0_interruptDue rfl rfl rfl (by decide +kernel) ⟨Nat.le_of_ble_eq_true rfl, Nat.le_of_ble_eq_true rfl⟩) ⟨fun a U g mk q => by obtain ⟨q0, q1, qP, qK, qD⟩ := q; exact ⟨q0, q1, qP, va_K.moved (u := U) (U := U.calling g mk a) (Vm.Alike.refl U.vm) qK, qD⟩, va_recv hK hP (ci := 0) (q0 := 0) rfl rfl, fun U hU hW => ⟨rfl, by rw [hU], by rw [hU]; exact hP, va_K.moved hW.alike hK, hD.weaken (fun _ _ _ _ => trivial)⟩⟩ rfl rfl hl.1 rfl (lv_room (Nat.le_of_ble_eq_true rfl)) dX0_look_140 ⟨Nat.zero_le _, Nat.zero_le _⟩) hS (fun q _ h => hFc q h) hFc (fun r_140 u t H1 locs ht hvm hw_140 hB hz1 hk1 hS => ?_)
      obtain ⟨hP1, hK1, hD1⟩ := hB
      rw [ht] at hP1
      try dsimp only at hw_140 hP1 hD1
      obtain ⟨hP, hD⟩ := va_join (wr := []) (w1 := rt_xw h0 a1 a2 k1 k2 f g (nI en) (nI rn) cnt per cng pnd msk sr sav tkn) hP hD [0, 1, 2] [] rfl rfl (by decide) (by decide) hk1 hFc hP1 hD1
      generalize H1 = H at hP hS ⊢
      have hP : va_P (dC, dI) vwCl (rt_xw h0 a1 a2 k1 k2 f g (nI en) (nI rn) cnt per cng pnd msk sr sav tkn) H := hP
      have hD : va_D A (rt_xw h0 a1 a2 k1 k2 f g (nI en) (nI rn) cnt per cng pnd msk sr sav tkn) := hD
      exact W.iret (v := r_140) hx hb hr (fun t ht hW => ⟨⟨r_140, (), rfl, Or.inl ⟨11, by decide, rfl, hw_140⟩, by rw [ht]; exact hP, va_K.moved hW.alike hK, hD⟩, hS.F ht⟩) hS.2.2 dX0_look_143
end
section
set_option maxHeartbeats 4000000 in
set_option maxRecDepth 100000 in
theorem lp_M_goOn {p : Program} {l : Launch} {e0 : Env} {R : Room} {s : State} {m : MethodId} {args : Array Value} {below : List Frame} {meth : Method} {c : Code} {Q : State → Prop} {dC : Nat → ClassId} {dI : Nat → Nat → Nat} {A : Nat → Prop} {h0 a1 a2 : Nat} {k1 k2 : ClassId} {f g : Nat → Int32} {ret cnt per cng pnd msk sr sav tkn : Int32} {en kn : Nat} (hx : p.tables.exec = Jvm.exec) (hb : c.code = cX1_goOn) (hts : ∀ w ∈ wsX1_goOn, w.before args s = true) (hown : s.vm.findClass RX1 = some m.cls) (hK : va_K (dC, dI) vwCl [(k1, .int), (k2, .int)] s) (h32 : en ≤ 32)
    (kx : ∀ (k : Nat) (H : Heap) (locs : List Loc) (ls : Array Slot), (kn ≤ k ∧ k ≤ en ∧ (∀ j, kn ≤ j → j < k → f j ≤ ret) ∧ (k < en → ¬ f k ≤ ret)) → va_P (dC, dI) vwCl (rt_mw h0 a1 a2 k1 k2 f g (nI en) ret cnt per cng pnd msk sr sav tkn (nI k)) H → va_D A (rt_mw h0 a1 a2 k1 k2 f g (nI en) ret cnt per cng pnd msk sr sav tkn (nI k)) → va_S A s.heap H locs → W p l e0 R s m args below meth c H locs 0 0 Q (F0 m 40 ls [])) :
    ∀ (n i : Nat), i + n = en → kn ≤ i → (∀ j, kn ≤ j → j < i → f j ≤ ret) → ∀ (H : Heap) (locs : List Loc) (ls : Array Slot), va_P (dC, dI) vwCl (rt_mw h0 a1 a2 k1 k2 f g (nI en) ret cnt per cng pnd msk sr sav tkn (nI i)) H → va_D A (rt_mw h0 a1 a2 k1 k2 f g (nI en) ret cnt per cng pnd msk sr sav tkn (nI i)) → va_S A s.heap H locs → lv_has ls 1 [(0, .ref h0)] → W p l e0 R s m args below meth c H locs 0 0 Q (F0 m 0 ls []) := by
  intro n
  induction n with
  | zero =>
    intro i hi hki hall H locs ls hP hD hS hl
    refine lv_aload_n hx hb dX1_goOn_0 rfl (lv_at hl 0 rfl) ?_
    refine va_get (D := (dC, dI)) (ci := 1) (v := .int (nI i)) (C := RX1) (T := TX1) (N := 14) hx hb hts (fun _ h => List.mem_cons_of_mem _ (List.mem_append_right _ h)) hown hK hP 0 rfl rfl 13 (by decide) (hts (.fieldLink RX1 23 "RetiredTimerModel" "come" "I") (by decide +kernel)) (fun _ h9 => h9) rfl dX1_goOn_1 ?_
    refine lv_aload_n hx hb dX1_goOn_4 rfl (lv_at hl 0 rfl) ?_
    refine va_get (D := (dC, dI)) (ci := 1) (v := .int (nI en)) (C := RX1) (T := TX1) (N := 14) hx hb hts (fun _ h => List.mem_cons_of_mem _ (List.mem_append_right _ h)) hown hK hP 0 rfl rfl 12 (by decide) (hts (.fieldLink RX1 26 "RetiredTimerModel" "entries" "I") (by decide +kernel)) (fun _ h9 => h9) rfl dX1_goOn_5 ?_
    refine lv_icmp_ge (tgt := 40) hx hb dX1_goOn_8 (by decide) (fun c_8 => ?_) (fun c_8 => absurd (nI_le (by omega) (by omega)) c_8)
    exact kx i H locs ls ⟨hki, by omega, hall, fun h => by omega⟩ hP hD hS
  | succ n ih =>
    intro i hi hki hall H locs ls hP hD hS hl
    refine lv_aload_n hx hb dX1_goOn_0 rfl (lv_at hl 0 rfl) ?_
    refine va_get (D := (dC, dI)) (ci := 1) (v := .int (nI i)) (C := RX1) (T := TX1) (N := 14) hx hb hts (fun _ h => List.mem_cons_of_mem _ (List.mem_append_right _ h)) hown hK hP 0 rfl rfl 13 (by decide) (hts (.fieldLink RX1 23 "RetiredTimerModel" "come" "I") (by decide +kernel)) (fun _ h9 => h9) rfl dX1_goOn_1 ?_
    refine lv_aload_n hx hb dX1_goOn_4 rfl (lv_at hl 0 rfl) ?_
    refine va_get (D := (dC, dI)) (ci := 1) (v := .int (nI en)) (C := RX1) (T := TX1) (N := 14) hx hb hts (fun _ h => List.mem_cons_of_mem _ (List.mem_append_right _ h)) hown hK hP 0 rfl rfl 12 (by decide) (hts (.fieldLink RX1 26 "RetiredTimerModel" "entries" "I") (by decide +kernel)) (fun _ h9 => h9) rfl dX1_goOn_5 ?_
    refine lv_icmp_ge (tgt := 40) hx hb dX1_goOn_8 (by decide) (fun c_8 => absurd c_8 (nI_ge (by omega) (by omega))) (fun c_8 => ?_)
    refine lv_aload_n hx hb dX1_goOn_11 rfl (lv_at hl 0 rfl) ?_
    refine va_get (D := (dC, dI)) (ci := 1) (v := .ref a1) (C := RX1) (T := TX1) (N := 14) hx hb hts (fun _ h => List.mem_cons_of_mem _ (List.mem_append_right _ h)) hown hK hP 0 rfl rfl 10 (by decide) (hts (.fieldLink RX1 13 "RetiredTimerModel" "counts" "[I") (by decide +kernel)) (fun _ h9 => h9) rfl dX1_goOn_12 ?_
    refine lv_aload_n hx hb dX1_goOn_15 rfl (lv_at hl 0 rfl) ?_
    refine va_get (D := (dC, dI)) (ci := 1) (v := .int (nI i)) (C := RX1) (T := TX1) (N := 14) hx hb hts (fun _ h => List.mem_cons_of_mem _ (List.mem_append_right _ h)) hown hK hP 0 rfl rfl 13 (by decide) (hts (.fieldLink RX1 23 "RetiredTimerModel" "come" "I") (by decide +kernel)) (fun _ h9 => h9) rfl dX1_goOn_16 ?_
    refine va_iald hx hb hK hP 1 0 rfl rfl (vp_in_nI (N := 32) (by omega) (by decide)) dX1_goOn_19 ?_
    rw [show f (nI i).toNatClampNeg = f i from by rw [nI_clamp (by omega)]]
    refine lv_aload_n hx hb dX1_goOn_20 rfl (lv_at hl 0 rfl) ?_
    refine va_get (D := (dC, dI)) (ci := 1) (v := .int ret) (C := RX1) (T := TX1) (N := 14) hx hb hts (fun _ h => List.mem_cons_of_mem _ (List.mem_append_right _ h)) hown hK hP 0 rfl rfl 1 (by decide) (hts (.fieldLink RX1 29 "RetiredTimerModel" "retired" "I") (by decide +kernel)) (fun _ h9 => h9) rfl dX1_goOn_21 ?_
    refine lv_icmp_gt (tgt := 40) hx hb dX1_goOn_24 (by decide) (fun c_24 => ?_) (fun c_24 => ?_)
    · exact kx i H locs ls ⟨hki, by omega, hall, fun _ h => rt_nle2 h c_24⟩ hP hD hS
    · refine lv_aload_n hx hb dX1_goOn_27 rfl (lv_at hl 0 rfl) ?_
      refine lv_dup hx hb dX1_goOn_28 rfl ?_
      refine va_get (D := (dC, dI)) (ci := 1) (v := .int (nI i)) (C := RX1) (T := TX1) (N := 14) hx hb hts (fun _ h => List.mem_cons_of_mem _ (List.mem_append_right _ h)) hown hK hP 0 rfl rfl 13 (by decide) (hts (.fieldLink RX1 23 "RetiredTimerModel" "come" "I") (by decide +kernel)) (fun _ h9 => h9) rfl dX1_goOn_29 ?_
      refine lv_iconst (v := 1) hx hb dX1_goOn_32 (by decide) ?_
      refine lv_iadd hx hb dX1_goOn_33 ?_
      refine va_put (D := (dC, dI)) (ci := 1) (v := .int ((nI i) + 1)) (ty := .int) (C := RX1) (T := TX1) (N := 14) hx hb hts (fun _ h => List.mem_cons_of_mem _ (List.mem_append_right _ h)) tyX1 tyX1_ok nmX1 hown hK hP hD hS 0 rfl rfl 13 (by decide) (hts (.fieldLink RX1 23 "RetiredTimerModel" "come" "I") (by decide +kernel)) (fun _ h9 => h9) rfl (by decide +kernel) rfl rfl (Nat.le_of_ble_eq_true rfl) dX1_goOn_34 (fun H locs hP hD hS => ?_)
      have hP : va_P (dC, dI) vwCl (rt_mw h0 a1 a2 k1 k2 f g (nI en) ret cnt per cng pnd msk sr sav tkn ((nI i) + 1)) H := hP
      have hD : va_D A (rt_mw h0 a1 a2 k1 k2 f g (nI en) ret cnt per cng pnd msk sr sav tkn ((nI i) + 1)) := hD
      refine lv_goto (tgt := 0) hx hb dX1_goOn_37 (by decide) ?_
      rw [nI_1] at hP hD
      exact ih (i + 1) (by omega) (by omega) (fun j a b => by rcases Nat.lt_or_ge j i with q | q; exact hall j a q; rw [show j = i by omega]; exact rt_nlt c_24) H locs ls hP hD hS hl
set_option maxHeartbeats 4000000 in
set_option maxRecDepth 100000 in
theorem c_M_goOn (l : Launch) (dC : Nat → ClassId) (dI : Nat → Nat → Nat) (h0 a1 a2 sz : Nat) (k1 k2 : ClassId) (f g : Nat → Int32) (ent ret cnt per cng pnd msk sr sav tkn com : Int32) (en kn : Nat) (he : ent = nI en) (h32 : en ≤ 32) (hk : com = nI kn) (hke : kn ≤ en) :
    Met l yX1_goOn wsX1_goOn ({ frames := 0, cells := 0, slots := 0, locals := 0 }) (va_Pc [.ref h0] (rt_pre dC dI (rt_mw h0 a1 a2 k1 k2 f g ent ret cnt per cng pnd msk sr sav tkn com) [(k1, .int), (k2, .int)] sz)) (va_Qv (fun (u : Nat) => kn ≤ u ∧ u ≤ en ∧ (∀ j, kn ≤ j → j < u → f j ≤ ret) ∧ (u < en → ¬ f u ≤ ret)) (rt_post dC dI [(k1, .int), (k2, .int)] (va_A (rt_mw h0 a1 a2 k1 k2 f g ent ret cnt per cng pnd msk sr sav tkn com) sz) (fun (u : Nat) => rt_mw h0 a1 a2 k1 k2 f g ent ret cnt per cng pnd msk sr sav tkn (nI u))) (va_A (rt_mw h0 a1 a2 k1 k2 f g ent ret cnt per cng pnd msk sr sav tkn com) sz)) 0 0 (va_A (rt_mw h0 a1 a2 k1 k2 f g ent ret cnt per cng pnd msk sr sav tkn com) sz) := by
  subst he
  subst hk
  refine Met.ofW (cc := cX1_goOn) (maxL := 1) (ret := none) (by decide) rfl ?_
  intro p e0 s m args below meth c s₁ B hml hv
  obtain ⟨rfl, hsz, hP, hK, hD0⟩ := hv
  have hx := B.exec
  have hb := B.bytes
  have hr := B.returns
  have hts := atoms_spec (ws := wsX1_goOn) B.pre
  have hown : s.vm.findClass RX1 = some m.cls := findClass_of_methodNamed B.named
  have hlocks := B.notSynchronized
  subst hsz
  have hD := hD0.self (sz := s.heap.size)
  generalize hAe : va_A (rt_mw h0 a1 a2 k1 k2 f g (nI en) ret cnt per cng pnd msk sr sav tkn (nI kn)) s.heap.size = A at hD ⊢
  have hA : ∀ q : Nat, s.heap.size ≤ q → A q := fun q h => by rw [← hAe]; exact Or.inr h
  have hS : va_S A s.heap s.heap [] := va_S.rf
  have hP : va_P (dC, dI) vwCl (rt_mw h0 a1 a2 k1 k2 f g (nI en) ret cnt per cng pnd msk sr sav tkn (nI kn)) s.heap := hP
  have hl := lv_entry ([.ref h0]) (n := 1) (Nat.le_of_ble_eq_true rfl)
  rw [lg_entry_eq]
  generalize (lg_sl ([.ref h0]) ++ List.replicate (1 - (lg_sl ([.ref h0])).length) Slot.unset).toArray = ls at hl ⊢
  have hl : lv_has ls 1 [(0, .ref h0)] := hl
  refine lp_M_goOn (f := f) (ret := ret) (en := en) (kn := kn) hx hb hts hown hK h32 (fun k H locs ls hw hP hD hS => ?_) (en - kn) kn (by omega) (Nat.le_refl _) (fun j a b => by omega) _ _ ls hP hD hS hl
  exact W.vret hx hb hr (fun t ht hW => ⟨⟨(k), rfl, hw, by rw [ht]; exact hP, va_K.moved hW.alike hK, hD⟩, hS.F ht⟩) hS.2.2 dX1_goOn_40
set_option maxHeartbeats 4000000 in
set_option maxRecDepth 100000 in
theorem c_M_linesNow (l : Launch) (dC : Nat → ClassId) (dI : Nat → Nat → Nat) (h0 a1 a2 sz : Nat) (k1 k2 : ClassId) (f g : Nat → Int32) (ent ret cnt per cng pnd msk sr sav tkn com : Int32) (kn : Nat) (hk : com = nI kn) (hk32 : kn ≤ 32) :
    Met l yX1_linesNow wsX1_linesNow ({ frames := 0, cells := 0, slots := 0, locals := 0 }) (va_Pc [.ref h0] (rt_pre dC dI (rt_mw h0 a1 a2 k1 k2 f g ent ret cnt per cng pnd msk sr sav tkn com) [(k1, .int), (k2, .int)] sz)) (va_Qi (fun (v : Int32) (u : Unit) => v = rt_now g kn) (rt_post dC dI [(k1, .int), (k2, .int)] (va_A (rt_mw h0 a1 a2 k1 k2 f g ent ret cnt per cng pnd msk sr sav tkn com) sz) (fun (u : Unit) => rt_mw h0 a1 a2 k1 k2 f g ent ret cnt per cng pnd msk sr sav tkn com)) (va_A (rt_mw h0 a1 a2 k1 k2 f g ent ret cnt per cng pnd msk sr sav tkn com) sz)) 0 0 (va_A (rt_mw h0 a1 a2 k1 k2 f g ent ret cnt per cng pnd msk sr sav tkn com) sz) := by
  subst hk
  refine Met.ofW (cc := cX1_linesNow) (maxL := 1) (ret := (some .int)) (by decide) rfl ?_
  intro p e0 s m args below meth c s₁ B hml hv
  obtain ⟨rfl, hsz, hP, hK, hD0⟩ := hv
  have hx := B.exec
  have hb := B.bytes
  have hr := B.returns
  have hts := atoms_spec (ws := wsX1_linesNow) B.pre
  have hown : s.vm.findClass RX1 = some m.cls := findClass_of_methodNamed B.named
  have hlocks := B.notSynchronized
  subst hsz
  have hD := hD0.self (sz := s.heap.size)
  generalize hAe : va_A (rt_mw h0 a1 a2 k1 k2 f g ent ret cnt per cng pnd msk sr sav tkn (nI kn)) s.heap.size = A at hD ⊢
  have hA : ∀ q : Nat, s.heap.size ≤ q → A q := fun q h => by rw [← hAe]; exact Or.inr h
  have hS : va_S A s.heap s.heap [] := va_S.rf
  have hP : va_P (dC, dI) vwCl (rt_mw h0 a1 a2 k1 k2 f g ent ret cnt per cng pnd msk sr sav tkn (nI kn)) s.heap := hP
  have hl := lv_entry ([.ref h0]) (n := 1) (Nat.le_of_ble_eq_true rfl)
  rw [lg_entry_eq]
  generalize (lg_sl ([.ref h0]) ++ List.replicate (1 - (lg_sl ([.ref h0])).length) Slot.unset).toArray = ls at hl ⊢
  have hl : lv_has ls 1 [(0, .ref h0)] := hl
  refine lv_aload_n hx hb dX1_linesNow_0 rfl (lv_at hl 0 rfl) ?_
  refine va_get (D := (dC, dI)) (ci := 1) (v := .int (nI kn)) (C := RX1) (T := TX1) (N := 14) hx hb hts (fun _ h => List.mem_cons_of_mem _ (List.mem_append_right _ h)) hown hK hP 0 rfl rfl 13 (by decide) (hts (.fieldLink RX1 23 "RetiredTimerModel" "come" "I") (by decide +kernel)) (fun _ h9 => h9) rfl dX1_linesNow_1 ?_
  refine lv_if_le (tgt := 21) hx hb dX1_linesNow_4 (by decide) (fun c_4 => ?_) (fun c_4 => ?_)
  · refine lv_iconst (v := 0) hx hb dX1_linesNow_21 (by decide) ?_
    exact W.iret (v := 0) hx hb hr (fun t ht hW => ⟨⟨0, (), rfl, by unfold rt_now; rw [if_pos (rt_z0 (by omega) c_4)], by rw [ht]; exact hP, va_K.moved hW.alike hK, hD⟩, hS.F ht⟩) hS.2.2 dX1_linesNow_22
  · have hpos : 0 < kn := rt_npos (by omega) c_4
    refine lv_aload_n hx hb dX1_linesNow_7 rfl (lv_at hl 0 rfl) ?_
    refine va_get (D := (dC, dI)) (ci := 1) (v := .ref a2) (C := RX1) (T := TX1) (N := 14) hx hb hts (fun _ h => List.mem_cons_of_mem _ (List.mem_append_right _ h)) hown hK hP 0 rfl rfl 11 (by decide) (hts (.fieldLink RX1 17 "RetiredTimerModel" "values" "[I") (by decide +kernel)) (fun _ h9 => h9) rfl dX1_linesNow_8 ?_
    refine lv_aload_n hx hb dX1_linesNow_11 rfl (lv_at hl 0 rfl) ?_
    refine va_get (D := (dC, dI)) (ci := 1) (v := .int (nI kn)) (C := RX1) (T := TX1) (N := 14) hx hb hts (fun _ h => List.mem_cons_of_mem _ (List.mem_append_right _ h)) hown hK hP 0 rfl rfl 13 (by decide) (hts (.fieldLink RX1 23 "RetiredTimerModel" "come" "I") (by decide +kernel)) (fun _ h9 => h9) rfl dX1_linesNow_12 ?_
    refine lv_iconst (v := 1) hx hb dX1_linesNow_15 (by decide) ?_
    refine lv_isub hx hb dX1_linesNow_16 ?_
    refine va_iald hx hb hK hP 2 1 rfl rfl (rt_inP hpos (by omega) (by decide)) dX1_linesNow_17 ?_
    rw [show g ((nI kn) - 1).toNatClampNeg = g (kn - 1) from by rw [rt_pre1 hpos, nI_clamp (by omega)]]
    refine lv_goto (tgt := 22) hx hb dX1_linesNow_18 (by decide) ?_
    exact W.iret (v := g (kn - 1)) hx hb hr (fun t ht hW => ⟨⟨g (kn - 1), (), rfl, by unfold rt_now; rw [if_neg (by omega)], by rw [ht]; exact hP, va_K.moved hW.alike hK, hD⟩, hS.F ht⟩) hS.2.2 dX1_linesNow_22
set_option maxHeartbeats 4000000 in
set_option maxRecDepth 100000 in
theorem c_M_due (l : Launch) (dC : Nat → ClassId) (dI : Nat → Nat → Nat) (h0 a1 a2 sz : Nat) (k1 k2 : ClassId) (f g : Nat → Int32) (ent ret cnt per cng pnd msk sr sav tkn com : Int32) (kn : Nat) (hk : com = nI kn) (hk32 : kn ≤ 32) :
    Met l yX1_due wsX1_due ({ frames := 1, cells := 0, slots := 0, locals := 20 }) (va_Pc [.ref h0] (rt_pre dC dI (rt_mw h0 a1 a2 k1 k2 f g ent ret cnt per cng pnd msk sr sav tkn com) [(k1, .int), (k2, .int)] sz)) (va_Qi (fun (v : Int32) (u : Unit) => v = rt_due sr pnd (rt_now g kn) msk) (rt_post dC dI [(k1, .int), (k2, .int)] (va_A (rt_mw h0 a1 a2 k1 k2 f g ent ret cnt per cng pnd msk sr sav tkn com) sz) (fun (u : Unit) => rt_mw h0 a1 a2 k1 k2 f g ent ret cnt per cng pnd msk sr sav tkn com)) (va_A (rt_mw h0 a1 a2 k1 k2 f g ent ret cnt per cng pnd msk sr sav tkn com) sz)) 0 0 (va_A (rt_mw h0 a1 a2 k1 k2 f g ent ret cnt per cng pnd msk sr sav tkn com) sz) := by
  subst hk
  refine Met.ofW (cc := cX1_due) (maxL := 1) (ret := (some .int)) (by decide) rfl ?_
  intro p e0 s m args below meth c s₁ B hml hv
  obtain ⟨rfl, hsz, hP, hK, hD0⟩ := hv
  have hx := B.exec
  have hb := B.bytes
  have hr := B.returns
  have hts := atoms_spec (ws := wsX1_due) B.pre
  have hown : s.vm.findClass RX1 = some m.cls := findClass_of_methodNamed B.named
  have hlocks := B.notSynchronized
  subst hsz
  have hD := hD0.self (sz := s.heap.size)
  generalize hAe : va_A (rt_mw h0 a1 a2 k1 k2 f g ent ret cnt per cng pnd msk sr sav tkn (nI kn)) s.heap.size = A at hD ⊢
  have hA : ∀ q : Nat, s.heap.size ≤ q → A q := fun q h => by rw [← hAe]; exact Or.inr h
  have hS : va_S A s.heap s.heap [] := va_S.rf
  have hP : va_P (dC, dI) vwCl (rt_mw h0 a1 a2 k1 k2 f g ent ret cnt per cng pnd msk sr sav tkn (nI kn)) s.heap := hP
  have hl := lv_entry ([.ref h0]) (n := 1) (Nat.le_of_ble_eq_true rfl)
  rw [lg_entry_eq]
  generalize (lg_sl ([.ref h0]) ++ List.replicate (1 - (lg_sl ([.ref h0])).length) Slot.unset).toArray = ls at hl ⊢
  have hl : lv_has ls 1 [(0, .ref h0)] := hl
  refine lv_aload_n hx hb dX1_due_0 rfl (lv_at hl 0 rfl) ?_
  refine va_get (D := (dC, dI)) (ci := 1) (v := .int sr) (C := RX1) (T := TX1) (N := 14) hx hb hts (fun _ h => List.mem_cons_of_mem _ (List.mem_append_right _ h)) hown hK hP 0 rfl rfl 7 (by decide) (hts (.fieldLink RX1 7 "RetiredTimerModel" "sr" "I") (by decide +kernel)) (fun _ h9 => h9) rfl dX1_due_1 ?_
  refine lv_iconst (v := 2) hx hb dX1_due_4 (by decide) ?_
  refine lv_iand hx hb dX1_due_5 ?_
  refine lv_if_eq (tgt := 18) hx hb dX1_due_6 (by decide) (fun c_6 => ?_) (fun c_6 => ?_)
  · refine lv_aload_n hx hb dX1_due_18 rfl (lv_at hl 0 rfl) ?_
    refine va_get (D := (dC, dI)) (ci := 1) (v := .int sr) (C := RX1) (T := TX1) (N := 14) hx hb hts (fun _ h => List.mem_cons_of_mem _ (List.mem_append_right _ h)) hown hK hP 0 rfl rfl 7 (by decide) (hts (.fieldLink RX1 7 "RetiredTimerModel" "sr" "I") (by decide +kernel)) (fun _ h9 => h9) rfl dX1_due_19 ?_
    refine lv_iconst (v := 4) hx hb dX1_due_22 (by decide) ?_
    refine lv_iand hx hb dX1_due_23 ?_
    refine lv_if_eq (tgt := 44) hx hb dX1_due_24 (by decide) (fun c_24 => ?_) (fun c_24 => ?_)
    · refine lv_iconst (v := 0) hx hb dX1_due_44 (by decide) ?_
      exact W.iret (v := 0) hx hb hr (fun t ht hW => ⟨⟨0, (), rfl, (rt_due0 (Or.inl c_6) (Or.inl c_24)).symm, by rw [ht]; exact hP, va_K.moved hW.alike hK, hD⟩, hS.F ht⟩) hS.2.2 dX1_due_45
    · refine lv_aload_n hx hb dX1_due_27 rfl (lv_at hl 0 rfl) ?_
      have hFc := va_free (wc := rt_mw h0 a1 a2 k1 k2 f g ent ret cnt per cng pnd msk sr sav tkn (nI kn)) hD hS hA [0, 1, 2] rfl
      refine va_calli (va_runV (As := []) (rest := []) ⟨hx, hb, hml, hown, hts⟩ (c_M_linesNow l dC dI h0 a1 a2 s.heap.size k1 k2 f g ent ret cnt per cng pnd msk sr sav tkn (nI kn) kn rfl hk32) (cwV 0 hts gX1_due_X1_linesNow rfl rfl rfl (by decide +kernel) ⟨Nat.le_of_ble_eq_true rfl, Nat.le_of_ble_eq_true rfl⟩) ⟨fun a U g mk q => by obtain ⟨q0, q1, qP, qK, qD⟩ := q; exact ⟨q0, q1, qP, va_K.moved (u := U) (U := U.calling g mk a) (Vm.Alike.refl U.vm) qK, qD⟩, va_recv hK hP (ci := 1) (q0 := 0) rfl rfl, fun U hU hW => ⟨rfl, by rw [hU], by rw [hU]; exact hP, va_K.moved hW.alike hK, hD.weaken (fun _ _ _ _ => trivial)⟩⟩ rfl rfl hl.1 rfl (lv_room (Nat.le_of_ble_eq_true rfl)) dX1_due_28 ⟨Nat.zero_le _, Nat.zero_le _⟩) hS (fun q _ h => hFc q h) hFc (fun r_28 u t H1 locs ht hvm hw_28 hB hz1 hk1 hS => ?_)
      obtain ⟨hP1, hK1, hD1⟩ := hB
      rw [ht] at hP1
      try dsimp only at hw_28 hP1 hD1
      obtain ⟨hP, hD⟩ := va_join (wr := []) (w1 := rt_mw h0 a1 a2 k1 k2 f g ent ret cnt per cng pnd msk sr sav tkn (nI kn)) hP hD [0, 1, 2] [] rfl rfl (by decide) (by decide) hk1 hFc hP1 hD1
      generalize H1 = H at hP hS ⊢
      have hP : va_P (dC, dI) vwCl (rt_mw h0 a1 a2 k1 k2 f g ent ret cnt per cng pnd msk sr sav tkn (nI kn)) H := hP
      have hD : va_D A (rt_mw h0 a1 a2 k1 k2 f g ent ret cnt per cng pnd msk sr sav tkn (nI kn)) := hD
      refine lv_aload_n hx hb dX1_due_31 rfl (lv_at hl 0 rfl) ?_
      refine va_get (D := (dC, dI)) (ci := 1) (v := .int msk) (C := RX1) (T := TX1) (N := 14) hx hb hts (fun _ h => List.mem_cons_of_mem _ (List.mem_append_right _ h)) hown hK hP 0 rfl rfl 6 (by decide) (hts (.fieldLink RX1 40 "RetiredTimerModel" "mask" "I") (by decide +kernel)) (fun _ h9 => h9) rfl dX1_due_32 ?_
      refine lv_iand hx hb dX1_due_35 ?_
      refine lv_if_eq (tgt := 44) hx hb dX1_due_36 (by decide) (fun c_36 => ?_) (fun c_36 => ?_)
      · refine lv_iconst (v := 0) hx hb dX1_due_44 (by decide) ?_
        rw [hw_28] at c_36
        exact W.iret (v := 0) hx hb hr (fun t ht hW => ⟨⟨0, (), rfl, (rt_due0 (Or.inl c_6) (Or.inr c_36)).symm, by rw [ht]; exact hP, va_K.moved hW.alike hK, hD⟩, hS.F ht⟩) hS.2.2 dX1_due_45
      · refine lv_bipush (v := 8) hx hb dX1_due_39 (by decide) ?_
        refine lv_goto (tgt := 45) hx hb dX1_due_41 (by decide) ?_
        rw [hw_28] at c_36
        exact W.iret (v := 8) hx hb hr (fun t ht hW => ⟨⟨8, (), rfl, (rt_due8 (Or.inl c_6) c_24 c_36).symm, by rw [ht]; exact hP, va_K.moved hW.alike hK, hD⟩, hS.F ht⟩) hS.2.2 dX1_due_45
  · refine lv_aload_n hx hb dX1_due_9 rfl (lv_at hl 0 rfl) ?_
    refine va_get (D := (dC, dI)) (ci := 1) (v := .int pnd) (C := RX1) (T := TX1) (N := 14) hx hb hts (fun _ h => List.mem_cons_of_mem _ (List.mem_append_right _ h)) hown hK hP 0 rfl rfl 5 (by decide) (hts (.fieldLink RX1 32 "RetiredTimerModel" "pending" "Z") (by decide +kernel)) (fun _ h9 => h9) rfl dX1_due_10 ?_
    refine lv_if_eq (tgt := 18) hx hb dX1_due_13 (by decide) (fun c_13 => ?_) (fun c_13 => ?_)
    · refine lv_aload_n hx hb dX1_due_18 rfl (lv_at hl 0 rfl) ?_
      refine va_get (D := (dC, dI)) (ci := 1) (v := .int sr) (C := RX1) (T := TX1) (N := 14) hx hb hts (fun _ h => List.mem_cons_of_mem _ (List.mem_append_right _ h)) hown hK hP 0 rfl rfl 7 (by decide) (hts (.fieldLink RX1 7 "RetiredTimerModel" "sr" "I") (by decide +kernel)) (fun _ h9 => h9) rfl dX1_due_19 ?_
      refine lv_iconst (v := 4) hx hb dX1_due_22 (by decide) ?_
      refine lv_iand hx hb dX1_due_23 ?_
      refine lv_if_eq (tgt := 44) hx hb dX1_due_24 (by decide) (fun c_24 => ?_) (fun c_24 => ?_)
      · refine lv_iconst (v := 0) hx hb dX1_due_44 (by decide) ?_
        exact W.iret (v := 0) hx hb hr (fun t ht hW => ⟨⟨0, (), rfl, (rt_due0 (Or.inr c_13) (Or.inl c_24)).symm, by rw [ht]; exact hP, va_K.moved hW.alike hK, hD⟩, hS.F ht⟩) hS.2.2 dX1_due_45
      · refine lv_aload_n hx hb dX1_due_27 rfl (lv_at hl 0 rfl) ?_
        have hFc := va_free (wc := rt_mw h0 a1 a2 k1 k2 f g ent ret cnt per cng pnd msk sr sav tkn (nI kn)) hD hS hA [0, 1, 2] rfl
        refine va_calli (va_runV (As := []) (rest := []) ⟨hx, hb, hml, hown, hts⟩ (c_M_linesNow l dC dI h0 a1 a2 s.heap.size k1 k2 f g ent ret cnt per cng pnd msk sr sav tkn (nI kn) kn rfl hk32) (cwV 0 hts gX1_due_X1_linesNow rfl rfl rfl (by decide +kernel) ⟨Nat.le_of_ble_eq_true rfl, Nat.le_of_ble_eq_true rfl⟩) ⟨fun a U g mk q => by obtain ⟨q0, q1, qP, qK, qD⟩ := q; exact ⟨q0, q1, qP, va_K.moved (u := U) (U := U.calling g mk a) (Vm.Alike.refl U.vm) qK, qD⟩, va_recv hK hP (ci := 1) (q0 := 0) rfl rfl, fun U hU hW => ⟨rfl, by rw [hU], by rw [hU]; exact hP, va_K.moved hW.alike hK, hD.weaken (fun _ _ _ _ => trivial)⟩⟩ rfl rfl hl.1 rfl (lv_room (Nat.le_of_ble_eq_true rfl)) dX1_due_28 ⟨Nat.zero_le _, Nat.zero_le _⟩) hS (fun q _ h => hFc q h) hFc (fun r_28 u t H1 locs ht hvm hw_28 hB hz1 hk1 hS => ?_)
        obtain ⟨hP1, hK1, hD1⟩ := hB
        rw [ht] at hP1
        try dsimp only at hw_28 hP1 hD1
        obtain ⟨hP, hD⟩ := va_join (wr := []) (w1 := rt_mw h0 a1 a2 k1 k2 f g ent ret cnt per cng pnd msk sr sav tkn (nI kn)) hP hD [0, 1, 2] [] rfl rfl (by decide) (by decide) hk1 hFc hP1 hD1
        generalize H1 = H at hP hS ⊢
        have hP : va_P (dC, dI) vwCl (rt_mw h0 a1 a2 k1 k2 f g ent ret cnt per cng pnd msk sr sav tkn (nI kn)) H := hP
        have hD : va_D A (rt_mw h0 a1 a2 k1 k2 f g ent ret cnt per cng pnd msk sr sav tkn (nI kn)) := hD
        refine lv_aload_n hx hb dX1_due_31 rfl (lv_at hl 0 rfl) ?_
        refine va_get (D := (dC, dI)) (ci := 1) (v := .int msk) (C := RX1) (T := TX1) (N := 14) hx hb hts (fun _ h => List.mem_cons_of_mem _ (List.mem_append_right _ h)) hown hK hP 0 rfl rfl 6 (by decide) (hts (.fieldLink RX1 40 "RetiredTimerModel" "mask" "I") (by decide +kernel)) (fun _ h9 => h9) rfl dX1_due_32 ?_
        refine lv_iand hx hb dX1_due_35 ?_
        refine lv_if_eq (tgt := 44) hx hb dX1_due_36 (by decide) (fun c_36 => ?_) (fun c_36 => ?_)
        · refine lv_iconst (v := 0) hx hb dX1_due_44 (by decide) ?_
          rw [hw_28] at c_36
          exact W.iret (v := 0) hx hb hr (fun t ht hW => ⟨⟨0, (), rfl, (rt_due0 (Or.inr c_13) (Or.inr c_36)).symm, by rw [ht]; exact hP, va_K.moved hW.alike hK, hD⟩, hS.F ht⟩) hS.2.2 dX1_due_45
        · refine lv_bipush (v := 8) hx hb dX1_due_39 (by decide) ?_
          refine lv_goto (tgt := 45) hx hb dX1_due_41 (by decide) ?_
          rw [hw_28] at c_36
          exact W.iret (v := 8) hx hb hr (fun t ht hW => ⟨⟨8, (), rfl, (rt_due8 (Or.inr c_13) c_24 c_36).symm, by rw [ht]; exact hP, va_K.moved hW.alike hK, hD⟩, hS.F ht⟩) hS.2.2 dX1_due_45
    · refine lv_iconst (v := 5) hx hb dX1_due_16 (by decide) ?_
      exact W.iret (v := 5) hx hb hr (fun t ht hW => ⟨⟨5, (), rfl, (rt_due5 c_6 c_13).symm, by rw [ht]; exact hP, va_K.moved hW.alike hK, hD⟩, hS.F ht⟩) hS.2.2 dX1_due_17
set_option maxHeartbeats 4000000 in
set_option maxRecDepth 100000 in
theorem c_M_reset (l : Launch) (dC : Nat → ClassId) (dI : Nat → Nat → Nat) (h0 a1 a2 sz : Nat) (k1 k2 : ClassId) (f g : Nat → Int32) (ent ret cnt per cng pnd msk sr sav tkn com : Int32) :
    Met l yX1_reset wsX1_reset ({ frames := 0, cells := 0, slots := 0, locals := 0 }) (va_Pc [.ref h0] (rt_pre dC dI (rt_mw h0 a1 a2 k1 k2 f g ent ret cnt per cng pnd msk sr sav tkn com) [(k1, .int), (k2, .int)] sz)) (va_Qv (fun (u : Unit) => True) (rt_post dC dI [(k1, .int), (k2, .int)] (va_A (rt_mw h0 a1 a2 k1 k2 f g ent ret cnt per cng pnd msk sr sav tkn com) sz) (fun (u : Unit) => rt_mw h0 a1 a2 k1 k2 f g 0 0 0 0 0 0 0 1 0 0 0)) (va_A (rt_mw h0 a1 a2 k1 k2 f g ent ret cnt per cng pnd msk sr sav tkn com) sz)) 0 0 (va_A (rt_mw h0 a1 a2 k1 k2 f g ent ret cnt per cng pnd msk sr sav tkn com) sz) := by
  refine Met.ofW (cc := cX1_reset) (maxL := 1) (ret := none) (by decide) rfl ?_
  intro p e0 s m args below meth c s₁ B hml hv
  obtain ⟨rfl, hsz, hP, hK, hD0⟩ := hv
  have hx := B.exec
  have hb := B.bytes
  have hr := B.returns
  have hts := atoms_spec (ws := wsX1_reset) B.pre
  have hown : s.vm.findClass RX1 = some m.cls := findClass_of_methodNamed B.named
  have hlocks := B.notSynchronized
  subst hsz
  have hD := hD0.self (sz := s.heap.size)
  generalize hAe : va_A (rt_mw h0 a1 a2 k1 k2 f g ent ret cnt per cng pnd msk sr sav tkn com) s.heap.size = A at hD ⊢
  have hA : ∀ q : Nat, s.heap.size ≤ q → A q := fun q h => by rw [← hAe]; exact Or.inr h
  have hS : va_S A s.heap s.heap [] := va_S.rf
  have hP : va_P (dC, dI) vwCl (rt_mw h0 a1 a2 k1 k2 f g ent ret cnt per cng pnd msk sr sav tkn com) s.heap := hP
  have hl := lv_entry ([.ref h0]) (n := 1) (Nat.le_of_ble_eq_true rfl)
  rw [lg_entry_eq]
  generalize (lg_sl ([.ref h0]) ++ List.replicate (1 - (lg_sl ([.ref h0])).length) Slot.unset).toArray = ls at hl ⊢
  have hl : lv_has ls 1 [(0, .ref h0)] := hl
  refine lv_aload_n hx hb dX1_reset_0 rfl (lv_at hl 0 rfl) ?_
  refine lv_iconst (v := 0) hx hb dX1_reset_1 (by decide) ?_
  refine va_put (D := (dC, dI)) (ci := 1) (v := .int 0) (ty := .int) (C := RX1) (T := TX1) (N := 14) hx hb hts (fun _ h => List.mem_cons_of_mem _ (List.mem_append_right _ h)) tyX1 tyX1_ok nmX1 hown hK hP hD hS 0 rfl rfl 0 (by decide) (hts (.fieldLink RX1 20 "RetiredTimerModel" "thrown" "I") (by decide +kernel)) (fun _ h9 => h9) rfl (by decide +kernel) rfl rfl (Nat.le_of_ble_eq_true rfl) dX1_reset_2 (fun H locs hP hD hS => ?_)
  have hP : va_P (dC, dI) vwCl (rt_mw h0 a1 a2 k1 k2 f g ent ret cnt per cng pnd msk sr sav tkn com) H := hP
  have hD : va_D A (rt_mw h0 a1 a2 k1 k2 f g ent ret cnt per cng pnd msk sr sav tkn com) := hD
  refine lv_aload_n hx hb dX1_reset_5 rfl (lv_at hl 0 rfl) ?_
  refine lv_iconst (v := 0) hx hb dX1_reset_6 (by decide) ?_
  refine va_put (D := (dC, dI)) (ci := 1) (v := .int 0) (ty := .int) (C := RX1) (T := TX1) (N := 14) hx hb hts (fun _ h => List.mem_cons_of_mem _ (List.mem_append_right _ h)) tyX1 tyX1_ok nmX1 hown hK hP hD hS 0 rfl rfl 1 (by decide) (hts (.fieldLink RX1 29 "RetiredTimerModel" "retired" "I") (by decide +kernel)) (fun _ h9 => h9) rfl (by decide +kernel) rfl rfl (Nat.le_of_ble_eq_true rfl) dX1_reset_7 (fun H locs hP hD hS => ?_)
  have hP : va_P (dC, dI) vwCl (rt_mw h0 a1 a2 k1 k2 f g ent 0 cnt per cng pnd msk sr sav tkn com) H := hP
  have hD : va_D A (rt_mw h0 a1 a2 k1 k2 f g ent 0 cnt per cng pnd msk sr sav tkn com) := hD
  refine lv_aload_n hx hb dX1_reset_10 rfl (lv_at hl 0 rfl) ?_
  refine lv_iconst (v := 0) hx hb dX1_reset_11 (by decide) ?_
  refine va_put (D := (dC, dI)) (ci := 1) (v := .int 0) (ty := .int) (C := RX1) (T := TX1) (N := 14) hx hb hts (fun _ h => List.mem_cons_of_mem _ (List.mem_append_right _ h)) tyX1 tyX1_ok nmX1 hown hK hP hD hS 0 rfl rfl 2 (by decide) (hts (.fieldLink RX1 49 "RetiredTimerModel" "count" "I") (by decide +kernel)) (fun _ h9 => h9) rfl (by decide +kernel) rfl rfl (Nat.le_of_ble_eq_true rfl) dX1_reset_12 (fun H locs hP hD hS => ?_)
  have hP : va_P (dC, dI) vwCl (rt_mw h0 a1 a2 k1 k2 f g ent 0 0 per cng pnd msk sr sav tkn com) H := hP
  have hD : va_D A (rt_mw h0 a1 a2 k1 k2 f g ent 0 0 per cng pnd msk sr sav tkn com) := hD
  refine lv_aload_n hx hb dX1_reset_15 rfl (lv_at hl 0 rfl) ?_
  refine lv_iconst (v := 0) hx hb dX1_reset_16 (by decide) ?_
  refine va_put (D := (dC, dI)) (ci := 1) (v := .int 0) (ty := .int) (C := RX1) (T := TX1) (N := 14) hx hb hts (fun _ h => List.mem_cons_of_mem _ (List.mem_append_right _ h)) tyX1 tyX1_ok nmX1 hown hK hP hD hS 0 rfl rfl 3 (by decide) (hts (.fieldLink RX1 52 "RetiredTimerModel" "period" "I") (by decide +kernel)) (fun _ h9 => h9) rfl (by decide +kernel) rfl rfl (Nat.le_of_ble_eq_true rfl) dX1_reset_17 (fun H locs hP hD hS => ?_)
  have hP : va_P (dC, dI) vwCl (rt_mw h0 a1 a2 k1 k2 f g ent 0 0 0 cng pnd msk sr sav tkn com) H := hP
  have hD : va_D A (rt_mw h0 a1 a2 k1 k2 f g ent 0 0 0 cng pnd msk sr sav tkn com) := hD
  refine lv_aload_n hx hb dX1_reset_20 rfl (lv_at hl 0 rfl) ?_
  refine lv_iconst (v := 0) hx hb dX1_reset_21 (by decide) ?_
  refine va_put (D := (dC, dI)) (ci := 1) (v := .int 0) (ty := .boolean) (C := RX1) (T := TX1) (N := 14) hx hb hts (fun _ h => List.mem_cons_of_mem _ (List.mem_append_right _ h)) tyX1 tyX1_ok nmX1 hown hK hP hD hS 0 rfl rfl 4 (by decide) (hts (.fieldLink RX1 46 "RetiredTimerModel" "counting" "Z") (by decide +kernel)) (fun _ h9 => h9) rfl (by decide +kernel) rfl rfl (Nat.le_of_ble_eq_true rfl) dX1_reset_22 (fun H locs hP hD hS => ?_)
  have hP : va_P (dC, dI) vwCl (rt_mw h0 a1 a2 k1 k2 f g ent 0 0 0 0 pnd msk sr sav tkn com) H := hP
  have hD : va_D A (rt_mw h0 a1 a2 k1 k2 f g ent 0 0 0 0 pnd msk sr sav tkn com) := hD
  refine lv_aload_n hx hb dX1_reset_25 rfl (lv_at hl 0 rfl) ?_
  refine lv_iconst (v := 0) hx hb dX1_reset_26 (by decide) ?_
  refine va_put (D := (dC, dI)) (ci := 1) (v := .int 0) (ty := .boolean) (C := RX1) (T := TX1) (N := 14) hx hb hts (fun _ h => List.mem_cons_of_mem _ (List.mem_append_right _ h)) tyX1 tyX1_ok nmX1 hown hK hP hD hS 0 rfl rfl 5 (by decide) (hts (.fieldLink RX1 32 "RetiredTimerModel" "pending" "Z") (by decide +kernel)) (fun _ h9 => h9) rfl (by decide +kernel) rfl rfl (Nat.le_of_ble_eq_true rfl) dX1_reset_27 (fun H locs hP hD hS => ?_)
  have hP : va_P (dC, dI) vwCl (rt_mw h0 a1 a2 k1 k2 f g ent 0 0 0 0 0 msk sr sav tkn com) H := hP
  have hD : va_D A (rt_mw h0 a1 a2 k1 k2 f g ent 0 0 0 0 0 msk sr sav tkn com) := hD
  refine lv_aload_n hx hb dX1_reset_30 rfl (lv_at hl 0 rfl) ?_
  refine lv_iconst (v := 0) hx hb dX1_reset_31 (by decide) ?_
  refine va_put (D := (dC, dI)) (ci := 1) (v := .int 0) (ty := .int) (C := RX1) (T := TX1) (N := 14) hx hb hts (fun _ h => List.mem_cons_of_mem _ (List.mem_append_right _ h)) tyX1 tyX1_ok nmX1 hown hK hP hD hS 0 rfl rfl 6 (by decide) (hts (.fieldLink RX1 40 "RetiredTimerModel" "mask" "I") (by decide +kernel)) (fun _ h9 => h9) rfl (by decide +kernel) rfl rfl (Nat.le_of_ble_eq_true rfl) dX1_reset_32 (fun H locs hP hD hS => ?_)
  have hP : va_P (dC, dI) vwCl (rt_mw h0 a1 a2 k1 k2 f g ent 0 0 0 0 0 0 sr sav tkn com) H := hP
  have hD : va_D A (rt_mw h0 a1 a2 k1 k2 f g ent 0 0 0 0 0 0 sr sav tkn com) := hD
  refine lv_aload_n hx hb dX1_reset_35 rfl (lv_at hl 0 rfl) ?_
  refine lv_iconst (v := 1) hx hb dX1_reset_36 (by decide) ?_
  refine va_put (D := (dC, dI)) (ci := 1) (v := .int 1) (ty := .int) (C := RX1) (T := TX1) (N := 14) hx hb hts (fun _ h => List.mem_cons_of_mem _ (List.mem_append_right _ h)) tyX1 tyX1_ok nmX1 hown hK hP hD hS 0 rfl rfl 7 (by decide) (hts (.fieldLink RX1 7 "RetiredTimerModel" "sr" "I") (by decide +kernel)) (fun _ h9 => h9) rfl (by decide +kernel) rfl rfl (Nat.le_of_ble_eq_true rfl) dX1_reset_37 (fun H locs hP hD hS => ?_)
  have hP : va_P (dC, dI) vwCl (rt_mw h0 a1 a2 k1 k2 f g ent 0 0 0 0 0 0 1 sav tkn com) H := hP
  have hD : va_D A (rt_mw h0 a1 a2 k1 k2 f g ent 0 0 0 0 0 0 1 sav tkn com) := hD
  refine lv_aload_n hx hb dX1_reset_40 rfl (lv_at hl 0 rfl) ?_
  refine lv_iconst (v := 0) hx hb dX1_reset_41 (by decide) ?_
  refine va_put (D := (dC, dI)) (ci := 1) (v := .int 0) (ty := .int) (C := RX1) (T := TX1) (N := 14) hx hb hts (fun _ h => List.mem_cons_of_mem _ (List.mem_append_right _ h)) tyX1 tyX1_ok nmX1 hown hK hP hD hS 0 rfl rfl 8 (by decide) (hts (.fieldLink RX1 62 "RetiredTimerModel" "saved" "I") (by decide +kernel)) (fun _ h9 => h9) rfl (by decide +kernel) rfl rfl (Nat.le_of_ble_eq_true rfl) dX1_reset_42 (fun H locs hP hD hS => ?_)
  have hP : va_P (dC, dI) vwCl (rt_mw h0 a1 a2 k1 k2 f g ent 0 0 0 0 0 0 1 0 tkn com) H := hP
  have hD : va_D A (rt_mw h0 a1 a2 k1 k2 f g ent 0 0 0 0 0 0 1 0 tkn com) := hD
  refine lv_aload_n hx hb dX1_reset_45 rfl (lv_at hl 0 rfl) ?_
  refine lv_iconst (v := 0) hx hb dX1_reset_46 (by decide) ?_
  refine va_put (D := (dC, dI)) (ci := 1) (v := .int 0) (ty := .int) (C := RX1) (T := TX1) (N := 14) hx hb hts (fun _ h => List.mem_cons_of_mem _ (List.mem_append_right _ h)) tyX1 tyX1_ok nmX1 hown hK hP hD hS 0 rfl rfl 9 (by decide) (hts (.fieldLink RX1 65 "RetiredTimerModel" "taken" "I") (by decide +kernel)) (fun _ h9 => h9) rfl (by decide +kernel) rfl rfl (Nat.le_of_ble_eq_true rfl) dX1_reset_47 (fun H locs hP hD hS => ?_)
  have hP : va_P (dC, dI) vwCl (rt_mw h0 a1 a2 k1 k2 f g ent 0 0 0 0 0 0 1 0 0 com) H := hP
  have hD : va_D A (rt_mw h0 a1 a2 k1 k2 f g ent 0 0 0 0 0 0 1 0 0 com) := hD
  refine lv_aload_n hx hb dX1_reset_50 rfl (lv_at hl 0 rfl) ?_
  refine lv_iconst (v := 0) hx hb dX1_reset_51 (by decide) ?_
  refine va_put (D := (dC, dI)) (ci := 1) (v := .int 0) (ty := .int) (C := RX1) (T := TX1) (N := 14) hx hb hts (fun _ h => List.mem_cons_of_mem _ (List.mem_append_right _ h)) tyX1 tyX1_ok nmX1 hown hK hP hD hS 0 rfl rfl 12 (by decide) (hts (.fieldLink RX1 26 "RetiredTimerModel" "entries" "I") (by decide +kernel)) (fun _ h9 => h9) rfl (by decide +kernel) rfl rfl (Nat.le_of_ble_eq_true rfl) dX1_reset_52 (fun H locs hP hD hS => ?_)
  have hP : va_P (dC, dI) vwCl (rt_mw h0 a1 a2 k1 k2 f g 0 0 0 0 0 0 0 1 0 0 com) H := hP
  have hD : va_D A (rt_mw h0 a1 a2 k1 k2 f g 0 0 0 0 0 0 0 1 0 0 com) := hD
  refine lv_aload_n hx hb dX1_reset_55 rfl (lv_at hl 0 rfl) ?_
  refine lv_iconst (v := 0) hx hb dX1_reset_56 (by decide) ?_
  refine va_put (D := (dC, dI)) (ci := 1) (v := .int 0) (ty := .int) (C := RX1) (T := TX1) (N := 14) hx hb hts (fun _ h => List.mem_cons_of_mem _ (List.mem_append_right _ h)) tyX1 tyX1_ok nmX1 hown hK hP hD hS 0 rfl rfl 13 (by decide) (hts (.fieldLink RX1 23 "RetiredTimerModel" "come" "I") (by decide +kernel)) (fun _ h9 => h9) rfl (by decide +kernel) rfl rfl (Nat.le_of_ble_eq_true rfl) dX1_reset_57 (fun H locs hP hD hS => ?_)
  have hP : va_P (dC, dI) vwCl (rt_mw h0 a1 a2 k1 k2 f g 0 0 0 0 0 0 0 1 0 0 0) H := hP
  have hD : va_D A (rt_mw h0 a1 a2 k1 k2 f g 0 0 0 0 0 0 0 1 0 0 0) := hD
  exact W.vret hx hb hr (fun t ht hW => ⟨⟨(), rfl, trivial, by rw [ht]; exact hP, va_K.moved hW.alike hK, hD⟩, hS.F ht⟩) hS.2.2 dX1_reset_60
set_option maxHeartbeats 4000000 in
set_option maxRecDepth 100000 in
theorem c_M_back (l : Launch) (dC : Nat → ClassId) (dI : Nat → Nat → Nat) (h0 a1 a2 sz : Nat) (k1 k2 : ClassId) (f g : Nat → Int32) (ent ret cnt per cng pnd msk sr sav tkn com : Int32) :
    Met l yX1_back wsX1_back ({ frames := 0, cells := 0, slots := 0, locals := 0 }) (va_Pc [.ref h0] (rt_pre dC dI (rt_mw h0 a1 a2 k1 k2 f g ent ret cnt per cng pnd msk sr sav tkn com) [(k1, .int), (k2, .int)] sz)) (va_Qv (fun (u : Unit) => True) (rt_post dC dI [(k1, .int), (k2, .int)] (va_A (rt_mw h0 a1 a2 k1 k2 f g ent ret cnt per cng pnd msk sr sav tkn com) sz) (fun (u : Unit) => rt_mw h0 a1 a2 k1 k2 f g ent ret cnt per cng pnd msk sav sav tkn com)) (va_A (rt_mw h0 a1 a2 k1 k2 f g ent ret cnt per cng pnd msk sr sav tkn com) sz)) 0 0 (va_A (rt_mw h0 a1 a2 k1 k2 f g ent ret cnt per cng pnd msk sr sav tkn com) sz) := by
  refine Met.ofW (cc := cX1_back) (maxL := 1) (ret := none) (by decide) rfl ?_
  intro p e0 s m args below meth c s₁ B hml hv
  obtain ⟨rfl, hsz, hP, hK, hD0⟩ := hv
  have hx := B.exec
  have hb := B.bytes
  have hr := B.returns
  have hts := atoms_spec (ws := wsX1_back) B.pre
  have hown : s.vm.findClass RX1 = some m.cls := findClass_of_methodNamed B.named
  have hlocks := B.notSynchronized
  subst hsz
  have hD := hD0.self (sz := s.heap.size)
  generalize hAe : va_A (rt_mw h0 a1 a2 k1 k2 f g ent ret cnt per cng pnd msk sr sav tkn com) s.heap.size = A at hD ⊢
  have hA : ∀ q : Nat, s.heap.size ≤ q → A q := fun q h => by rw [← hAe]; exact Or.inr h
  have hS : va_S A s.heap s.heap [] := va_S.rf
  have hP : va_P (dC, dI) vwCl (rt_mw h0 a1 a2 k1 k2 f g ent ret cnt per cng pnd msk sr sav tkn com) s.heap := hP
  have hl := lv_entry ([.ref h0]) (n := 1) (Nat.le_of_ble_eq_true rfl)
  rw [lg_entry_eq]
  generalize (lg_sl ([.ref h0]) ++ List.replicate (1 - (lg_sl ([.ref h0])).length) Slot.unset).toArray = ls at hl ⊢
  have hl : lv_has ls 1 [(0, .ref h0)] := hl
  refine lv_aload_n hx hb dX1_back_0 rfl (lv_at hl 0 rfl) ?_
  refine lv_iconst (v := 0) hx hb dX1_back_1 (by decide) ?_
  refine va_put (D := (dC, dI)) (ci := 1) (v := .int 0) (ty := .int) (C := RX1) (T := TX1) (N := 14) hx hb hts (fun _ h => List.mem_cons_of_mem _ (List.mem_append_right _ h)) tyX1 tyX1_ok nmX1 hown hK hP hD hS 0 rfl rfl 0 (by decide) (hts (.fieldLink RX1 20 "RetiredTimerModel" "thrown" "I") (by decide +kernel)) (fun _ h9 => h9) rfl (by decide +kernel) rfl rfl (Nat.le_of_ble_eq_true rfl) dX1_back_2 (fun H locs hP hD hS => ?_)
  have hP : va_P (dC, dI) vwCl (rt_mw h0 a1 a2 k1 k2 f g ent ret cnt per cng pnd msk sr sav tkn com) H := hP
  have hD : va_D A (rt_mw h0 a1 a2 k1 k2 f g ent ret cnt per cng pnd msk sr sav tkn com) := hD
  refine lv_aload_n hx hb dX1_back_5 rfl (lv_at hl 0 rfl) ?_
  refine lv_aload_n hx hb dX1_back_6 rfl (lv_at hl 0 rfl) ?_
  refine va_get (D := (dC, dI)) (ci := 1) (v := .int sav) (C := RX1) (T := TX1) (N := 14) hx hb hts (fun _ h => List.mem_cons_of_mem _ (List.mem_append_right _ h)) hown hK hP 0 rfl rfl 8 (by decide) (hts (.fieldLink RX1 62 "RetiredTimerModel" "saved" "I") (by decide +kernel)) (fun _ h9 => h9) rfl dX1_back_7 ?_
  refine va_put (D := (dC, dI)) (ci := 1) (v := .int sav) (ty := .int) (C := RX1) (T := TX1) (N := 14) hx hb hts (fun _ h => List.mem_cons_of_mem _ (List.mem_append_right _ h)) tyX1 tyX1_ok nmX1 hown hK hP hD hS 0 rfl rfl 7 (by decide) (hts (.fieldLink RX1 7 "RetiredTimerModel" "sr" "I") (by decide +kernel)) (fun _ h9 => h9) rfl (by decide +kernel) rfl rfl (Nat.le_of_ble_eq_true rfl) dX1_back_10 (fun H locs hP hD hS => ?_)
  have hP : va_P (dC, dI) vwCl (rt_mw h0 a1 a2 k1 k2 f g ent ret cnt per cng pnd msk sav sav tkn com) H := hP
  have hD : va_D A (rt_mw h0 a1 a2 k1 k2 f g ent ret cnt per cng pnd msk sav sav tkn com) := hD
  exact W.vret hx hb hr (fun t ht hW => ⟨⟨(), rfl, trivial, by rw [ht]; exact hP, va_K.moved hW.alike hK, hD⟩, hS.F ht⟩) hS.2.2 dX1_back_13
set_option maxHeartbeats 4000000 in
set_option maxRecDepth 100000 in
theorem c_M_mode (l : Launch) (dC : Nat → ClassId) (dI : Nat → Nat → Nat) (h0 a1 a2 sz : Nat) (k1 k2 : ClassId) (f g : Nat → Int32) (ent ret cnt per cng pnd msk sr sav tkn com : Int32) (p1 : Int32) :
    Met l yX1_mode wsX1_mode ({ frames := 0, cells := 0, slots := 0, locals := 0 }) (va_Pc [.ref h0, .int p1] (rt_pre dC dI (rt_mw h0 a1 a2 k1 k2 f g ent ret cnt per cng pnd msk sr sav tkn com) [(k1, .int), (k2, .int)] sz)) (va_Qv (fun (u : Unit) => True) (rt_post dC dI [(k1, .int), (k2, .int)] (va_A (rt_mw h0 a1 a2 k1 k2 f g ent ret cnt per cng pnd msk sr sav tkn com) sz) (fun (u : Unit) => rt_mw h0 a1 a2 k1 k2 f g ent ret cnt per cng pnd msk (p1 &&& 39) sav tkn com)) (va_A (rt_mw h0 a1 a2 k1 k2 f g ent ret cnt per cng pnd msk sr sav tkn com) sz)) 0 0 (va_A (rt_mw h0 a1 a2 k1 k2 f g ent ret cnt per cng pnd msk sr sav tkn com) sz) := by
  refine Met.ofW (cc := cX1_mode) (maxL := 2) (ret := none) (by decide) rfl ?_
  intro p e0 s m args below meth c s₁ B hml hv
  obtain ⟨rfl, hsz, hP, hK, hD0⟩ := hv
  have hx := B.exec
  have hb := B.bytes
  have hr := B.returns
  have hts := atoms_spec (ws := wsX1_mode) B.pre
  have hown : s.vm.findClass RX1 = some m.cls := findClass_of_methodNamed B.named
  have hlocks := B.notSynchronized
  subst hsz
  have hD := hD0.self (sz := s.heap.size)
  generalize hAe : va_A (rt_mw h0 a1 a2 k1 k2 f g ent ret cnt per cng pnd msk sr sav tkn com) s.heap.size = A at hD ⊢
  have hA : ∀ q : Nat, s.heap.size ≤ q → A q := fun q h => by rw [← hAe]; exact Or.inr h
  have hS : va_S A s.heap s.heap [] := va_S.rf
  have hP : va_P (dC, dI) vwCl (rt_mw h0 a1 a2 k1 k2 f g ent ret cnt per cng pnd msk sr sav tkn com) s.heap := hP
  have hl := lv_entry ([.ref h0, .int p1]) (n := 2) (Nat.le_of_ble_eq_true rfl)
  rw [lg_entry_eq]
  generalize (lg_sl ([.ref h0, .int p1]) ++ List.replicate (2 - (lg_sl ([.ref h0, .int p1])).length) Slot.unset).toArray = ls at hl ⊢
  have hl : lv_has ls 2 [(0, .ref h0), (1, .int p1)] := hl
  refine lv_aload_n hx hb dX1_mode_0 rfl (lv_at hl 0 rfl) ?_
  refine lv_iconst (v := 0) hx hb dX1_mode_1 (by decide) ?_
  refine va_put (D := (dC, dI)) (ci := 1) (v := .int 0) (ty := .int) (C := RX1) (T := TX1) (N := 14) hx hb hts (fun _ h => List.mem_cons_of_mem _ (List.mem_append_right _ h)) tyX1 tyX1_ok nmX1 hown hK hP hD hS 0 rfl rfl 0 (by decide) (hts (.fieldLink RX1 20 "RetiredTimerModel" "thrown" "I") (by decide +kernel)) (fun _ h9 => h9) rfl (by decide +kernel) rfl rfl (Nat.le_of_ble_eq_true rfl) dX1_mode_2 (fun H locs hP hD hS => ?_)
  have hP : va_P (dC, dI) vwCl (rt_mw h0 a1 a2 k1 k2 f g ent ret cnt per cng pnd msk sr sav tkn com) H := hP
  have hD : va_D A (rt_mw h0 a1 a2 k1 k2 f g ent ret cnt per cng pnd msk sr sav tkn com) := hD
  refine lv_aload_n hx hb dX1_mode_5 rfl (lv_at hl 0 rfl) ?_
  refine lv_iload_n hx hb dX1_mode_6 rfl (lv_at hl 1 rfl) ?_
  refine lv_bipush (v := 39) hx hb dX1_mode_7 (by decide) ?_
  refine lv_iand hx hb dX1_mode_9 ?_
  refine va_put (D := (dC, dI)) (ci := 1) (v := .int (p1 &&& 39)) (ty := .int) (C := RX1) (T := TX1) (N := 14) hx hb hts (fun _ h => List.mem_cons_of_mem _ (List.mem_append_right _ h)) tyX1 tyX1_ok nmX1 hown hK hP hD hS 0 rfl rfl 7 (by decide) (hts (.fieldLink RX1 7 "RetiredTimerModel" "sr" "I") (by decide +kernel)) (fun _ h9 => h9) rfl (by decide +kernel) rfl rfl (Nat.le_of_ble_eq_true rfl) dX1_mode_10 (fun H locs hP hD hS => ?_)
  have hP : va_P (dC, dI) vwCl (rt_mw h0 a1 a2 k1 k2 f g ent ret cnt per cng pnd msk (p1 &&& 39) sav tkn com) H := hP
  have hD : va_D A (rt_mw h0 a1 a2 k1 k2 f g ent ret cnt per cng pnd msk (p1 &&& 39) sav tkn com) := hD
  exact W.vret hx hb hr (fun t ht hW => ⟨⟨(), rfl, trivial, by rw [ht]; exact hP, va_K.moved hW.alike hK, hD⟩, hS.F ht⟩) hS.2.2 dX1_mode_13
set_option maxHeartbeats 4000000 in
set_option maxRecDepth 100000 in
theorem c_M_mask (l : Launch) (dC : Nat → ClassId) (dI : Nat → Nat → Nat) (h0 a1 a2 sz : Nat) (k1 k2 : ClassId) (f g : Nat → Int32) (ent ret cnt per cng pnd msk sr sav tkn com : Int32) (p1 : Int32) :
    Met l yX1_mask wsX1_mask ({ frames := 0, cells := 0, slots := 0, locals := 0 }) (va_Pc [.ref h0, .int p1] (rt_pre dC dI (rt_mw h0 a1 a2 k1 k2 f g ent ret cnt per cng pnd msk sr sav tkn com) [(k1, .int), (k2, .int)] sz)) (va_Qv (fun (u : Unit) => True) (rt_post dC dI [(k1, .int), (k2, .int)] (va_A (rt_mw h0 a1 a2 k1 k2 f g ent ret cnt per cng pnd msk sr sav tkn com) sz) (fun (u : Unit) => rt_mw h0 a1 a2 k1 k2 f g ent ret cnt per cng pnd p1 sr sav tkn com)) (va_A (rt_mw h0 a1 a2 k1 k2 f g ent ret cnt per cng pnd msk sr sav tkn com) sz)) 0 0 (va_A (rt_mw h0 a1 a2 k1 k2 f g ent ret cnt per cng pnd msk sr sav tkn com) sz) := by
  refine Met.ofW (cc := cX1_mask) (maxL := 2) (ret := none) (by decide) rfl ?_
  intro p e0 s m args below meth c s₁ B hml hv
  obtain ⟨rfl, hsz, hP, hK, hD0⟩ := hv
  have hx := B.exec
  have hb := B.bytes
  have hr := B.returns
  have hts := atoms_spec (ws := wsX1_mask) B.pre
  have hown : s.vm.findClass RX1 = some m.cls := findClass_of_methodNamed B.named
  have hlocks := B.notSynchronized
  subst hsz
  have hD := hD0.self (sz := s.heap.size)
  generalize hAe : va_A (rt_mw h0 a1 a2 k1 k2 f g ent ret cnt per cng pnd msk sr sav tkn com) s.heap.size = A at hD ⊢
  have hA : ∀ q : Nat, s.heap.size ≤ q → A q := fun q h => by rw [← hAe]; exact Or.inr h
  have hS : va_S A s.heap s.heap [] := va_S.rf
  have hP : va_P (dC, dI) vwCl (rt_mw h0 a1 a2 k1 k2 f g ent ret cnt per cng pnd msk sr sav tkn com) s.heap := hP
  have hl := lv_entry ([.ref h0, .int p1]) (n := 2) (Nat.le_of_ble_eq_true rfl)
  rw [lg_entry_eq]
  generalize (lg_sl ([.ref h0, .int p1]) ++ List.replicate (2 - (lg_sl ([.ref h0, .int p1])).length) Slot.unset).toArray = ls at hl ⊢
  have hl : lv_has ls 2 [(0, .ref h0), (1, .int p1)] := hl
  refine lv_aload_n hx hb dX1_mask_0 rfl (lv_at hl 0 rfl) ?_
  refine lv_iconst (v := 0) hx hb dX1_mask_1 (by decide) ?_
  refine va_put (D := (dC, dI)) (ci := 1) (v := .int 0) (ty := .int) (C := RX1) (T := TX1) (N := 14) hx hb hts (fun _ h => List.mem_cons_of_mem _ (List.mem_append_right _ h)) tyX1 tyX1_ok nmX1 hown hK hP hD hS 0 rfl rfl 0 (by decide) (hts (.fieldLink RX1 20 "RetiredTimerModel" "thrown" "I") (by decide +kernel)) (fun _ h9 => h9) rfl (by decide +kernel) rfl rfl (Nat.le_of_ble_eq_true rfl) dX1_mask_2 (fun H locs hP hD hS => ?_)
  have hP : va_P (dC, dI) vwCl (rt_mw h0 a1 a2 k1 k2 f g ent ret cnt per cng pnd msk sr sav tkn com) H := hP
  have hD : va_D A (rt_mw h0 a1 a2 k1 k2 f g ent ret cnt per cng pnd msk sr sav tkn com) := hD
  refine lv_aload_n hx hb dX1_mask_5 rfl (lv_at hl 0 rfl) ?_
  refine lv_iload_n hx hb dX1_mask_6 rfl (lv_at hl 1 rfl) ?_
  refine va_put (D := (dC, dI)) (ci := 1) (v := .int p1) (ty := .int) (C := RX1) (T := TX1) (N := 14) hx hb hts (fun _ h => List.mem_cons_of_mem _ (List.mem_append_right _ h)) tyX1 tyX1_ok nmX1 hown hK hP hD hS 0 rfl rfl 6 (by decide) (hts (.fieldLink RX1 40 "RetiredTimerModel" "mask" "I") (by decide +kernel)) (fun _ h9 => h9) rfl (by decide +kernel) rfl rfl (Nat.le_of_ble_eq_true rfl) dX1_mask_7 (fun H locs hP hD hS => ?_)
  have hP : va_P (dC, dI) vwCl (rt_mw h0 a1 a2 k1 k2 f g ent ret cnt per cng pnd p1 sr sav tkn com) H := hP
  have hD : va_D A (rt_mw h0 a1 a2 k1 k2 f g ent ret cnt per cng pnd p1 sr sav tkn com) := hD
  exact W.vret hx hb hr (fun t ht hW => ⟨⟨(), rfl, trivial, by rw [ht]; exact hP, va_K.moved hW.alike hK, hD⟩, hS.F ht⟩) hS.2.2 dX1_mask_10
set_option maxHeartbeats 4000000 in
set_option maxRecDepth 100000 in
theorem c_M_count (l : Launch) (dC : Nat → ClassId) (dI : Nat → Nat → Nat) (h0 a1 a2 sz : Nat) (k1 k2 : ClassId) (f g : Nat → Int32) (ent ret cnt per cng pnd msk sr sav tkn com : Int32) (p1 : Int32) :
    Met l yX1_count wsX1_count ({ frames := 0, cells := 0, slots := 0, locals := 0 }) (va_Pc [.ref h0, .int p1] (rt_pre dC dI (rt_mw h0 a1 a2 k1 k2 f g ent ret cnt per cng pnd msk sr sav tkn com) [(k1, .int), (k2, .int)] sz)) (va_Qv (fun (u : Unit) => True) (rt_post dC dI [(k1, .int), (k2, .int)] (va_A (rt_mw h0 a1 a2 k1 k2 f g ent ret cnt per cng pnd msk sr sav tkn com) sz) (fun (u : Unit) => rt_mw h0 a1 a2 k1 k2 f g ent ret p1 per cng pnd msk sr sav tkn com)) (va_A (rt_mw h0 a1 a2 k1 k2 f g ent ret cnt per cng pnd msk sr sav tkn com) sz)) 0 0 (va_A (rt_mw h0 a1 a2 k1 k2 f g ent ret cnt per cng pnd msk sr sav tkn com) sz) := by
  refine Met.ofW (cc := cX1_count) (maxL := 2) (ret := none) (by decide) rfl ?_
  intro p e0 s m args below meth c s₁ B hml hv
  obtain ⟨rfl, hsz, hP, hK, hD0⟩ := hv
  have hx := B.exec
  have hb := B.bytes
  have hr := B.returns
  have hts := atoms_spec (ws := wsX1_count) B.pre
  have hown : s.vm.findClass RX1 = some m.cls := findClass_of_methodNamed B.named
  have hlocks := B.notSynchronized
  subst hsz
  have hD := hD0.self (sz := s.heap.size)
  generalize hAe : va_A (rt_mw h0 a1 a2 k1 k2 f g ent ret cnt per cng pnd msk sr sav tkn com) s.heap.size = A at hD ⊢
  have hA : ∀ q : Nat, s.heap.size ≤ q → A q := fun q h => by rw [← hAe]; exact Or.inr h
  have hS : va_S A s.heap s.heap [] := va_S.rf
  have hP : va_P (dC, dI) vwCl (rt_mw h0 a1 a2 k1 k2 f g ent ret cnt per cng pnd msk sr sav tkn com) s.heap := hP
  have hl := lv_entry ([.ref h0, .int p1]) (n := 2) (Nat.le_of_ble_eq_true rfl)
  rw [lg_entry_eq]
  generalize (lg_sl ([.ref h0, .int p1]) ++ List.replicate (2 - (lg_sl ([.ref h0, .int p1])).length) Slot.unset).toArray = ls at hl ⊢
  have hl : lv_has ls 2 [(0, .ref h0), (1, .int p1)] := hl
  refine lv_aload_n hx hb dX1_count_0 rfl (lv_at hl 0 rfl) ?_
  refine lv_iconst (v := 0) hx hb dX1_count_1 (by decide) ?_
  refine va_put (D := (dC, dI)) (ci := 1) (v := .int 0) (ty := .int) (C := RX1) (T := TX1) (N := 14) hx hb hts (fun _ h => List.mem_cons_of_mem _ (List.mem_append_right _ h)) tyX1 tyX1_ok nmX1 hown hK hP hD hS 0 rfl rfl 0 (by decide) (hts (.fieldLink RX1 20 "RetiredTimerModel" "thrown" "I") (by decide +kernel)) (fun _ h9 => h9) rfl (by decide +kernel) rfl rfl (Nat.le_of_ble_eq_true rfl) dX1_count_2 (fun H locs hP hD hS => ?_)
  have hP : va_P (dC, dI) vwCl (rt_mw h0 a1 a2 k1 k2 f g ent ret cnt per cng pnd msk sr sav tkn com) H := hP
  have hD : va_D A (rt_mw h0 a1 a2 k1 k2 f g ent ret cnt per cng pnd msk sr sav tkn com) := hD
  refine lv_aload_n hx hb dX1_count_5 rfl (lv_at hl 0 rfl) ?_
  refine lv_iload_n hx hb dX1_count_6 rfl (lv_at hl 1 rfl) ?_
  refine va_put (D := (dC, dI)) (ci := 1) (v := .int p1) (ty := .int) (C := RX1) (T := TX1) (N := 14) hx hb hts (fun _ h => List.mem_cons_of_mem _ (List.mem_append_right _ h)) tyX1 tyX1_ok nmX1 hown hK hP hD hS 0 rfl rfl 2 (by decide) (hts (.fieldLink RX1 49 "RetiredTimerModel" "count" "I") (by decide +kernel)) (fun _ h9 => h9) rfl (by decide +kernel) rfl rfl (Nat.le_of_ble_eq_true rfl) dX1_count_7 (fun H locs hP hD hS => ?_)
  have hP : va_P (dC, dI) vwCl (rt_mw h0 a1 a2 k1 k2 f g ent ret p1 per cng pnd msk sr sav tkn com) H := hP
  have hD : va_D A (rt_mw h0 a1 a2 k1 k2 f g ent ret p1 per cng pnd msk sr sav tkn com) := hD
  exact W.vret hx hb hr (fun t ht hW => ⟨⟨(), rfl, trivial, by rw [ht]; exact hP, va_K.moved hW.alike hK, hD⟩, hS.F ht⟩) hS.2.2 dX1_count_10
set_option maxHeartbeats 4000000 in
set_option maxRecDepth 100000 in
theorem c_M_timer (l : Launch) (dC : Nat → ClassId) (dI : Nat → Nat → Nat) (h0 a1 a2 sz : Nat) (k1 k2 : ClassId) (f g : Nat → Int32) (ent ret cnt per cng pnd msk sr sav tkn com : Int32) (p1 : Int32) (p2 : Int32) (p3 : Int32) (hb2 : p2 = 0 ∨ p2 = 1) (hb3 : p3 = 0 ∨ p3 = 1) :
    Met l yX1_timer wsX1_timer ({ frames := 0, cells := 0, slots := 0, locals := 0 }) (va_Pc [.ref h0, .int p1, .int p2, .int p3] (rt_pre dC dI (rt_mw h0 a1 a2 k1 k2 f g ent ret cnt per cng pnd msk sr sav tkn com) [(k1, .int), (k2, .int)] sz)) (va_Qv (fun (u : Unit) => True) (rt_post dC dI [(k1, .int), (k2, .int)] (va_A (rt_mw h0 a1 a2 k1 k2 f g ent ret cnt per cng pnd msk sr sav tkn com) sz) (fun (u : Unit) => rt_mw h0 a1 a2 k1 k2 f g ent ret cnt (p1 &&& 268435455) p2 p3 msk sr sav tkn com)) (va_A (rt_mw h0 a1 a2 k1 k2 f g ent ret cnt per cng pnd msk sr sav tkn com) sz)) 0 0 (va_A (rt_mw h0 a1 a2 k1 k2 f g ent ret cnt per cng pnd msk sr sav tkn com) sz) := by
  refine Met.ofW (cc := cX1_timer) (maxL := 4) (ret := none) (by decide) rfl ?_
  intro p e0 s m args below meth c s₁ B hml hv
  obtain ⟨rfl, hsz, hP, hK, hD0⟩ := hv
  have hx := B.exec
  have hb := B.bytes
  have hr := B.returns
  have hts := atoms_spec (ws := wsX1_timer) B.pre
  have hown : s.vm.findClass RX1 = some m.cls := findClass_of_methodNamed B.named
  have hlocks := B.notSynchronized
  subst hsz
  have hD := hD0.self (sz := s.heap.size)
  generalize hAe : va_A (rt_mw h0 a1 a2 k1 k2 f g ent ret cnt per cng pnd msk sr sav tkn com) s.heap.size = A at hD ⊢
  have hA : ∀ q : Nat, s.heap.size ≤ q → A q := fun q h => by rw [← hAe]; exact Or.inr h
  have hS : va_S A s.heap s.heap [] := va_S.rf
  have hP : va_P (dC, dI) vwCl (rt_mw h0 a1 a2 k1 k2 f g ent ret cnt per cng pnd msk sr sav tkn com) s.heap := hP
  have hl := lv_entry ([.ref h0, .int p1, .int p2, .int p3]) (n := 4) (Nat.le_of_ble_eq_true rfl)
  rw [lg_entry_eq]
  generalize (lg_sl ([.ref h0, .int p1, .int p2, .int p3]) ++ List.replicate (4 - (lg_sl ([.ref h0, .int p1, .int p2, .int p3])).length) Slot.unset).toArray = ls at hl ⊢
  have hl : lv_has ls 4 [(0, .ref h0), (1, .int p1), (2, .int p2), (3, .int p3)] := hl
  refine lv_aload_n hx hb dX1_timer_0 rfl (lv_at hl 0 rfl) ?_
  refine lv_iconst (v := 0) hx hb dX1_timer_1 (by decide) ?_
  refine va_put (D := (dC, dI)) (ci := 1) (v := .int 0) (ty := .int) (C := RX1) (T := TX1) (N := 14) hx hb hts (fun _ h => List.mem_cons_of_mem _ (List.mem_append_right _ h)) tyX1 tyX1_ok nmX1 hown hK hP hD hS 0 rfl rfl 0 (by decide) (hts (.fieldLink RX1 20 "RetiredTimerModel" "thrown" "I") (by decide +kernel)) (fun _ h9 => h9) rfl (by decide +kernel) rfl rfl (Nat.le_of_ble_eq_true rfl) dX1_timer_2 (fun H locs hP hD hS => ?_)
  have hP : va_P (dC, dI) vwCl (rt_mw h0 a1 a2 k1 k2 f g ent ret cnt per cng pnd msk sr sav tkn com) H := hP
  have hD : va_D A (rt_mw h0 a1 a2 k1 k2 f g ent ret cnt per cng pnd msk sr sav tkn com) := hD
  refine lv_aload_n hx hb dX1_timer_5 rfl (lv_at hl 0 rfl) ?_
  refine lv_iload_n hx hb dX1_timer_6 rfl (lv_at hl 1 rfl) ?_
  refine lv_ldc (v := 268435455) hx hb hown (hts (.constant RX1 68 268435455) (by decide +kernel)) dX1_timer_7 ?_
  refine lv_iand hx hb dX1_timer_9 ?_
  refine va_put (D := (dC, dI)) (ci := 1) (v := .int (p1 &&& 268435455)) (ty := .int) (C := RX1) (T := TX1) (N := 14) hx hb hts (fun _ h => List.mem_cons_of_mem _ (List.mem_append_right _ h)) tyX1 tyX1_ok nmX1 hown hK hP hD hS 0 rfl rfl 3 (by decide) (hts (.fieldLink RX1 52 "RetiredTimerModel" "period" "I") (by decide +kernel)) (fun _ h9 => h9) rfl (by decide +kernel) rfl rfl (Nat.le_of_ble_eq_true rfl) dX1_timer_10 (fun H locs hP hD hS => ?_)
  have hP : va_P (dC, dI) vwCl (rt_mw h0 a1 a2 k1 k2 f g ent ret cnt (p1 &&& 268435455) cng pnd msk sr sav tkn com) H := hP
  have hD : va_D A (rt_mw h0 a1 a2 k1 k2 f g ent ret cnt (p1 &&& 268435455) cng pnd msk sr sav tkn com) := hD
  refine lv_aload_n hx hb dX1_timer_13 rfl (lv_at hl 0 rfl) ?_
  refine lv_iload_n hx hb dX1_timer_14 rfl (lv_at hl 2 rfl) ?_
  refine va_put (D := (dC, dI)) (ci := 1) (v := .int p2) (ty := .boolean) (C := RX1) (T := TX1) (N := 14) hx hb hts (fun _ h => List.mem_cons_of_mem _ (List.mem_append_right _ h)) tyX1 tyX1_ok nmX1 hown hK hP hD hS 0 rfl rfl 4 (by decide) (hts (.fieldLink RX1 46 "RetiredTimerModel" "counting" "Z") (by decide +kernel)) (fun _ h9 => h9) rfl (by decide +kernel) (rt_bool hb2) (rt_boolF hb2) (Nat.le_of_ble_eq_true rfl) dX1_timer_15 (fun H locs hP hD hS => ?_)
  have hP : va_P (dC, dI) vwCl (rt_mw h0 a1 a2 k1 k2 f g ent ret cnt (p1 &&& 268435455) p2 pnd msk sr sav tkn com) H := hP
  have hD : va_D A (rt_mw h0 a1 a2 k1 k2 f g ent ret cnt (p1 &&& 268435455) p2 pnd msk sr sav tkn com) := hD
  refine lv_aload_n hx hb dX1_timer_18 rfl (lv_at hl 0 rfl) ?_
  refine lv_iload_n hx hb dX1_timer_19 rfl (lv_at hl 3 rfl) ?_
  refine va_put (D := (dC, dI)) (ci := 1) (v := .int p3) (ty := .boolean) (C := RX1) (T := TX1) (N := 14) hx hb hts (fun _ h => List.mem_cons_of_mem _ (List.mem_append_right _ h)) tyX1 tyX1_ok nmX1 hown hK hP hD hS 0 rfl rfl 5 (by decide) (hts (.fieldLink RX1 32 "RetiredTimerModel" "pending" "Z") (by decide +kernel)) (fun _ h9 => h9) rfl (by decide +kernel) (rt_bool hb3) (rt_boolF hb3) (Nat.le_of_ble_eq_true rfl) dX1_timer_20 (fun H locs hP hD hS => ?_)
  have hP : va_P (dC, dI) vwCl (rt_mw h0 a1 a2 k1 k2 f g ent ret cnt (p1 &&& 268435455) p2 p3 msk sr sav tkn com) H := hP
  have hD : va_D A (rt_mw h0 a1 a2 k1 k2 f g ent ret cnt (p1 &&& 268435455) p2 p3 msk sr sav tkn com) := hD
  exact W.vret hx hb hr (fun t ht hW => ⟨⟨(), rfl, trivial, by rw [ht]; exact hP, va_K.moved hW.alike hK, hD⟩, hS.F ht⟩) hS.2.2 dX1_timer_23
end
section
set_option maxHeartbeats 4000000 in
set_option maxRecDepth 100000 in
theorem c_M_entry (l : Launch) (dC : Nat → ClassId) (dI : Nat → Nat → Nat) (h0 a1 a2 sz : Nat) (k1 k2 : ClassId) (f g : Nat → Int32) (ent ret cnt per cng pnd msk sr sav tkn com : Int32) (p1 : Int32) (p2 : Int32) (en rn kn : Nat) (he : ent = nI en) (h32 : en ≤ 32) (hrn : ret = nI rn) (hk : com = nI kn) (hs : rt_Srt f en) (hc : rt_Come f en rn kn) :
    Met l yX1_entry wsX1_entry ({ frames := 1, cells := 0, slots := 0, locals := 20 }) (va_Pc [.ref h0, .int p1, .int p2] (rt_pre dC dI (rt_mw h0 a1 a2 k1 k2 f g ent ret cnt per cng pnd msk sr sav tkn com) [(k1, .int), (k2, .int)] sz)) (va_Qi (fun (v : Int32) (u : (Nat → Int32) × (Nat → Int32) × Int32 × Nat) => (rt_ref f en p1 ∧ v = 0 ∧ u.1 = f ∧ u.2.1 = g ∧ u.2.2.1 = nI en ∧ u.2.2.2 = kn) ∨ (¬ rt_ref f en p1 ∧ v = 1 ∧ u.1 = upd f en p1 ∧ u.2.1 = upd g en p2 ∧ u.2.2.1 = nI (en + 1) ∧ rt_Come (upd f en p1) (en + 1) rn u.2.2.2)) (rt_post dC dI [(k1, .int), (k2, .int)] (va_A (rt_mw h0 a1 a2 k1 k2 f g ent ret cnt per cng pnd msk sr sav tkn com) sz) (fun (u : (Nat → Int32) × (Nat → Int32) × Int32 × Nat) => rt_mw h0 a1 a2 k1 k2 u.1 u.2.1 u.2.2.1 ret cnt per cng pnd msk sr sav tkn (nI u.2.2.2))) (va_A (rt_mw h0 a1 a2 k1 k2 f g ent ret cnt per cng pnd msk sr sav tkn com) sz)) 0 0 (va_A (rt_mw h0 a1 a2 k1 k2 f g ent ret cnt per cng pnd msk sr sav tkn com) sz) := by
  subst he
  subst hrn
  subst hk
  refine Met.ofW (cc := cX1_entry) (maxL := 3) (ret := (some .boolean)) (by decide) rfl ?_
  intro p e0 s m args below meth c s₁ B hml hv
  obtain ⟨rfl, hsz, hP, hK, hD0⟩ := hv
  have hx := B.exec
  have hb := B.bytes
  have hr := B.returns
  have hts := atoms_spec (ws := wsX1_entry) B.pre
  have hown : s.vm.findClass RX1 = some m.cls := findClass_of_methodNamed B.named
  have hlocks := B.notSynchronized
  subst hsz
  have hD := hD0.self (sz := s.heap.size)
  generalize hAe : va_A (rt_mw h0 a1 a2 k1 k2 f g (nI en) (nI rn) cnt per cng pnd msk sr sav tkn (nI kn)) s.heap.size = A at hD ⊢
  have hA : ∀ q : Nat, s.heap.size ≤ q → A q := fun q h => by rw [← hAe]; exact Or.inr h
  have hS : va_S A s.heap s.heap [] := va_S.rf
  have hP : va_P (dC, dI) vwCl (rt_mw h0 a1 a2 k1 k2 f g (nI en) (nI rn) cnt per cng pnd msk sr sav tkn (nI kn)) s.heap := hP
  have hl := lv_entry ([.ref h0, .int p1, .int p2]) (n := 3) (Nat.le_of_ble_eq_true rfl)
  rw [lg_entry_eq]
  generalize (lg_sl ([.ref h0, .int p1, .int p2]) ++ List.replicate (3 - (lg_sl ([.ref h0, .int p1, .int p2])).length) Slot.unset).toArray = ls at hl ⊢
  have hl : lv_has ls 3 [(0, .ref h0), (1, .int p1), (2, .int p2)] := hl
  refine lv_aload_n hx hb dX1_entry_0 rfl (lv_at hl 0 rfl) ?_
  refine lv_iconst (v := 0) hx hb dX1_entry_1 (by decide) ?_
  refine va_put (D := (dC, dI)) (ci := 1) (v := .int 0) (ty := .int) (C := RX1) (T := TX1) (N := 14) hx hb hts (fun _ h => List.mem_cons_of_mem _ (List.mem_append_right _ h)) tyX1 tyX1_ok nmX1 hown hK hP hD hS 0 rfl rfl 0 (by decide) (hts (.fieldLink RX1 20 "RetiredTimerModel" "thrown" "I") (by decide +kernel)) (fun _ h9 => h9) rfl (by decide +kernel) rfl rfl (Nat.le_of_ble_eq_true rfl) dX1_entry_2 (fun H locs hP hD hS => ?_)
  have hP : va_P (dC, dI) vwCl (rt_mw h0 a1 a2 k1 k2 f g (nI en) (nI rn) cnt per cng pnd msk sr sav tkn (nI kn)) H := hP
  have hD : va_D A (rt_mw h0 a1 a2 k1 k2 f g (nI en) (nI rn) cnt per cng pnd msk sr sav tkn (nI kn)) := hD
  refine lv_iload_n hx hb dX1_entry_5 rfl (lv_at hl 1 rfl) ?_
  refine lv_if_lt (tgt := 51) hx hb dX1_entry_6 (by decide) (fun c_6 => ?_) (fun c_6 => ?_)
  · refine lv_iconst (v := 0) hx hb dX1_entry_51 (by decide) ?_
    exact W.zret (v := 0) hx hb hr rfl (fun t ht hW => ⟨⟨0, (f, g, (nI en), kn), rfl, Or.inl ⟨(rt_ref_m hs).mpr (Or.inl c_6), rfl, rfl, rfl, rfl, rfl⟩, by rw [ht]; exact hP, va_K.moved hW.alike hK, hD⟩, hS.F ht⟩) hS.2.2 dX1_entry_52
  · refine lv_aload_n hx hb dX1_entry_9 rfl (lv_at hl 0 rfl) ?_
    refine va_get (D := (dC, dI)) (ci := 1) (v := .int (nI en)) (C := RX1) (T := TX1) (N := 14) hx hb hts (fun _ h => List.mem_cons_of_mem _ (List.mem_append_right _ h)) hown hK hP 0 rfl rfl 12 (by decide) (hts (.fieldLink RX1 26 "RetiredTimerModel" "entries" "I") (by decide +kernel)) (fun _ h9 => h9) rfl dX1_entry_10 ?_
    refine lv_bipush (v := 32) hx hb dX1_entry_13 (by decide) ?_
    refine lv_icmp_eq (tgt := 51) hx hb dX1_entry_15 (by decide) (fun c_15 => ?_) (fun c_15 => ?_)
    · refine lv_iconst (v := 0) hx hb dX1_entry_51 (by decide) ?_
      exact W.zret (v := 0) hx hb hr rfl (fun t ht hW => ⟨⟨0, (f, g, (nI en), kn), rfl, Or.inl ⟨(rt_ref_m hs).mpr (Or.inr (Or.inl ((rt_eq32 h32).mp c_15))), rfl, rfl, rfl, rfl, rfl⟩, by rw [ht]; exact hP, va_K.moved hW.alike hK, hD⟩, hS.F ht⟩) hS.2.2 dX1_entry_52
    · refine lv_aload_n hx hb dX1_entry_18 rfl (lv_at hl 0 rfl) ?_
      refine va_get (D := (dC, dI)) (ci := 1) (v := .int (nI en)) (C := RX1) (T := TX1) (N := 14) hx hb hts (fun _ h => List.mem_cons_of_mem _ (List.mem_append_right _ h)) hown hK hP 0 rfl rfl 12 (by decide) (hts (.fieldLink RX1 26 "RetiredTimerModel" "entries" "I") (by decide +kernel)) (fun _ h9 => h9) rfl dX1_entry_19 ?_
      refine lv_if_le (tgt := 53) hx hb dX1_entry_22 (by decide) (fun c_22 => ?_) (fun c_22 => ?_)
      · have hlt : en < 32 := by have : ¬ en = 32 := fun h => c_15 ((rt_eq32 h32).mpr h); omega
        refine lv_aload_n hx hb dX1_entry_53 rfl (lv_at hl 0 rfl) ?_
        refine va_get (D := (dC, dI)) (ci := 1) (v := .ref a1) (C := RX1) (T := TX1) (N := 14) hx hb hts (fun _ h => List.mem_cons_of_mem _ (List.mem_append_right _ h)) hown hK hP 0 rfl rfl 10 (by decide) (hts (.fieldLink RX1 13 "RetiredTimerModel" "counts" "[I") (by decide +kernel)) (fun _ h9 => h9) rfl dX1_entry_54 ?_
        refine lv_aload_n hx hb dX1_entry_57 rfl (lv_at hl 0 rfl) ?_
        refine va_get (D := (dC, dI)) (ci := 1) (v := .int (nI en)) (C := RX1) (T := TX1) (N := 14) hx hb hts (fun _ h => List.mem_cons_of_mem _ (List.mem_append_right _ h)) hown hK hP 0 rfl rfl 12 (by decide) (hts (.fieldLink RX1 26 "RetiredTimerModel" "entries" "I") (by decide +kernel)) (fun _ h9 => h9) rfl dX1_entry_58 ?_
        refine lv_iload_n hx hb dX1_entry_61 rfl (lv_at hl 1 rfl) ?_
        refine va_iast hx hb hK hP hD hS 1 0 rfl rfl (vp_in_nI (N := 32) hlt (by decide)) dX1_entry_62 (fun H locs hP hD hS => ?_)
        have hP : va_P (dC, dI) vwCl (rt_mw h0 a1 a2 k1 k2 (upd f (nI en).toNatClampNeg p1) g (nI en) (nI rn) cnt per cng pnd msk sr sav tkn (nI kn)) H := hP
        have hD : va_D A (rt_mw h0 a1 a2 k1 k2 (upd f (nI en).toNatClampNeg p1) g (nI en) (nI rn) cnt per cng pnd msk sr sav tkn (nI kn)) := hD
        rw [show (nI en).toNatClampNeg = en from nI_clamp (by omega)] at hP hD
        refine lv_aload_n hx hb dX1_entry_63 rfl (lv_at hl 0 rfl) ?_
        refine va_get (D := (dC, dI)) (ci := 1) (v := .ref a2) (C := RX1) (T := TX1) (N := 14) hx hb hts (fun _ h => List.mem_cons_of_mem _ (List.mem_append_right _ h)) hown hK hP 0 rfl rfl 11 (by decide) (hts (.fieldLink RX1 17 "RetiredTimerModel" "values" "[I") (by decide +kernel)) (fun _ h9 => h9) rfl dX1_entry_64 ?_
        refine lv_aload_n hx hb dX1_entry_67 rfl (lv_at hl 0 rfl) ?_
        refine va_get (D := (dC, dI)) (ci := 1) (v := .int (nI en)) (C := RX1) (T := TX1) (N := 14) hx hb hts (fun _ h => List.mem_cons_of_mem _ (List.mem_append_right _ h)) hown hK hP 0 rfl rfl 12 (by decide) (hts (.fieldLink RX1 26 "RetiredTimerModel" "entries" "I") (by decide +kernel)) (fun _ h9 => h9) rfl dX1_entry_68 ?_
        refine lv_iload_n hx hb dX1_entry_71 rfl (lv_at hl 2 rfl) ?_
        refine va_iast hx hb hK hP hD hS 2 1 rfl rfl (vp_in_nI (N := 32) hlt (by decide)) dX1_entry_72 (fun H locs hP hD hS => ?_)
        have hP : va_P (dC, dI) vwCl (rt_mw h0 a1 a2 k1 k2 (upd f en p1) (upd g (nI en).toNatClampNeg p2) (nI en) (nI rn) cnt per cng pnd msk sr sav tkn (nI kn)) H := hP
        have hD : va_D A (rt_mw h0 a1 a2 k1 k2 (upd f en p1) (upd g (nI en).toNatClampNeg p2) (nI en) (nI rn) cnt per cng pnd msk sr sav tkn (nI kn)) := hD
        rw [show (nI en).toNatClampNeg = en from nI_clamp (by omega)] at hP hD
        refine lv_aload_n hx hb dX1_entry_73 rfl (lv_at hl 0 rfl) ?_
        refine lv_dup hx hb dX1_entry_74 rfl ?_
        refine va_get (D := (dC, dI)) (ci := 1) (v := .int (nI en)) (C := RX1) (T := TX1) (N := 14) hx hb hts (fun _ h => List.mem_cons_of_mem _ (List.mem_append_right _ h)) hown hK hP 0 rfl rfl 12 (by decide) (hts (.fieldLink RX1 26 "RetiredTimerModel" "entries" "I") (by decide +kernel)) (fun _ h9 => h9) rfl dX1_entry_75 ?_
        refine lv_iconst (v := 1) hx hb dX1_entry_78 (by decide) ?_
        refine lv_iadd hx hb dX1_entry_79 ?_
        refine va_put (D := (dC, dI)) (ci := 1) (v := .int ((nI en) + 1)) (ty := .int) (C := RX1) (T := TX1) (N := 14) hx hb hts (fun _ h => List.mem_cons_of_mem _ (List.mem_append_right _ h)) tyX1 tyX1_ok nmX1 hown hK hP hD hS 0 rfl rfl 12 (by decide) (hts (.fieldLink RX1 26 "RetiredTimerModel" "entries" "I") (by decide +kernel)) (fun _ h9 => h9) rfl (by decide +kernel) rfl rfl (Nat.le_of_ble_eq_true rfl) dX1_entry_80 (fun H locs hP hD hS => ?_)
        have hP : va_P (dC, dI) vwCl (rt_mw h0 a1 a2 k1 k2 (upd f en p1) (upd g en p2) ((nI en) + 1) (nI rn) cnt per cng pnd msk sr sav tkn (nI kn)) H := hP
        have hD : va_D A (rt_mw h0 a1 a2 k1 k2 (upd f en p1) (upd g en p2) ((nI en) + 1) (nI rn) cnt per cng pnd msk sr sav tkn (nI kn)) := hD
        refine lv_aload_n hx hb dX1_entry_83 rfl (lv_at hl 0 rfl) ?_
        have hFc := va_free (wc := rt_mw h0 a1 a2 k1 k2 (upd f en p1) (upd g en p2) ((nI en) + 1) (nI rn) cnt per cng pnd msk sr sav tkn (nI kn)) hD hS hA [0, 1, 2] rfl
        refine va_callv (va_runV (As := []) (rest := []) ⟨hx, hb, hml, hown, hts⟩ (c_M_goOn l dC dI h0 a1 a2 H.size k1 k2 (upd f en p1) (upd g en p2) ((nI en) + 1) (nI rn) cnt per cng pnd msk sr sav tkn (nI kn) (en + 1) kn (nI_1 en) (by omega) rfl (by have := hc.1; omega)) (cwV 0 hts gX1_entry_X1_goOn rfl rfl rfl (by decide +kernel) ⟨Nat.le_of_ble_eq_true rfl, Nat.le_of_ble_eq_true rfl⟩) ⟨fun a U g mk q => by obtain ⟨q0, q1, qP, qK, qD⟩ := q; exact ⟨q0, q1, qP, va_K.moved (u := U) (U := U.calling g mk a) (Vm.Alike.refl U.vm) qK, qD⟩, va_recv hK hP (ci := 1) (q0 := 0) rfl rfl, fun U hU hW => ⟨rfl, by rw [hU], by rw [hU]; exact hP, va_K.moved hW.alike hK, hD.weaken (fun _ _ _ _ => trivial)⟩⟩ rfl rfl hl.1 rfl (lv_room (Nat.le_of_ble_eq_true rfl)) dX1_entry_84 ⟨Nat.zero_le _, Nat.zero_le _⟩) hS (fun q _ h => hFc q h) hFc (fun u t H1 locs ht hvm hw_84 hB hz1 hk1 hS => ?_)
        obtain ⟨com_84, rfl⟩ : ∃ z, z = u := ⟨_, rfl⟩
        obtain ⟨hP1, hK1, hD1⟩ := hB
        rw [ht] at hP1
        try dsimp only at hw_84 hP1 hD1
        obtain ⟨hP, hD⟩ := va_join (wr := []) (w1 := rt_mw h0 a1 a2 k1 k2 (upd f en p1) (upd g en p2) ((nI en) + 1) (nI rn) cnt per cng pnd msk sr sav tkn (nI com_84)) hP hD [0, 1, 2] [] rfl rfl (by decide) (by decide) hk1 hFc hP1 hD1
        generalize H1 = H at hP hS ⊢
        have hP : va_P (dC, dI) vwCl (rt_mw h0 a1 a2 k1 k2 (upd f en p1) (upd g en p2) ((nI en) + 1) (nI rn) cnt per cng pnd msk sr sav tkn (nI com_84)) H := hP
        have hD : va_D A (rt_mw h0 a1 a2 k1 k2 (upd f en p1) (upd g en p2) ((nI en) + 1) (nI rn) cnt per cng pnd msk sr sav tkn (nI com_84)) := hD
        refine lv_iconst (v := 1) hx hb dX1_entry_87 (by decide) ?_
        have hnr : ¬ rt_ref f en p1 := fun h => ((rt_ref_m hs).mp h).elim c_6 (fun h => h.elim (fun h => c_15 ((rt_eq32 h32).mpr h)) (fun h => by have := rt_z0 (by omega) c_22; omega))
        exact W.zret (v := 1) hx hb hr rfl (fun t ht hW => ⟨⟨1, (upd f en p1, upd g en p2, (nI en) + 1, com_84), rfl, Or.inr ⟨hnr, rfl, rfl, rfl, nI_1 en, rt_come_add hs hc hnr hw_84⟩, by rw [ht]; exact hP, va_K.moved hW.alike hK, hD⟩, hS.F ht⟩) hS.2.2 dX1_entry_88
      · have hpos : 0 < en := rt_npos (by omega) c_22
        refine lv_iload_n hx hb dX1_entry_25 rfl (lv_at hl 1 rfl) ?_
        refine lv_aload_n hx hb dX1_entry_26 rfl (lv_at hl 0 rfl) ?_
        refine va_get (D := (dC, dI)) (ci := 1) (v := .ref a1) (C := RX1) (T := TX1) (N := 14) hx hb hts (fun _ h => List.mem_cons_of_mem _ (List.mem_append_right _ h)) hown hK hP 0 rfl rfl 10 (by decide) (hts (.fieldLink RX1 13 "RetiredTimerModel" "counts" "[I") (by decide +kernel)) (fun _ h9 => h9) rfl dX1_entry_27 ?_
        refine lv_aload_n hx hb dX1_entry_30 rfl (lv_at hl 0 rfl) ?_
        refine va_get (D := (dC, dI)) (ci := 1) (v := .int (nI en)) (C := RX1) (T := TX1) (N := 14) hx hb hts (fun _ h => List.mem_cons_of_mem _ (List.mem_append_right _ h)) hown hK hP 0 rfl rfl 12 (by decide) (hts (.fieldLink RX1 26 "RetiredTimerModel" "entries" "I") (by decide +kernel)) (fun _ h9 => h9) rfl dX1_entry_31 ?_
        refine lv_if_le (tgt := 46) hx hb dX1_entry_34 (by decide) (fun c_34 => absurd c_34 c_22) (fun c_34 => ?_)
        refine lv_aload_n hx hb dX1_entry_37 rfl (lv_at hl 0 rfl) ?_
        refine va_get (D := (dC, dI)) (ci := 1) (v := .int (nI en)) (C := RX1) (T := TX1) (N := 14) hx hb hts (fun _ h => List.mem_cons_of_mem _ (List.mem_append_right _ h)) hown hK hP 0 rfl rfl 12 (by decide) (hts (.fieldLink RX1 26 "RetiredTimerModel" "entries" "I") (by decide +kernel)) (fun _ h9 => h9) rfl dX1_entry_38 ?_
        refine lv_iconst (v := 1) hx hb dX1_entry_41 (by decide) ?_
        refine lv_isub hx hb dX1_entry_42 ?_
        refine lv_goto (tgt := 47) hx hb dX1_entry_43 (by decide) ?_
        refine va_iald hx hb hK hP 1 0 rfl rfl (rt_inP hpos (by omega) (by decide)) dX1_entry_47 ?_
        rw [show f ((nI en) - 1).toNatClampNeg = f (en - 1) from by rw [rt_pre1 hpos, nI_clamp (by omega)]]
        refine lv_icmp_gt (tgt := 53) hx hb dX1_entry_48 (by decide) (fun c_48 => ?_) (fun c_48 => ?_)
        · have hlt : en < 32 := by have : ¬ en = 32 := fun h => c_15 ((rt_eq32 h32).mpr h); omega
          refine lv_aload_n hx hb dX1_entry_53 rfl (lv_at hl 0 rfl) ?_
          refine va_get (D := (dC, dI)) (ci := 1) (v := .ref a1) (C := RX1) (T := TX1) (N := 14) hx hb hts (fun _ h => List.mem_cons_of_mem _ (List.mem_append_right _ h)) hown hK hP 0 rfl rfl 10 (by decide) (hts (.fieldLink RX1 13 "RetiredTimerModel" "counts" "[I") (by decide +kernel)) (fun _ h9 => h9) rfl dX1_entry_54 ?_
          refine lv_aload_n hx hb dX1_entry_57 rfl (lv_at hl 0 rfl) ?_
          refine va_get (D := (dC, dI)) (ci := 1) (v := .int (nI en)) (C := RX1) (T := TX1) (N := 14) hx hb hts (fun _ h => List.mem_cons_of_mem _ (List.mem_append_right _ h)) hown hK hP 0 rfl rfl 12 (by decide) (hts (.fieldLink RX1 26 "RetiredTimerModel" "entries" "I") (by decide +kernel)) (fun _ h9 => h9) rfl dX1_entry_58 ?_
          refine lv_iload_n hx hb dX1_entry_61 rfl (lv_at hl 1 rfl) ?_
          refine va_iast hx hb hK hP hD hS 1 0 rfl rfl (vp_in_nI (N := 32) hlt (by decide)) dX1_entry_62 (fun H locs hP hD hS => ?_)
          have hP : va_P (dC, dI) vwCl (rt_mw h0 a1 a2 k1 k2 (upd f (nI en).toNatClampNeg p1) g (nI en) (nI rn) cnt per cng pnd msk sr sav tkn (nI kn)) H := hP
          have hD : va_D A (rt_mw h0 a1 a2 k1 k2 (upd f (nI en).toNatClampNeg p1) g (nI en) (nI rn) cnt per cng pnd msk sr sav tkn (nI kn)) := hD
          rw [show (nI en).toNatClampNeg = en from nI_clamp (by omega)] at hP hD
          refine lv_aload_n hx hb dX1_entry_63 rfl (lv_at hl 0 rfl) ?_
          refine va_get (D := (dC, dI)) (ci := 1) (v := .ref a2) (C := RX1) (T := TX1) (N := 14) hx hb hts (fun _ h => List.mem_cons_of_mem _ (List.mem_append_right _ h)) hown hK hP 0 rfl rfl 11 (by decide) (hts (.fieldLink RX1 17 "RetiredTimerModel" "values" "[I") (by decide +kernel)) (fun _ h9 => h9) rfl dX1_entry_64 ?_
          refine lv_aload_n hx hb dX1_entry_67 rfl (lv_at hl 0 rfl) ?_
          refine va_get (D := (dC, dI)) (ci := 1) (v := .int (nI en)) (C := RX1) (T := TX1) (N := 14) hx hb hts (fun _ h => List.mem_cons_of_mem _ (List.mem_append_right _ h)) hown hK hP 0 rfl rfl 12 (by decide) (hts (.fieldLink RX1 26 "RetiredTimerModel" "entries" "I") (by decide +kernel)) (fun _ h9 => h9) rfl dX1_entry_68 ?_
          refine lv_iload_n hx hb dX1_entry_71 rfl (lv_at hl 2 rfl) ?_
          refine va_iast hx hb hK hP hD hS 2 1 rfl rfl (vp_in_nI (N := 32) hlt (by decide)) dX1_entry_72 (fun H locs hP hD hS => ?_)
          have hP : va_P (dC, dI) vwCl (rt_mw h0 a1 a2 k1 k2 (upd f en p1) (upd g (nI en).toNatClampNeg p2) (nI en) (nI rn) cnt per cng pnd msk sr sav tkn (nI kn)) H := hP
          have hD : va_D A (rt_mw h0 a1 a2 k1 k2 (upd f en p1) (upd g (nI en).toNatClampNeg p2) (nI en) (nI rn) cnt per cng pnd msk sr sav tkn (nI kn)) := hD
          rw [show (nI en).toNatClampNeg = en from nI_clamp (by omega)] at hP hD
          refine lv_aload_n hx hb dX1_entry_73 rfl (lv_at hl 0 rfl) ?_
          refine lv_dup hx hb dX1_entry_74 rfl ?_
          refine va_get (D := (dC, dI)) (ci := 1) (v := .int (nI en)) (C := RX1) (T := TX1) (N := 14) hx hb hts (fun _ h => List.mem_cons_of_mem _ (List.mem_append_right _ h)) hown hK hP 0 rfl rfl 12 (by decide) (hts (.fieldLink RX1 26 "RetiredTimerModel" "entries" "I") (by decide +kernel)) (fun _ h9 => h9) rfl dX1_entry_75 ?_
          refine lv_iconst (v := 1) hx hb dX1_entry_78 (by decide) ?_
          refine lv_iadd hx hb dX1_entry_79 ?_
          refine va_put (D := (dC, dI)) (ci := 1) (v := .int ((nI en) + 1)) (ty := .int) (C := RX1) (T := TX1) (N := 14) hx hb hts (fun _ h => List.mem_cons_of_mem _ (List.mem_append_right _ h)) tyX1 tyX1_ok nmX1 hown hK hP hD hS 0 rfl rfl 12 (by decide) (hts (.fieldLink RX1 26 "RetiredTimerModel" "entries" "I") (by decide +kernel)) (fun _ h9 => h9) rfl (by decide +kernel) rfl rfl (Nat.le_of_ble_eq_true rfl) dX1_entry_80 (fun H locs hP hD hS => ?_)
          have hP : va_P (dC, dI) vwCl (rt_mw h0 a1 a2 k1 k2 (upd f en p1) (upd g en p2) ((nI en) + 1) (nI rn) cnt per cng pnd msk sr sav tkn (nI kn)) H := hP
          have hD : va_D A (rt_mw h0 a1 a2 k1 k2 (upd f en p1) (upd g en p2) ((nI en) + 1) (nI rn) cnt per cng pnd msk sr sav tkn (nI kn)) := hD
          refine lv_aload_n hx hb dX1_entry_83 rfl (lv_at hl 0 rfl) ?_
          have hFc := va_free (wc := rt_mw h0 a1 a2 k1 k2 (upd f en p1) (upd g en p2) ((nI en) + 1) (nI rn) cnt per cng pnd msk sr sav tkn (nI kn)) hD hS hA [0, 1, 2] rfl
          refine va_callv (va_runV (As := []) (rest := []) ⟨hx, hb, hml, hown, hts⟩ (c_M_goOn l dC dI h0 a1 a2 H.size k1 k2 (upd f en p1) (upd g en p2) ((nI en) + 1) (nI rn) cnt per cng pnd msk sr sav tkn (nI kn) (en + 1) kn (nI_1 en) (by omega) rfl (by have := hc.1; omega)) (cwV 0 hts gX1_entry_X1_goOn rfl rfl rfl (by decide +kernel) ⟨Nat.le_of_ble_eq_true rfl, Nat.le_of_ble_eq_true rfl⟩) ⟨fun a U g mk q => by obtain ⟨q0, q1, qP, qK, qD⟩ := q; exact ⟨q0, q1, qP, va_K.moved (u := U) (U := U.calling g mk a) (Vm.Alike.refl U.vm) qK, qD⟩, va_recv hK hP (ci := 1) (q0 := 0) rfl rfl, fun U hU hW => ⟨rfl, by rw [hU], by rw [hU]; exact hP, va_K.moved hW.alike hK, hD.weaken (fun _ _ _ _ => trivial)⟩⟩ rfl rfl hl.1 rfl (lv_room (Nat.le_of_ble_eq_true rfl)) dX1_entry_84 ⟨Nat.zero_le _, Nat.zero_le _⟩) hS (fun q _ h => hFc q h) hFc (fun u t H1 locs ht hvm hw_84 hB hz1 hk1 hS => ?_)
          obtain ⟨com_84, rfl⟩ : ∃ z, z = u := ⟨_, rfl⟩
          obtain ⟨hP1, hK1, hD1⟩ := hB
          rw [ht] at hP1
          try dsimp only at hw_84 hP1 hD1
          obtain ⟨hP, hD⟩ := va_join (wr := []) (w1 := rt_mw h0 a1 a2 k1 k2 (upd f en p1) (upd g en p2) ((nI en) + 1) (nI rn) cnt per cng pnd msk sr sav tkn (nI com_84)) hP hD [0, 1, 2] [] rfl rfl (by decide) (by decide) hk1 hFc hP1 hD1
          generalize H1 = H at hP hS ⊢
          have hP : va_P (dC, dI) vwCl (rt_mw h0 a1 a2 k1 k2 (upd f en p1) (upd g en p2) ((nI en) + 1) (nI rn) cnt per cng pnd msk sr sav tkn (nI com_84)) H := hP
          have hD : va_D A (rt_mw h0 a1 a2 k1 k2 (upd f en p1) (upd g en p2) ((nI en) + 1) (nI rn) cnt per cng pnd msk sr sav tkn (nI com_84)) := hD
          refine lv_iconst (v := 1) hx hb dX1_entry_87 (by decide) ?_
          have hnr : ¬ rt_ref f en p1 := fun h => ((rt_ref_m hs).mp h).elim c_6 (fun h => h.elim (fun h => c_15 ((rt_eq32 h32).mpr h)) (fun h => rt_nle2 h.2 c_48))
          exact W.zret (v := 1) hx hb hr rfl (fun t ht hW => ⟨⟨1, (upd f en p1, upd g en p2, (nI en) + 1, com_84), rfl, Or.inr ⟨hnr, rfl, rfl, rfl, nI_1 en, rt_come_add hs hc hnr hw_84⟩, by rw [ht]; exact hP, va_K.moved hW.alike hK, hD⟩, hS.F ht⟩) hS.2.2 dX1_entry_88
        · refine lv_iconst (v := 0) hx hb dX1_entry_51 (by decide) ?_
          exact W.zret (v := 0) hx hb hr rfl (fun t ht hW => ⟨⟨0, (f, g, (nI en), kn), rfl, Or.inl ⟨(rt_ref_m hs).mpr (Or.inr (Or.inr ⟨hpos, rt_nlt c_48⟩)), rfl, rfl, rfl, rfl, rfl⟩, by rw [ht]; exact hP, va_K.moved hW.alike hK, hD⟩, hS.F ht⟩) hS.2.2 dX1_entry_52
set_option maxHeartbeats 4000000 in
set_option maxRecDepth 100000 in
theorem c_M_step (l : Launch) (dC : Nat → ClassId) (dI : Nat → Nat → Nat) (h0 a1 a2 sz : Nat) (k1 k2 : ClassId) (f g : Nat → Int32) (ent ret cnt per cng pnd msk sr sav tkn com : Int32) (en rn kn : Nat) (he : ent = nI en) (h32 : en ≤ 32) (hrn : ret = nI rn) (hk : com = nI kn) (hrl : rn + 1 < 2147483648) (hs : rt_Srt f en) (hc : rt_Come f en rn kn) :
    Met l yX1_step wsX1_step ({ frames := 1, cells := 0, slots := 0, locals := 20 }) (va_Pc [.ref h0] (rt_pre dC dI (rt_mw h0 a1 a2 k1 k2 f g ent ret cnt per cng pnd msk sr sav tkn com) [(k1, .int), (k2, .int)] sz)) (va_Qv (fun (u : Int32 × Int32 × Int32 × Nat) => u.1 = nI (rn + 1) ∧ u.2.1 = rt_sc cng per cnt ∧ u.2.2.1 = rt_sp cng per cnt pnd ∧ rt_Come f en (rn + 1) u.2.2.2) (rt_post dC dI [(k1, .int), (k2, .int)] (va_A (rt_mw h0 a1 a2 k1 k2 f g ent ret cnt per cng pnd msk sr sav tkn com) sz) (fun (u : Int32 × Int32 × Int32 × Nat) => rt_mw h0 a1 a2 k1 k2 f g ent u.1 u.2.1 per cng u.2.2.1 msk sr sav tkn (nI u.2.2.2))) (va_A (rt_mw h0 a1 a2 k1 k2 f g ent ret cnt per cng pnd msk sr sav tkn com) sz)) 0 0 (va_A (rt_mw h0 a1 a2 k1 k2 f g ent ret cnt per cng pnd msk sr sav tkn com) sz) := by
  subst he
  subst hrn
  subst hk
  refine Met.ofW (cc := cX1_step) (maxL := 1) (ret := none) (by decide) rfl ?_
  intro p e0 s m args below meth c s₁ B hml hv
  obtain ⟨rfl, hsz, hP, hK, hD0⟩ := hv
  have hx := B.exec
  have hb := B.bytes
  have hr := B.returns
  have hts := atoms_spec (ws := wsX1_step) B.pre
  have hown : s.vm.findClass RX1 = some m.cls := findClass_of_methodNamed B.named
  have hlocks := B.notSynchronized
  subst hsz
  have hD := hD0.self (sz := s.heap.size)
  generalize hAe : va_A (rt_mw h0 a1 a2 k1 k2 f g (nI en) (nI rn) cnt per cng pnd msk sr sav tkn (nI kn)) s.heap.size = A at hD ⊢
  have hA : ∀ q : Nat, s.heap.size ≤ q → A q := fun q h => by rw [← hAe]; exact Or.inr h
  have hS : va_S A s.heap s.heap [] := va_S.rf
  have hP : va_P (dC, dI) vwCl (rt_mw h0 a1 a2 k1 k2 f g (nI en) (nI rn) cnt per cng pnd msk sr sav tkn (nI kn)) s.heap := hP
  have hl := lv_entry ([.ref h0]) (n := 1) (Nat.le_of_ble_eq_true rfl)
  rw [lg_entry_eq]
  generalize (lg_sl ([.ref h0]) ++ List.replicate (1 - (lg_sl ([.ref h0])).length) Slot.unset).toArray = ls at hl ⊢
  have hl : lv_has ls 1 [(0, .ref h0)] := hl
  refine lv_aload_n hx hb dX1_step_0 rfl (lv_at hl 0 rfl) ?_
  refine lv_dup hx hb dX1_step_1 rfl ?_
  refine va_get (D := (dC, dI)) (ci := 1) (v := .int (nI rn)) (C := RX1) (T := TX1) (N := 14) hx hb hts (fun _ h => List.mem_cons_of_mem _ (List.mem_append_right _ h)) hown hK hP 0 rfl rfl 1 (by decide) (hts (.fieldLink RX1 29 "RetiredTimerModel" "retired" "I") (by decide +kernel)) (fun _ h9 => h9) rfl dX1_step_2 ?_
  refine lv_iconst (v := 1) hx hb dX1_step_5 (by decide) ?_
  refine lv_iadd hx hb dX1_step_6 ?_
  refine va_put (D := (dC, dI)) (ci := 1) (v := .int ((nI rn) + 1)) (ty := .int) (C := RX1) (T := TX1) (N := 14) hx hb hts (fun _ h => List.mem_cons_of_mem _ (List.mem_append_right _ h)) tyX1 tyX1_ok nmX1 hown hK hP hD hS 0 rfl rfl 1 (by decide) (hts (.fieldLink RX1 29 "RetiredTimerModel" "retired" "I") (by decide +kernel)) (fun _ h9 => h9) rfl (by decide +kernel) rfl rfl (Nat.le_of_ble_eq_true rfl) dX1_step_7 (fun H locs hP hD hS => ?_)
  have hP : va_P (dC, dI) vwCl (rt_mw h0 a1 a2 k1 k2 f g (nI en) ((nI rn) + 1) cnt per cng pnd msk sr sav tkn (nI kn)) H := hP
  have hD : va_D A (rt_mw h0 a1 a2 k1 k2 f g (nI en) ((nI rn) + 1) cnt per cng pnd msk sr sav tkn (nI kn)) := hD
  refine lv_aload_n hx hb dX1_step_10 rfl (lv_at hl 0 rfl) ?_
  refine va_get (D := (dC, dI)) (ci := 1) (v := .int cng) (C := RX1) (T := TX1) (N := 14) hx hb hts (fun _ h => List.mem_cons_of_mem _ (List.mem_append_right _ h)) hown hK hP 0 rfl rfl 4 (by decide) (hts (.fieldLink RX1 46 "RetiredTimerModel" "counting" "Z") (by decide +kernel)) (fun _ h9 => h9) rfl dX1_step_11 ?_
  refine lv_if_eq (tgt := 48) hx hb dX1_step_14 (by decide) (fun c_14 => ?_) (fun c_14 => ?_)
  · refine lv_aload_n hx hb dX1_step_48 rfl (lv_at hl 0 rfl) ?_
    have hFc := va_free (wc := rt_mw h0 a1 a2 k1 k2 f g (nI en) ((nI rn) + 1) cnt per cng pnd msk sr sav tkn (nI kn)) hD hS hA [0, 1, 2] rfl
    refine va_callv (va_runV (As := []) (rest := []) ⟨hx, hb, hml, hown, hts⟩ (c_M_goOn l dC dI h0 a1 a2 H.size k1 k2 f g (nI en) ((nI rn) + 1) cnt per cng pnd msk sr sav tkn (nI kn) en kn rfl h32 rfl hc.1) (cwV 0 hts gX1_step_X1_goOn rfl rfl rfl (by decide +kernel) ⟨Nat.le_of_ble_eq_true rfl, Nat.le_of_ble_eq_true rfl⟩) ⟨fun a U g mk q => by obtain ⟨q0, q1, qP, qK, qD⟩ := q; exact ⟨q0, q1, qP, va_K.moved (u := U) (U := U.calling g mk a) (Vm.Alike.refl U.vm) qK, qD⟩, va_recv hK hP (ci := 1) (q0 := 0) rfl rfl, fun U hU hW => ⟨rfl, by rw [hU], by rw [hU]; exact hP, va_K.moved hW.alike hK, hD.weaken (fun _ _ _ _ => trivial)⟩⟩ rfl rfl hl.1 rfl (lv_room (Nat.le_of_ble_eq_true rfl)) dX1_step_49 ⟨Nat.zero_le _, Nat.zero_le _⟩) hS (fun q _ h => hFc q h) hFc (fun u t H1 locs ht hvm hw_49 hB hz1 hk1 hS => ?_)
    obtain ⟨com_49, rfl⟩ : ∃ z, z = u := ⟨_, rfl⟩
    obtain ⟨hP1, hK1, hD1⟩ := hB
    rw [ht] at hP1
    try dsimp only at hw_49 hP1 hD1
    obtain ⟨hP, hD⟩ := va_join (wr := []) (w1 := rt_mw h0 a1 a2 k1 k2 f g (nI en) ((nI rn) + 1) cnt per cng pnd msk sr sav tkn (nI com_49)) hP hD [0, 1, 2] [] rfl rfl (by decide) (by decide) hk1 hFc hP1 hD1
    generalize H1 = H at hP hS ⊢
    have hP : va_P (dC, dI) vwCl (rt_mw h0 a1 a2 k1 k2 f g (nI en) ((nI rn) + 1) cnt per cng pnd msk sr sav tkn (nI com_49)) H := hP
    have hD : va_D A (rt_mw h0 a1 a2 k1 k2 f g (nI en) ((nI rn) + 1) cnt per cng pnd msk sr sav tkn (nI com_49)) := hD
    rw [nI_1] at hw_49
    exact W.vret hx hb hr (fun t ht hW => ⟨⟨((nI rn) + 1, cnt, pnd, com_49), rfl, ⟨nI_1 rn, by unfold rt_sc; rw [if_pos c_14], by unfold rt_sp; rw [if_pos c_14], rt_come_step hs hc hrl hw_49⟩, by rw [ht]; exact hP, va_K.moved hW.alike hK, hD⟩, hS.F ht⟩) hS.2.2 dX1_step_52
  · refine lv_aload_n hx hb dX1_step_17 rfl (lv_at hl 0 rfl) ?_
    refine lv_dup hx hb dX1_step_18 rfl ?_
    refine va_get (D := (dC, dI)) (ci := 1) (v := .int cnt) (C := RX1) (T := TX1) (N := 14) hx hb hts (fun _ h => List.mem_cons_of_mem _ (List.mem_append_right _ h)) hown hK hP 0 rfl rfl 2 (by decide) (hts (.fieldLink RX1 49 "RetiredTimerModel" "count" "I") (by decide +kernel)) (fun _ h9 => h9) rfl dX1_step_19 ?_
    refine lv_iconst (v := 1) hx hb dX1_step_22 (by decide) ?_
    refine lv_iadd hx hb dX1_step_23 ?_
    refine va_put (D := (dC, dI)) (ci := 1) (v := .int (cnt + 1)) (ty := .int) (C := RX1) (T := TX1) (N := 14) hx hb hts (fun _ h => List.mem_cons_of_mem _ (List.mem_append_right _ h)) tyX1 tyX1_ok nmX1 hown hK hP hD hS 0 rfl rfl 2 (by decide) (hts (.fieldLink RX1 49 "RetiredTimerModel" "count" "I") (by decide +kernel)) (fun _ h9 => h9) rfl (by decide +kernel) rfl rfl (Nat.le_of_ble_eq_true rfl) dX1_step_24 (fun H locs hP hD hS => ?_)
    have hP : va_P (dC, dI) vwCl (rt_mw h0 a1 a2 k1 k2 f g (nI en) ((nI rn) + 1) (cnt + 1) per cng pnd msk sr sav tkn (nI kn)) H := hP
    have hD : va_D A (rt_mw h0 a1 a2 k1 k2 f g (nI en) ((nI rn) + 1) (cnt + 1) per cng pnd msk sr sav tkn (nI kn)) := hD
    refine lv_aload_n hx hb dX1_step_27 rfl (lv_at hl 0 rfl) ?_
    refine va_get (D := (dC, dI)) (ci := 1) (v := .int (cnt + 1)) (C := RX1) (T := TX1) (N := 14) hx hb hts (fun _ h => List.mem_cons_of_mem _ (List.mem_append_right _ h)) hown hK hP 0 rfl rfl 2 (by decide) (hts (.fieldLink RX1 49 "RetiredTimerModel" "count" "I") (by decide +kernel)) (fun _ h9 => h9) rfl dX1_step_28 ?_
    refine lv_aload_n hx hb dX1_step_31 rfl (lv_at hl 0 rfl) ?_
    refine va_get (D := (dC, dI)) (ci := 1) (v := .int per) (C := RX1) (T := TX1) (N := 14) hx hb hts (fun _ h => List.mem_cons_of_mem _ (List.mem_append_right _ h)) hown hK hP 0 rfl rfl 3 (by decide) (hts (.fieldLink RX1 52 "RetiredTimerModel" "period" "I") (by decide +kernel)) (fun _ h9 => h9) rfl dX1_step_32 ?_
    refine lv_icmp_ne (tgt := 48) hx hb dX1_step_35 (by decide) (fun c_35 => ?_) (fun c_35 => ?_)
    · refine lv_aload_n hx hb dX1_step_48 rfl (lv_at hl 0 rfl) ?_
      have hFc := va_free (wc := rt_mw h0 a1 a2 k1 k2 f g (nI en) ((nI rn) + 1) (cnt + 1) per cng pnd msk sr sav tkn (nI kn)) hD hS hA [0, 1, 2] rfl
      refine va_callv (va_runV (As := []) (rest := []) ⟨hx, hb, hml, hown, hts⟩ (c_M_goOn l dC dI h0 a1 a2 H.size k1 k2 f g (nI en) ((nI rn) + 1) (cnt + 1) per cng pnd msk sr sav tkn (nI kn) en kn rfl h32 rfl hc.1) (cwV 0 hts gX1_step_X1_goOn rfl rfl rfl (by decide +kernel) ⟨Nat.le_of_ble_eq_true rfl, Nat.le_of_ble_eq_true rfl⟩) ⟨fun a U g mk q => by obtain ⟨q0, q1, qP, qK, qD⟩ := q; exact ⟨q0, q1, qP, va_K.moved (u := U) (U := U.calling g mk a) (Vm.Alike.refl U.vm) qK, qD⟩, va_recv hK hP (ci := 1) (q0 := 0) rfl rfl, fun U hU hW => ⟨rfl, by rw [hU], by rw [hU]; exact hP, va_K.moved hW.alike hK, hD.weaken (fun _ _ _ _ => trivial)⟩⟩ rfl rfl hl.1 rfl (lv_room (Nat.le_of_ble_eq_true rfl)) dX1_step_49 ⟨Nat.zero_le _, Nat.zero_le _⟩) hS (fun q _ h => hFc q h) hFc (fun u t H1 locs ht hvm hw_49 hB hz1 hk1 hS => ?_)
      obtain ⟨com_49, rfl⟩ : ∃ z, z = u := ⟨_, rfl⟩
      obtain ⟨hP1, hK1, hD1⟩ := hB
      rw [ht] at hP1
      try dsimp only at hw_49 hP1 hD1
      obtain ⟨hP, hD⟩ := va_join (wr := []) (w1 := rt_mw h0 a1 a2 k1 k2 f g (nI en) ((nI rn) + 1) (cnt + 1) per cng pnd msk sr sav tkn (nI com_49)) hP hD [0, 1, 2] [] rfl rfl (by decide) (by decide) hk1 hFc hP1 hD1
      generalize H1 = H at hP hS ⊢
      have hP : va_P (dC, dI) vwCl (rt_mw h0 a1 a2 k1 k2 f g (nI en) ((nI rn) + 1) (cnt + 1) per cng pnd msk sr sav tkn (nI com_49)) H := hP
      have hD : va_D A (rt_mw h0 a1 a2 k1 k2 f g (nI en) ((nI rn) + 1) (cnt + 1) per cng pnd msk sr sav tkn (nI com_49)) := hD
      rw [nI_1] at hw_49
      exact W.vret hx hb hr (fun t ht hW => ⟨⟨((nI rn) + 1, cnt + 1, pnd, com_49), rfl, ⟨nI_1 rn, by unfold rt_sc; rw [if_neg c_14, if_neg c_35], by unfold rt_sp; rw [if_neg c_14, if_neg c_35], rt_come_step hs hc hrl hw_49⟩, by rw [ht]; exact hP, va_K.moved hW.alike hK, hD⟩, hS.F ht⟩) hS.2.2 dX1_step_52
    · refine lv_aload_n hx hb dX1_step_38 rfl (lv_at hl 0 rfl) ?_
      refine lv_iconst (v := 1) hx hb dX1_step_39 (by decide) ?_
      refine va_put (D := (dC, dI)) (ci := 1) (v := .int 1) (ty := .boolean) (C := RX1) (T := TX1) (N := 14) hx hb hts (fun _ h => List.mem_cons_of_mem _ (List.mem_append_right _ h)) tyX1 tyX1_ok nmX1 hown hK hP hD hS 0 rfl rfl 5 (by decide) (hts (.fieldLink RX1 32 "RetiredTimerModel" "pending" "Z") (by decide +kernel)) (fun _ h9 => h9) rfl (by decide +kernel) rfl rfl (Nat.le_of_ble_eq_true rfl) dX1_step_40 (fun H locs hP hD hS => ?_)
      have hP : va_P (dC, dI) vwCl (rt_mw h0 a1 a2 k1 k2 f g (nI en) ((nI rn) + 1) (cnt + 1) per cng 1 msk sr sav tkn (nI kn)) H := hP
      have hD : va_D A (rt_mw h0 a1 a2 k1 k2 f g (nI en) ((nI rn) + 1) (cnt + 1) per cng 1 msk sr sav tkn (nI kn)) := hD
      refine lv_aload_n hx hb dX1_step_43 rfl (lv_at hl 0 rfl) ?_
      refine lv_iconst (v := 0) hx hb dX1_step_44 (by decide) ?_
      refine va_put (D := (dC, dI)) (ci := 1) (v := .int 0) (ty := .int) (C := RX1) (T := TX1) (N := 14) hx hb hts (fun _ h => List.mem_cons_of_mem _ (List.mem_append_right _ h)) tyX1 tyX1_ok nmX1 hown hK hP hD hS 0 rfl rfl 2 (by decide) (hts (.fieldLink RX1 49 "RetiredTimerModel" "count" "I") (by decide +kernel)) (fun _ h9 => h9) rfl (by decide +kernel) rfl rfl (Nat.le_of_ble_eq_true rfl) dX1_step_45 (fun H locs hP hD hS => ?_)
      have hP : va_P (dC, dI) vwCl (rt_mw h0 a1 a2 k1 k2 f g (nI en) ((nI rn) + 1) 0 per cng 1 msk sr sav tkn (nI kn)) H := hP
      have hD : va_D A (rt_mw h0 a1 a2 k1 k2 f g (nI en) ((nI rn) + 1) 0 per cng 1 msk sr sav tkn (nI kn)) := hD
      refine lv_aload_n hx hb dX1_step_48 rfl (lv_at hl 0 rfl) ?_
      have hFc := va_free (wc := rt_mw h0 a1 a2 k1 k2 f g (nI en) ((nI rn) + 1) 0 per cng 1 msk sr sav tkn (nI kn)) hD hS hA [0, 1, 2] rfl
      refine va_callv (va_runV (As := []) (rest := []) ⟨hx, hb, hml, hown, hts⟩ (c_M_goOn l dC dI h0 a1 a2 H.size k1 k2 f g (nI en) ((nI rn) + 1) 0 per cng 1 msk sr sav tkn (nI kn) en kn rfl h32 rfl hc.1) (cwV 0 hts gX1_step_X1_goOn rfl rfl rfl (by decide +kernel) ⟨Nat.le_of_ble_eq_true rfl, Nat.le_of_ble_eq_true rfl⟩) ⟨fun a U g mk q => by obtain ⟨q0, q1, qP, qK, qD⟩ := q; exact ⟨q0, q1, qP, va_K.moved (u := U) (U := U.calling g mk a) (Vm.Alike.refl U.vm) qK, qD⟩, va_recv hK hP (ci := 1) (q0 := 0) rfl rfl, fun U hU hW => ⟨rfl, by rw [hU], by rw [hU]; exact hP, va_K.moved hW.alike hK, hD.weaken (fun _ _ _ _ => trivial)⟩⟩ rfl rfl hl.1 rfl (lv_room (Nat.le_of_ble_eq_true rfl)) dX1_step_49 ⟨Nat.zero_le _, Nat.zero_le _⟩) hS (fun q _ h => hFc q h) hFc (fun u t H1 locs ht hvm hw_49 hB hz1 hk1 hS => ?_)
      obtain ⟨com_49, rfl⟩ : ∃ z, z = u := ⟨_, rfl⟩
      obtain ⟨hP1, hK1, hD1⟩ := hB
      rw [ht] at hP1
      try dsimp only at hw_49 hP1 hD1
      obtain ⟨hP, hD⟩ := va_join (wr := []) (w1 := rt_mw h0 a1 a2 k1 k2 f g (nI en) ((nI rn) + 1) 0 per cng 1 msk sr sav tkn (nI com_49)) hP hD [0, 1, 2] [] rfl rfl (by decide) (by decide) hk1 hFc hP1 hD1
      generalize H1 = H at hP hS ⊢
      have hP : va_P (dC, dI) vwCl (rt_mw h0 a1 a2 k1 k2 f g (nI en) ((nI rn) + 1) 0 per cng 1 msk sr sav tkn (nI com_49)) H := hP
      have hD : va_D A (rt_mw h0 a1 a2 k1 k2 f g (nI en) ((nI rn) + 1) 0 per cng 1 msk sr sav tkn (nI com_49)) := hD
      rw [nI_1] at hw_49
      exact W.vret hx hb hr (fun t ht hW => ⟨⟨((nI rn) + 1, 0, 1, com_49), rfl, ⟨nI_1 rn, by unfold rt_sc; rw [if_neg c_14, if_pos c_35], by unfold rt_sp; rw [if_neg c_14, if_pos c_35], rt_come_step hs hc hrl hw_49⟩, by rw [ht]; exact hP, va_K.moved hW.alike hK, hD⟩, hS.F ht⟩) hS.2.2 dX1_step_52
set_option maxHeartbeats 4000000 in
set_option maxRecDepth 100000 in
theorem c_M_take (l : Launch) (dC : Nat → ClassId) (dI : Nat → Nat → Nat) (h0 a1 a2 sz : Nat) (k1 k2 : ClassId) (f g : Nat → Int32) (ent ret cnt per cng pnd msk sr sav tkn com : Int32) (kn : Nat) (hk : com = nI kn) (hk32 : kn ≤ 32) :
    Met l yX1_take wsX1_take ({ frames := 2, cells := 0, slots := 0, locals := 40 }) (va_Pc [.ref h0] (rt_pre dC dI (rt_mw h0 a1 a2 k1 k2 f g ent ret cnt per cng pnd msk sr sav tkn com) [(k1, .int), (k2, .int)] sz)) (va_Qi (fun (v : Int32) (u : Int32 × Int32 × Int32) => v = rt_due sr pnd (rt_now g kn) msk ∧ u.1 = (if rt_due sr pnd (rt_now g kn) msk = 0 then sr else (sr &&& 32) ||| 1) ∧ u.2.1 = (if rt_due sr pnd (rt_now g kn) msk = 0 then sav else sr) ∧ u.2.2 = (if rt_due sr pnd (rt_now g kn) msk = 0 then tkn else tkn + 1)) (rt_post dC dI [(k1, .int), (k2, .int)] (va_A (rt_mw h0 a1 a2 k1 k2 f g ent ret cnt per cng pnd msk sr sav tkn com) sz) (fun (u : Int32 × Int32 × Int32) => rt_mw h0 a1 a2 k1 k2 f g ent ret cnt per cng pnd msk u.1 u.2.1 u.2.2 com)) (va_A (rt_mw h0 a1 a2 k1 k2 f g ent ret cnt per cng pnd msk sr sav tkn com) sz)) 0 0 (va_A (rt_mw h0 a1 a2 k1 k2 f g ent ret cnt per cng pnd msk sr sav tkn com) sz) := by
  subst hk
  refine Met.ofW (cc := cX1_take) (maxL := 2) (ret := (some .int)) (by decide) rfl ?_
  intro p e0 s m args below meth c s₁ B hml hv
  obtain ⟨rfl, hsz, hP, hK, hD0⟩ := hv
  have hx := B.exec
  have hb := B.bytes
  have hr := B.returns
  have hts := atoms_spec (ws := wsX1_take) B.pre
  have hown : s.vm.findClass RX1 = some m.cls := findClass_of_methodNamed B.named
  have hlocks := B.notSynchronized
  subst hsz
  have hD := hD0.self (sz := s.heap.size)
  generalize hAe : va_A (rt_mw h0 a1 a2 k1 k2 f g ent ret cnt per cng pnd msk sr sav tkn (nI kn)) s.heap.size = A at hD ⊢
  have hA : ∀ q : Nat, s.heap.size ≤ q → A q := fun q h => by rw [← hAe]; exact Or.inr h
  have hS : va_S A s.heap s.heap [] := va_S.rf
  have hP : va_P (dC, dI) vwCl (rt_mw h0 a1 a2 k1 k2 f g ent ret cnt per cng pnd msk sr sav tkn (nI kn)) s.heap := hP
  have hl := lv_entry ([.ref h0]) (n := 2) (Nat.le_of_ble_eq_true rfl)
  rw [lg_entry_eq]
  generalize (lg_sl ([.ref h0]) ++ List.replicate (2 - (lg_sl ([.ref h0])).length) Slot.unset).toArray = ls at hl ⊢
  have hl : lv_has ls 2 [(0, .ref h0)] := hl
  refine lv_aload_n hx hb dX1_take_0 rfl (lv_at hl 0 rfl) ?_
  refine lv_iconst (v := 0) hx hb dX1_take_1 (by decide) ?_
  refine va_put (D := (dC, dI)) (ci := 1) (v := .int 0) (ty := .int) (C := RX1) (T := TX1) (N := 14) hx hb hts (fun _ h => List.mem_cons_of_mem _ (List.mem_append_right _ h)) tyX1 tyX1_ok nmX1 hown hK hP hD hS 0 rfl rfl 0 (by decide) (hts (.fieldLink RX1 20 "RetiredTimerModel" "thrown" "I") (by decide +kernel)) (fun _ h9 => h9) rfl (by decide +kernel) rfl rfl (Nat.le_of_ble_eq_true rfl) dX1_take_2 (fun H locs hP hD hS => ?_)
  have hP : va_P (dC, dI) vwCl (rt_mw h0 a1 a2 k1 k2 f g ent ret cnt per cng pnd msk sr sav tkn (nI kn)) H := hP
  have hD : va_D A (rt_mw h0 a1 a2 k1 k2 f g ent ret cnt per cng pnd msk sr sav tkn (nI kn)) := hD
  refine lv_aload_n hx hb dX1_take_5 rfl (lv_at hl 0 rfl) ?_
  have hFc := va_free (wc := rt_mw h0 a1 a2 k1 k2 f g ent ret cnt per cng pnd msk sr sav tkn (nI kn)) hD hS hA [0, 1, 2] rfl
  refine va_calli (va_runV (As := []) (rest := []) ⟨hx, hb, hml, hown, hts⟩ (c_M_due l dC dI h0 a1 a2 H.size k1 k2 f g ent ret cnt per cng pnd msk sr sav tkn (nI kn) kn rfl hk32) (cwV 0 hts gX1_take_X1_due rfl rfl rfl (by decide +kernel) ⟨Nat.le_of_ble_eq_true rfl, Nat.le_of_ble_eq_true rfl⟩) ⟨fun a U g mk q => by obtain ⟨q0, q1, qP, qK, qD⟩ := q; exact ⟨q0, q1, qP, va_K.moved (u := U) (U := U.calling g mk a) (Vm.Alike.refl U.vm) qK, qD⟩, va_recv hK hP (ci := 1) (q0 := 0) rfl rfl, fun U hU hW => ⟨rfl, by rw [hU], by rw [hU]; exact hP, va_K.moved hW.alike hK, hD.weaken (fun _ _ _ _ => trivial)⟩⟩ rfl rfl hl.1 rfl (lv_room (Nat.le_of_ble_eq_true rfl)) dX1_take_6 ⟨Nat.zero_le _, Nat.zero_le _⟩) hS (fun q _ h => hFc q h) hFc (fun r_6 u t H1 locs ht hvm hw_6 hB hz1 hk1 hS => ?_)
  obtain ⟨hP1, hK1, hD1⟩ := hB
  rw [ht] at hP1
  try dsimp only at hw_6 hP1 hD1
  obtain ⟨hP, hD⟩ := va_join (wr := []) (w1 := rt_mw h0 a1 a2 k1 k2 f g ent ret cnt per cng pnd msk sr sav tkn (nI kn)) hP hD [0, 1, 2] [] rfl rfl (by decide) (by decide) hk1 hFc hP1 hD1
  generalize H1 = H at hP hS ⊢
  have hP : va_P (dC, dI) vwCl (rt_mw h0 a1 a2 k1 k2 f g ent ret cnt per cng pnd msk sr sav tkn (nI kn)) H := hP
  have hD : va_D A (rt_mw h0 a1 a2 k1 k2 f g ent ret cnt per cng pnd msk sr sav tkn (nI kn)) := hD
  refine lv_istore_n (lv' := [(1, .int r_6), (0, .ref h0)]) hx hb dX1_take_9 rfl hl (by decide) rfl (fun ls hl => ?_)
  refine lv_iload_n hx hb dX1_take_10 rfl (lv_at hl 0 rfl) ?_
  refine lv_if_le (tgt := 45) hx hb dX1_take_11 (by decide) (fun c_11 => ?_) (fun c_11 => ?_)
  · refine lv_iload_n hx hb dX1_take_45 rfl (lv_at hl 0 rfl) ?_
    have hz := rt_dueLe hw_6 c_11
    exact W.iret (v := r_6) hx hb hr (fun t ht hW => ⟨⟨r_6, (sr, sav, tkn), rfl, ⟨hw_6, by rw [if_pos hz], by rw [if_pos hz], by rw [if_pos hz]⟩, by rw [ht]; exact hP, va_K.moved hW.alike hK, hD⟩, hS.F ht⟩) hS.2.2 dX1_take_46
  · refine lv_aload_n hx hb dX1_take_14 rfl (lv_at hl 1 rfl) ?_
    refine lv_aload_n hx hb dX1_take_15 rfl (lv_at hl 1 rfl) ?_
    refine va_get (D := (dC, dI)) (ci := 1) (v := .int sr) (C := RX1) (T := TX1) (N := 14) hx hb hts (fun _ h => List.mem_cons_of_mem _ (List.mem_append_right _ h)) hown hK hP 0 rfl rfl 7 (by decide) (hts (.fieldLink RX1 7 "RetiredTimerModel" "sr" "I") (by decide +kernel)) (fun _ h9 => h9) rfl dX1_take_16 ?_
    refine va_put (D := (dC, dI)) (ci := 1) (v := .int sr) (ty := .int) (C := RX1) (T := TX1) (N := 14) hx hb hts (fun _ h => List.mem_cons_of_mem _ (List.mem_append_right _ h)) tyX1 tyX1_ok nmX1 hown hK hP hD hS 0 rfl rfl 8 (by decide) (hts (.fieldLink RX1 62 "RetiredTimerModel" "saved" "I") (by decide +kernel)) (fun _ h9 => h9) rfl (by decide +kernel) rfl rfl (Nat.le_of_ble_eq_true rfl) dX1_take_19 (fun H locs hP hD hS => ?_)
    have hP : va_P (dC, dI) vwCl (rt_mw h0 a1 a2 k1 k2 f g ent ret cnt per cng pnd msk sr sr tkn (nI kn)) H := hP
    have hD : va_D A (rt_mw h0 a1 a2 k1 k2 f g ent ret cnt per cng pnd msk sr sr tkn (nI kn)) := hD
    refine lv_aload_n hx hb dX1_take_22 rfl (lv_at hl 1 rfl) ?_
    refine lv_aload_n hx hb dX1_take_23 rfl (lv_at hl 1 rfl) ?_
    refine va_get (D := (dC, dI)) (ci := 1) (v := .int sr) (C := RX1) (T := TX1) (N := 14) hx hb hts (fun _ h => List.mem_cons_of_mem _ (List.mem_append_right _ h)) hown hK hP 0 rfl rfl 7 (by decide) (hts (.fieldLink RX1 7 "RetiredTimerModel" "sr" "I") (by decide +kernel)) (fun _ h9 => h9) rfl dX1_take_24 ?_
    refine lv_bipush (v := 32) hx hb dX1_take_27 (by decide) ?_
    refine lv_iand hx hb dX1_take_29 ?_
    refine lv_iconst (v := 1) hx hb dX1_take_30 (by decide) ?_
    refine lv_ior hx hb dX1_take_31 ?_
    refine va_put (D := (dC, dI)) (ci := 1) (v := .int ((sr &&& 32) ||| 1)) (ty := .int) (C := RX1) (T := TX1) (N := 14) hx hb hts (fun _ h => List.mem_cons_of_mem _ (List.mem_append_right _ h)) tyX1 tyX1_ok nmX1 hown hK hP hD hS 0 rfl rfl 7 (by decide) (hts (.fieldLink RX1 7 "RetiredTimerModel" "sr" "I") (by decide +kernel)) (fun _ h9 => h9) rfl (by decide +kernel) rfl rfl (Nat.le_of_ble_eq_true rfl) dX1_take_32 (fun H locs hP hD hS => ?_)
    have hP : va_P (dC, dI) vwCl (rt_mw h0 a1 a2 k1 k2 f g ent ret cnt per cng pnd msk ((sr &&& 32) ||| 1) sr tkn (nI kn)) H := hP
    have hD : va_D A (rt_mw h0 a1 a2 k1 k2 f g ent ret cnt per cng pnd msk ((sr &&& 32) ||| 1) sr tkn (nI kn)) := hD
    refine lv_aload_n hx hb dX1_take_35 rfl (lv_at hl 1 rfl) ?_
    refine lv_dup hx hb dX1_take_36 rfl ?_
    refine va_get (D := (dC, dI)) (ci := 1) (v := .int tkn) (C := RX1) (T := TX1) (N := 14) hx hb hts (fun _ h => List.mem_cons_of_mem _ (List.mem_append_right _ h)) hown hK hP 0 rfl rfl 9 (by decide) (hts (.fieldLink RX1 65 "RetiredTimerModel" "taken" "I") (by decide +kernel)) (fun _ h9 => h9) rfl dX1_take_37 ?_
    refine lv_iconst (v := 1) hx hb dX1_take_40 (by decide) ?_
    refine lv_iadd hx hb dX1_take_41 ?_
    refine va_put (D := (dC, dI)) (ci := 1) (v := .int (tkn + 1)) (ty := .int) (C := RX1) (T := TX1) (N := 14) hx hb hts (fun _ h => List.mem_cons_of_mem _ (List.mem_append_right _ h)) tyX1 tyX1_ok nmX1 hown hK hP hD hS 0 rfl rfl 9 (by decide) (hts (.fieldLink RX1 65 "RetiredTimerModel" "taken" "I") (by decide +kernel)) (fun _ h9 => h9) rfl (by decide +kernel) rfl rfl (Nat.le_of_ble_eq_true rfl) dX1_take_42 (fun H locs hP hD hS => ?_)
    have hP : va_P (dC, dI) vwCl (rt_mw h0 a1 a2 k1 k2 f g ent ret cnt per cng pnd msk ((sr &&& 32) ||| 1) sr (tkn + 1) (nI kn)) H := hP
    have hD : va_D A (rt_mw h0 a1 a2 k1 k2 f g ent ret cnt per cng pnd msk ((sr &&& 32) ||| 1) sr (tkn + 1) (nI kn)) := hD
    refine lv_iload_n hx hb dX1_take_45 rfl (lv_at hl 0 rfl) ?_
    have hz := rt_dueGt hw_6 c_11
    exact W.iret (v := r_6) hx hb hr (fun t ht hW => ⟨⟨r_6, ((sr &&& 32) ||| 1, sr, tkn + 1), rfl, ⟨hw_6, by rw [if_neg hz], by rw [if_neg hz], by rw [if_neg hz]⟩, by rw [ht]; exact hP, va_K.moved hW.alike hK, hD⟩, hS.F ht⟩) hS.2.2 dX1_take_46
set_option maxHeartbeats 4000000 in
set_option maxRecDepth 100000 in
theorem lp_M_linesAt {p : Program} {l : Launch} {e0 : Env} {R : Room} {s : State} {m : MethodId} {args : Array Value} {below : List Frame} {meth : Method} {c : Code} {Q : State → Prop} {dC : Nat → ClassId} {dI : Nat → Nat → Nat} {h0 a1 a2 : Nat} {k1 k2 : ClassId} {H : Heap} {locs : List Loc} {f g : Nat → Int32} {ret cnt per cng pnd msk sr sav tkn com : Int32} {p1 : Int32} {en : Nat} (hx : p.tables.exec = Jvm.exec) (hb : c.code = cX1_linesAt) (hts : ∀ w ∈ wsX1_linesAt, w.before args s = true) (hown : s.vm.findClass RX1 = some m.cls) (hK : va_K (dC, dI) vwCl [(k1, .int), (k2, .int)] s) (hP : va_P (dC, dI) vwCl (rt_mw h0 a1 a2 k1 k2 f g (nI en) ret cnt per cng pnd msk sr sav tkn com) H) (h32 : en ≤ 32)
    (kx : ∀ (ls : Array Slot), lv_has ls 4 [(0, .ref h0), (1, .int p1), (2, .int (rt_pl f g p1 en)), (3, .int (nI en))] → W p l e0 R s m args below meth c H locs 0 0 Q (F0 m 44 ls [])) :
    ∀ (n i : Nat), i + n = en → ∀ (ls : Array Slot), lv_has ls 4 [(0, .ref h0), (1, .int p1), (2, .int (rt_pl f g p1 i)), (3, .int (nI i))] → W p l e0 R s m args below meth c H locs 0 0 Q (F0 m 9 ls []) := by
  intro n
  induction n with
  | zero =>
    intro i hi ls hl
    have hie : i = en := by omega
    subst hie
    refine lv_iload_n hx hb dX1_linesAt_9 rfl (lv_at hl 3 rfl) ?_
    refine lv_aload_n hx hb dX1_linesAt_10 rfl (lv_at hl 0 rfl) ?_
    refine va_get (D := (dC, dI)) (ci := 1) (v := .int (nI i)) (C := RX1) (T := TX1) (N := 14) hx hb hts (fun _ h => List.mem_cons_of_mem _ (List.mem_append_right _ h)) hown hK hP 0 rfl rfl 12 (by decide) (hts (.fieldLink RX1 26 "RetiredTimerModel" "entries" "I") (by decide +kernel)) (fun _ h9 => h9) rfl dX1_linesAt_11 ?_
    refine lv_icmp_ge (tgt := 44) hx hb dX1_linesAt_14 (by decide) (fun c_14 => ?_) (fun c_14 => absurd (Int32.le_refl _) c_14)
    exact kx ls (lv_sub hl [0, 1, 2, 3] rfl)
  | succ n ih =>
    intro i hi ls hl
    refine lv_iload_n hx hb dX1_linesAt_9 rfl (lv_at hl 3 rfl) ?_
    refine lv_aload_n hx hb dX1_linesAt_10 rfl (lv_at hl 0 rfl) ?_
    refine va_get (D := (dC, dI)) (ci := 1) (v := .int (nI en)) (C := RX1) (T := TX1) (N := 14) hx hb hts (fun _ h => List.mem_cons_of_mem _ (List.mem_append_right _ h)) hown hK hP 0 rfl rfl 12 (by decide) (hts (.fieldLink RX1 26 "RetiredTimerModel" "entries" "I") (by decide +kernel)) (fun _ h9 => h9) rfl dX1_linesAt_11 ?_
    refine lv_icmp_ge (tgt := 44) hx hb dX1_linesAt_14 (by decide) (fun c_14 => absurd c_14 (nI_ge (by omega) (by omega))) (fun c_14 => ?_)
    refine lv_aload_n hx hb dX1_linesAt_17 rfl (lv_at hl 0 rfl) ?_
    refine va_get (D := (dC, dI)) (ci := 1) (v := .ref a1) (C := RX1) (T := TX1) (N := 14) hx hb hts (fun _ h => List.mem_cons_of_mem _ (List.mem_append_right _ h)) hown hK hP 0 rfl rfl 10 (by decide) (hts (.fieldLink RX1 13 "RetiredTimerModel" "counts" "[I") (by decide +kernel)) (fun _ h9 => h9) rfl dX1_linesAt_18 ?_
    refine lv_iload_n hx hb dX1_linesAt_21 rfl (lv_at hl 3 rfl) ?_
    refine va_iald hx hb hK hP 1 0 rfl rfl (vp_in_nI (N := 32) (by omega) (by decide)) dX1_linesAt_22 ?_
    rw [show f (nI i).toNatClampNeg = f i from by rw [nI_clamp (by omega)]]
    refine lv_iload_n hx hb dX1_linesAt_23 rfl (lv_at hl 1 rfl) ?_
    refine lv_icmp_gt (tgt := 36) hx hb dX1_linesAt_24 (by decide) (fun c_24 => ?_) (fun c_24 => ?_)
    · refine lv_iload_n hx hb dX1_linesAt_36 rfl (lv_at hl 2 rfl) ?_
      refine lv_istore_n (lv' := [(2, .int (rt_pl f g p1 i)), (0, .ref h0), (1, .int p1), (3, .int (nI i))]) hx hb dX1_linesAt_37 rfl hl (by decide) rfl (fun ls hl => ?_)
      refine lv_iinc (v := (nI i) + 1) (lv' := [(3, .int ((nI i) + 1)), (2, .int (rt_pl f g p1 i)), (0, .ref h0), (1, .int p1)]) hx hb dX1_linesAt_38 hl (k := 3) rfl rfl (by decide) rfl (fun ls hl => ?_)
      refine lv_goto (tgt := 9) hx hb dX1_linesAt_41 (by decide) ?_
      have e2 : rt_pl f g p1 (i + 1) = rt_pl f g p1 i := by simp only [rt_pl]; rw [if_neg (fun h => rt_nle2 h c_24)]
      exact ih (i + 1) (by omega) ls (by rw [e2, ← nI_1]; exact lv_sub hl [2, 3, 1, 0] rfl)
    · refine lv_aload_n hx hb dX1_linesAt_27 rfl (lv_at hl 0 rfl) ?_
      refine va_get (D := (dC, dI)) (ci := 1) (v := .ref a2) (C := RX1) (T := TX1) (N := 14) hx hb hts (fun _ h => List.mem_cons_of_mem _ (List.mem_append_right _ h)) hown hK hP 0 rfl rfl 11 (by decide) (hts (.fieldLink RX1 17 "RetiredTimerModel" "values" "[I") (by decide +kernel)) (fun _ h9 => h9) rfl dX1_linesAt_28 ?_
      refine lv_iload_n hx hb dX1_linesAt_31 rfl (lv_at hl 3 rfl) ?_
      refine va_iald hx hb hK hP 2 1 rfl rfl (vp_in_nI (N := 32) (by omega) (by decide)) dX1_linesAt_32 ?_
      rw [show g (nI i).toNatClampNeg = g i from by rw [nI_clamp (by omega)]]
      refine lv_goto (tgt := 37) hx hb dX1_linesAt_33 (by decide) ?_
      refine lv_istore_n (lv' := [(2, .int (g i)), (0, .ref h0), (1, .int p1), (3, .int (nI i))]) hx hb dX1_linesAt_37 rfl hl (by decide) rfl (fun ls hl => ?_)
      refine lv_iinc (v := (nI i) + 1) (lv' := [(3, .int ((nI i) + 1)), (2, .int (g i)), (0, .ref h0), (1, .int p1)]) hx hb dX1_linesAt_38 hl (k := 3) rfl rfl (by decide) rfl (fun ls hl => ?_)
      refine lv_goto (tgt := 9) hx hb dX1_linesAt_41 (by decide) ?_
      have e2 : rt_pl f g p1 (i + 1) = g i := by simp only [rt_pl]; rw [if_pos (rt_nlt c_24)]
      exact ih (i + 1) (by omega) ls (by rw [e2, ← nI_1]; exact lv_sub hl [2, 3, 1, 0] rfl)
set_option maxHeartbeats 4000000 in
set_option maxRecDepth 100000 in
theorem c_M_linesAt (l : Launch) (dC : Nat → ClassId) (dI : Nat → Nat → Nat) (h0 a1 a2 sz : Nat) (k1 k2 : ClassId) (f g : Nat → Int32) (ent ret cnt per cng pnd msk sr sav tkn com : Int32) (p1 : Int32) (en : Nat) (he : ent = nI en) (h32 : en ≤ 32) (hs : rt_Srt f en) :
    Met l yX1_linesAt wsX1_linesAt ({ frames := 0, cells := 0, slots := 0, locals := 0 }) (va_Pc [.ref h0, .int p1] (rt_pre dC dI (rt_mw h0 a1 a2 k1 k2 f g ent ret cnt per cng pnd msk sr sav tkn com) [(k1, .int), (k2, .int)] sz)) (va_Qi (fun (v : Int32) (u : Unit) => v = rt_pl f g p1 en) (rt_post dC dI [(k1, .int), (k2, .int)] (va_A (rt_mw h0 a1 a2 k1 k2 f g ent ret cnt per cng pnd msk sr sav tkn com) sz) (fun (u : Unit) => rt_mw h0 a1 a2 k1 k2 f g ent ret cnt per cng pnd msk sr sav tkn com)) (va_A (rt_mw h0 a1 a2 k1 k2 f g ent ret cnt per cng pnd msk sr sav tkn com) sz)) 0 0 (va_A (rt_mw h0 a1 a2 k1 k2 f g ent ret cnt per cng pnd msk sr sav tkn com) sz) := by
  subst he
  refine Met.ofW (cc := cX1_linesAt) (maxL := 4) (ret := (some .int)) (by decide) rfl ?_
  intro p e0 s m args below meth c s₁ B hml hv
  obtain ⟨rfl, hsz, hP, hK, hD0⟩ := hv
  have hx := B.exec
  have hb := B.bytes
  have hr := B.returns
  have hts := atoms_spec (ws := wsX1_linesAt) B.pre
  have hown : s.vm.findClass RX1 = some m.cls := findClass_of_methodNamed B.named
  have hlocks := B.notSynchronized
  subst hsz
  have hD := hD0.self (sz := s.heap.size)
  generalize hAe : va_A (rt_mw h0 a1 a2 k1 k2 f g (nI en) ret cnt per cng pnd msk sr sav tkn com) s.heap.size = A at hD ⊢
  have hA : ∀ q : Nat, s.heap.size ≤ q → A q := fun q h => by rw [← hAe]; exact Or.inr h
  have hS : va_S A s.heap s.heap [] := va_S.rf
  have hP : va_P (dC, dI) vwCl (rt_mw h0 a1 a2 k1 k2 f g (nI en) ret cnt per cng pnd msk sr sav tkn com) s.heap := hP
  have hl := lv_entry ([.ref h0, .int p1]) (n := 4) (Nat.le_of_ble_eq_true rfl)
  rw [lg_entry_eq]
  generalize (lg_sl ([.ref h0, .int p1]) ++ List.replicate (4 - (lg_sl ([.ref h0, .int p1])).length) Slot.unset).toArray = ls at hl ⊢
  have hl : lv_has ls 4 [(0, .ref h0), (1, .int p1)] := hl
  refine lv_aload_n hx hb dX1_linesAt_0 rfl (lv_at hl 0 rfl) ?_
  refine lv_iconst (v := 0) hx hb dX1_linesAt_1 (by decide) ?_
  refine va_put (D := (dC, dI)) (ci := 1) (v := .int 0) (ty := .int) (C := RX1) (T := TX1) (N := 14) hx hb hts (fun _ h => List.mem_cons_of_mem _ (List.mem_append_right _ h)) tyX1 tyX1_ok nmX1 hown hK hP hD hS 0 rfl rfl 0 (by decide) (hts (.fieldLink RX1 20 "RetiredTimerModel" "thrown" "I") (by decide +kernel)) (fun _ h9 => h9) rfl (by decide +kernel) rfl rfl (Nat.le_of_ble_eq_true rfl) dX1_linesAt_2 (fun H locs hP hD hS => ?_)
  have hP : va_P (dC, dI) vwCl (rt_mw h0 a1 a2 k1 k2 f g (nI en) ret cnt per cng pnd msk sr sav tkn com) H := hP
  have hD : va_D A (rt_mw h0 a1 a2 k1 k2 f g (nI en) ret cnt per cng pnd msk sr sav tkn com) := hD
  refine lv_iconst (v := 0) hx hb dX1_linesAt_5 (by decide) ?_
  refine lv_istore_n (lv' := [(2, .int 0), (0, .ref h0), (1, .int p1)]) hx hb dX1_linesAt_6 rfl hl (by decide) rfl (fun ls hl => ?_)
  refine lv_iconst (v := 0) hx hb dX1_linesAt_7 (by decide) ?_
  refine lv_istore_n (lv' := [(3, .int 0), (2, .int 0), (0, .ref h0), (1, .int p1)]) hx hb dX1_linesAt_8 rfl hl (by decide) rfl (fun ls hl => ?_)
  refine lp_M_linesAt hx hb hts hown hK hP h32 (fun ls hl => ?_) en 0 (by omega) ls (lv_sub hl [2, 3, 1, 0] rfl)
  refine lv_iload_n hx hb dX1_linesAt_44 rfl (lv_at hl 1 rfl) ?_
  refine lv_if_ge (tgt := 52) hx hb dX1_linesAt_45 (by decide) (fun c_45 => ?_) (fun c_45 => ?_)
  · refine lv_iload_n hx hb dX1_linesAt_52 rfl (lv_at hl 2 rfl) ?_
    exact W.iret (v := rt_pl f g p1 en) hx hb hr (fun t ht hW => ⟨⟨rt_pl f g p1 en, (), rfl, rfl, by rw [ht]; exact hP, va_K.moved hW.alike hK, hD⟩, hS.F ht⟩) hS.2.2 dX1_linesAt_53
  · refine lv_iconst (v := 0) hx hb dX1_linesAt_48 (by decide) ?_
    refine lv_goto (tgt := 53) hx hb dX1_linesAt_49 (by decide) ?_
    exact W.iret (v := 0) hx hb hr (fun t ht hW => ⟨⟨0, (), rfl, (rt_pl_neg hs (rt_nle c_45)).symm, by rw [ht]; exact hP, va_K.moved hW.alike hK, hD⟩, hS.F ht⟩) hS.2.2 dX1_linesAt_53
set_option maxHeartbeats 4000000 in
set_option maxRecDepth 100000 in
theorem c_M_entryOf (l : Launch) (dC : Nat → ClassId) (dI : Nat → Nat → Nat) (h0 a1 a2 sz : Nat) (k1 k2 : ClassId) (f g : Nat → Int32) (ent ret cnt per cng pnd msk sr sav tkn com : Int32) (p1 : Int32) (p2 : Int32) (en : Nat) (he : ent = nI en) (h32 : en ≤ 32) :
    Met l yX1_entryOf wsX1_entryOf ({ frames := 0, cells := 0, slots := 0, locals := 0 }) (va_Pc [.ref h0, .int p1, .int p2] (rt_pre dC dI (rt_mw h0 a1 a2 k1 k2 f g ent ret cnt per cng pnd msk sr sav tkn com) [(k1, .int), (k2, .int)] sz)) (va_Qi (fun (v : Int32) (u : Unit) => v = rt_eo f g en p1 p2) (rt_post dC dI [(k1, .int), (k2, .int)] (va_A (rt_mw h0 a1 a2 k1 k2 f g ent ret cnt per cng pnd msk sr sav tkn com) sz) (fun (u : Unit) => rt_mw h0 a1 a2 k1 k2 f g ent ret cnt per cng pnd msk sr sav tkn com)) (va_A (rt_mw h0 a1 a2 k1 k2 f g ent ret cnt per cng pnd msk sr sav tkn com) sz)) 0 0 (va_A (rt_mw h0 a1 a2 k1 k2 f g ent ret cnt per cng pnd msk sr sav tkn com) sz) := by
  subst he
  refine Met.ofW (cc := cX1_entryOf) (maxL := 3) (ret := (some .int)) (by decide) rfl ?_
  intro p e0 s m args below meth c s₁ B hml hv
  obtain ⟨rfl, hsz, hP, hK, hD0⟩ := hv
  have hx := B.exec
  have hb := B.bytes
  have hr := B.returns
  have hts := atoms_spec (ws := wsX1_entryOf) B.pre
  have hown : s.vm.findClass RX1 = some m.cls := findClass_of_methodNamed B.named
  have hlocks := B.notSynchronized
  subst hsz
  have hD := hD0.self (sz := s.heap.size)
  generalize hAe : va_A (rt_mw h0 a1 a2 k1 k2 f g (nI en) ret cnt per cng pnd msk sr sav tkn com) s.heap.size = A at hD ⊢
  have hA : ∀ q : Nat, s.heap.size ≤ q → A q := fun q h => by rw [← hAe]; exact Or.inr h
  have hS : va_S A s.heap s.heap [] := va_S.rf
  have hP : va_P (dC, dI) vwCl (rt_mw h0 a1 a2 k1 k2 f g (nI en) ret cnt per cng pnd msk sr sav tkn com) s.heap := hP
  have hl := lv_entry ([.ref h0, .int p1, .int p2]) (n := 3) (Nat.le_of_ble_eq_true rfl)
  rw [lg_entry_eq]
  generalize (lg_sl ([.ref h0, .int p1, .int p2]) ++ List.replicate (3 - (lg_sl ([.ref h0, .int p1, .int p2])).length) Slot.unset).toArray = ls at hl ⊢
  have hl : lv_has ls 3 [(0, .ref h0), (1, .int p1), (2, .int p2)] := hl
  refine lv_aload_n hx hb dX1_entryOf_0 rfl (lv_at hl 0 rfl) ?_
  refine lv_iconst (v := 0) hx hb dX1_entryOf_1 (by decide) ?_
  refine va_put (D := (dC, dI)) (ci := 1) (v := .int 0) (ty := .int) (C := RX1) (T := TX1) (N := 14) hx hb hts (fun _ h => List.mem_cons_of_mem _ (List.mem_append_right _ h)) tyX1 tyX1_ok nmX1 hown hK hP hD hS 0 rfl rfl 0 (by decide) (hts (.fieldLink RX1 20 "RetiredTimerModel" "thrown" "I") (by decide +kernel)) (fun _ h9 => h9) rfl (by decide +kernel) rfl rfl (Nat.le_of_ble_eq_true rfl) dX1_entryOf_2 (fun H locs hP hD hS => ?_)
  have hP : va_P (dC, dI) vwCl (rt_mw h0 a1 a2 k1 k2 f g (nI en) ret cnt per cng pnd msk sr sav tkn com) H := hP
  have hD : va_D A (rt_mw h0 a1 a2 k1 k2 f g (nI en) ret cnt per cng pnd msk sr sav tkn com) := hD
  refine lv_iload_n hx hb dX1_entryOf_5 rfl (lv_at hl 1 rfl) ?_
  refine lv_if_lt (tgt := 17) hx hb dX1_entryOf_6 (by decide) (fun c_6 => ?_) (fun c_6 => ?_)
  · refine lv_iconst (v := -1) hx hb dX1_entryOf_17 (by decide) ?_
    refine lv_goto (tgt := 40) hx hb dX1_entryOf_18 (by decide) ?_
    exact W.iret (v := (-1)) hx hb hr (fun t ht hW => ⟨⟨(-1), (), rfl, by unfold rt_eo; rw [if_pos (Or.inl c_6)], by rw [ht]; exact hP, va_K.moved hW.alike hK, hD⟩, hS.F ht⟩) hS.2.2 dX1_entryOf_40
  · refine lv_iload_n hx hb dX1_entryOf_9 rfl (lv_at hl 1 rfl) ?_
    refine lv_aload_n hx hb dX1_entryOf_10 rfl (lv_at hl 0 rfl) ?_
    refine va_get (D := (dC, dI)) (ci := 1) (v := .int (nI en)) (C := RX1) (T := TX1) (N := 14) hx hb hts (fun _ h => List.mem_cons_of_mem _ (List.mem_append_right _ h)) hown hK hP 0 rfl rfl 12 (by decide) (hts (.fieldLink RX1 26 "RetiredTimerModel" "entries" "I") (by decide +kernel)) (fun _ h9 => h9) rfl dX1_entryOf_11 ?_
    refine lv_icmp_lt (tgt := 21) hx hb dX1_entryOf_14 (by decide) (fun c_14 => ?_) (fun c_14 => ?_)
    · refine lv_iload_n hx hb dX1_entryOf_21 rfl (lv_at hl 2 rfl) ?_
      refine lv_if_eq (tgt := 34) hx hb dX1_entryOf_22 (by decide) (fun c_22 => ?_) (fun c_22 => ?_)
      · refine lv_aload_n hx hb dX1_entryOf_34 rfl (lv_at hl 0 rfl) ?_
        refine va_get (D := (dC, dI)) (ci := 1) (v := .ref a1) (C := RX1) (T := TX1) (N := 14) hx hb hts (fun _ h => List.mem_cons_of_mem _ (List.mem_append_right _ h)) hown hK hP 0 rfl rfl 10 (by decide) (hts (.fieldLink RX1 13 "RetiredTimerModel" "counts" "[I") (by decide +kernel)) (fun _ h9 => h9) rfl dX1_entryOf_35 ?_
        refine lv_iload_n hx hb dX1_entryOf_38 rfl (lv_at hl 1 rfl) ?_
        refine va_iald hx hb hK hP 1 0 rfl rfl (rt_idx h32 c_6 (fun h => rt_nle2 h c_14)) dX1_entryOf_39 ?_
        exact W.iret (v := f p1.toNatClampNeg) hx hb hr (fun t ht hW => ⟨⟨f p1.toNatClampNeg, (), rfl, by unfold rt_eo; rw [if_neg (fun h => h.elim c_6 (fun h => rt_nle2 h c_14)), if_pos c_22], by rw [ht]; exact hP, va_K.moved hW.alike hK, hD⟩, hS.F ht⟩) hS.2.2 dX1_entryOf_40
      · refine lv_aload_n hx hb dX1_entryOf_25 rfl (lv_at hl 0 rfl) ?_
        refine va_get (D := (dC, dI)) (ci := 1) (v := .ref a2) (C := RX1) (T := TX1) (N := 14) hx hb hts (fun _ h => List.mem_cons_of_mem _ (List.mem_append_right _ h)) hown hK hP 0 rfl rfl 11 (by decide) (hts (.fieldLink RX1 17 "RetiredTimerModel" "values" "[I") (by decide +kernel)) (fun _ h9 => h9) rfl dX1_entryOf_26 ?_
        refine lv_iload_n hx hb dX1_entryOf_29 rfl (lv_at hl 1 rfl) ?_
        refine va_iald hx hb hK hP 2 1 rfl rfl (rt_idx h32 c_6 (fun h => rt_nle2 h c_14)) dX1_entryOf_30 ?_
        refine lv_goto (tgt := 40) hx hb dX1_entryOf_31 (by decide) ?_
        exact W.iret (v := g p1.toNatClampNeg) hx hb hr (fun t ht hW => ⟨⟨g p1.toNatClampNeg, (), rfl, by unfold rt_eo; rw [if_neg (fun h => h.elim c_6 (fun h => rt_nle2 h c_14)), if_neg c_22], by rw [ht]; exact hP, va_K.moved hW.alike hK, hD⟩, hS.F ht⟩) hS.2.2 dX1_entryOf_40
    · refine lv_iconst (v := -1) hx hb dX1_entryOf_17 (by decide) ?_
      refine lv_goto (tgt := 40) hx hb dX1_entryOf_18 (by decide) ?_
      exact W.iret (v := (-1)) hx hb hr (fun t ht hW => ⟨⟨(-1), (), rfl, by unfold rt_eo; rw [if_pos (Or.inr (rt_nlt c_14))], by rw [ht]; exact hP, va_K.moved hW.alike hK, hD⟩, hS.F ht⟩) hS.2.2 dX1_entryOf_40
end
section
set_option maxHeartbeats 4000000 in
set_option maxRecDepth 100000 in
theorem lp_M_steps {p : Program} {l : Launch} {e0 : Env} {R : Room} {s : State} {m : MethodId} {args : Array Value} {below : List Frame} {meth : Method} {c : Code} {Q : State → Prop} {dC : Nat → ClassId} {dI : Nat → Nat → Nat} {A : Nat → Prop} {h0 a1 a2 : Nat} {k1 k2 : ClassId} {f g : Nat → Int32} {cnt cng pnd msk sr sav tkn : Int32} {en rn pn N t : Nat} (hx : p.tables.exec = Jvm.exec) (hb : c.code = cX1_steps) (hts : ∀ w ∈ wsX1_steps, w.before args s = true) (hown : s.vm.findClass RX1 = some m.cls) (hml : c.maxLocals = 3) (hA : ∀ q : Nat, s.heap.size ≤ q → A q) (hRf : 2 ≤ R.frames) (hRl : 40 ≤ R.locals) (hK : va_K (dC, dI) vwCl [(k1, .int), (k2, .int)] s) (h32 : en ≤ 32) (hpl : pn < 268435456) (hs : rt_Srt f en) (hN : N ≤ 20000) (ht : t ≤ N) (hrt : rn + N < 2147483648)
    (hbef : ∀ d, d < t → rt_due sr (rt_cp cng (nI pn) cnt pnd (nI d)) (rt_pl f g (nI (rn + d)) en) msk = 0) (hat : t = N ∨ ¬ rt_due sr (rt_cp cng (nI pn) cnt pnd (nI t)) (rt_pl f g (nI (rn + t)) en) msk = 0)
    (kx : ∀ (k : Nat) (H : Heap) (locs : List Loc) (ls : Array Slot), rt_Come f en (rn + t) k → va_P (dC, dI) vwCl (rt_mw h0 a1 a2 k1 k2 f g (nI en) (nI (rn + t)) (rt_cc cng (nI pn) cnt (nI t)) (nI pn) cng (rt_cp cng (nI pn) cnt pnd (nI t)) msk sr sav tkn (nI k)) H → va_D A (rt_mw h0 a1 a2 k1 k2 f g (nI en) (nI (rn + t)) (rt_cc cng (nI pn) cnt (nI t)) (nI pn) cng (rt_cp cng (nI pn) cnt pnd (nI t)) msk sr sav tkn (nI k)) → va_S A s.heap H locs → lv_has ls 3 [(0, .ref h0), (1, .int (nI N)), (2, .int (nI t))] → W p l e0 R s m args below meth c H locs 0 0 Q (F0 m 54 ls [])) :
    ∀ (n d : Nat), d + n = t → ∀ (k : Nat) (H : Heap) (locs : List Loc) (ls : Array Slot), rt_Come f en (rn + d) k → va_P (dC, dI) vwCl (rt_mw h0 a1 a2 k1 k2 f g (nI en) (nI (rn + d)) (rt_cc cng (nI pn) cnt (nI d)) (nI pn) cng (rt_cp cng (nI pn) cnt pnd (nI d)) msk sr sav tkn (nI k)) H → va_D A (rt_mw h0 a1 a2 k1 k2 f g (nI en) (nI (rn + d)) (rt_cc cng (nI pn) cnt (nI d)) (nI pn) cng (rt_cp cng (nI pn) cnt pnd (nI d)) msk sr sav tkn (nI k)) → va_S A s.heap H locs → lv_has ls 3 [(0, .ref h0), (1, .int (nI N)), (2, .int (nI d))] → W p l e0 R s m args below meth c H locs 0 0 Q (F0 m 32 ls []) := by
  intro n
  induction n with
  | zero =>
    intro d hd k H locs ls hc hP hD hS hl
    have hde : d = t := by omega
    subst hde
    refine lv_iload_n hx hb dX1_steps_32 rfl (lv_at hl 2 rfl) ?_
    refine lv_iload_n hx hb dX1_steps_33 rfl (lv_at hl 1 rfl) ?_
    refine lv_icmp_ge (tgt := 54) hx hb dX1_steps_34 (by decide) (fun c_34 => ?_) (fun c_34 => ?_)
    · exact kx k H locs ls hc hP hD hS hl
    · refine lv_aload_n hx hb dX1_steps_37 rfl (lv_at hl 0 rfl) ?_
      have hFc := va_free (wc := rt_mw h0 a1 a2 k1 k2 f g (nI en) (nI (rn + d)) (rt_cc cng (nI pn) cnt (nI d)) (nI pn) cng (rt_cp cng (nI pn) cnt pnd (nI d)) msk sr sav tkn (nI k)) hD hS hA [0, 1, 2] rfl
      refine va_calli (va_runV (As := []) (rest := []) ⟨hx, hb, hml, hown, hts⟩ (c_M_due l dC dI h0 a1 a2 H.size k1 k2 f g (nI en) (nI (rn + d)) (rt_cc cng (nI pn) cnt (nI d)) (nI pn) cng (rt_cp cng (nI pn) cnt pnd (nI d)) msk sr sav tkn (nI k) k rfl (by have := hc.1; omega)) (cwV 0 hts gX1_steps_X1_due rfl rfl rfl (by decide +kernel) ⟨hRf, hRl⟩) ⟨fun a U g mk q => by obtain ⟨q0, q1, qP, qK, qD⟩ := q; exact ⟨q0, q1, qP, va_K.moved (u := U) (U := U.calling g mk a) (Vm.Alike.refl U.vm) qK, qD⟩, va_recv hK hP (ci := 1) (q0 := 0) rfl rfl, fun U hU hW => ⟨rfl, by rw [hU], by rw [hU]; exact hP, va_K.moved hW.alike hK, hD.weaken (fun _ _ _ _ => trivial)⟩⟩ rfl rfl hl.1 rfl (lv_room (Nat.le_of_ble_eq_true rfl)) dX1_steps_38 ⟨Nat.zero_le _, Nat.zero_le _⟩) hS (fun q _ h => hFc q h) hFc (fun r_38 u t H1 locs ht hvm hw_38 hB hz1 hk1 hS => ?_)
      obtain ⟨hP1, hK1, hD1⟩ := hB
      rw [ht] at hP1
      try dsimp only at hw_38 hP1 hD1
      obtain ⟨hP, hD⟩ := va_join (wr := []) (w1 := rt_mw h0 a1 a2 k1 k2 f g (nI en) (nI (rn + d)) (rt_cc cng (nI pn) cnt (nI d)) (nI pn) cng (rt_cp cng (nI pn) cnt pnd (nI d)) msk sr sav tkn (nI k)) hP hD [0, 1, 2] [] rfl rfl (by decide) (by decide) hk1 hFc hP1 hD1
      generalize H1 = H at hP hS ⊢
      have hP : va_P (dC, dI) vwCl (rt_mw h0 a1 a2 k1 k2 f g (nI en) (nI (rn + d)) (rt_cc cng (nI pn) cnt (nI d)) (nI pn) cng (rt_cp cng (nI pn) cnt pnd (nI d)) msk sr sav tkn (nI k)) H := hP
      have hD : va_D A (rt_mw h0 a1 a2 k1 k2 f g (nI en) (nI (rn + d)) (rt_cc cng (nI pn) cnt (nI d)) (nI pn) cng (rt_cp cng (nI pn) cnt pnd (nI d)) msk sr sav tkn (nI k)) := hD
      refine lv_if_ne (tgt := 54) hx hb dX1_steps_41 (by decide) (fun c_41 => ?_) (fun c_41 => absurd (hw_38.symm.trans c_41) (by rw [← rt_pl_now hc]; exact hat.resolve_left (fun h => c_34 (nI_le (by omega) (by omega)))))
      exact kx k H locs ls hc hP hD hS hl
  | succ n ih =>
    intro d hd k H locs ls hc hP hD hS hl
    refine lv_iload_n hx hb dX1_steps_32 rfl (lv_at hl 2 rfl) ?_
    refine lv_iload_n hx hb dX1_steps_33 rfl (lv_at hl 1 rfl) ?_
    refine lv_icmp_ge (tgt := 54) hx hb dX1_steps_34 (by decide) (fun c_34 => absurd c_34 (nI_ge (by omega) (by omega))) (fun c_34 => ?_)
    refine lv_aload_n hx hb dX1_steps_37 rfl (lv_at hl 0 rfl) ?_
    have hFc := va_free (wc := rt_mw h0 a1 a2 k1 k2 f g (nI en) (nI (rn + d)) (rt_cc cng (nI pn) cnt (nI d)) (nI pn) cng (rt_cp cng (nI pn) cnt pnd (nI d)) msk sr sav tkn (nI k)) hD hS hA [0, 1, 2] rfl
    refine va_calli (va_runV (As := []) (rest := []) ⟨hx, hb, hml, hown, hts⟩ (c_M_due l dC dI h0 a1 a2 H.size k1 k2 f g (nI en) (nI (rn + d)) (rt_cc cng (nI pn) cnt (nI d)) (nI pn) cng (rt_cp cng (nI pn) cnt pnd (nI d)) msk sr sav tkn (nI k) k rfl (by have := hc.1; omega)) (cwV 0 hts gX1_steps_X1_due rfl rfl rfl (by decide +kernel) ⟨hRf, hRl⟩) ⟨fun a U g mk q => by obtain ⟨q0, q1, qP, qK, qD⟩ := q; exact ⟨q0, q1, qP, va_K.moved (u := U) (U := U.calling g mk a) (Vm.Alike.refl U.vm) qK, qD⟩, va_recv hK hP (ci := 1) (q0 := 0) rfl rfl, fun U hU hW => ⟨rfl, by rw [hU], by rw [hU]; exact hP, va_K.moved hW.alike hK, hD.weaken (fun _ _ _ _ => trivial)⟩⟩ rfl rfl hl.1 rfl (lv_room (Nat.le_of_ble_eq_true rfl)) dX1_steps_38 ⟨Nat.zero_le _, Nat.zero_le _⟩) hS (fun q _ h => hFc q h) hFc (fun r_38 u t H1 locs ht hvm hw_38 hB hz1 hk1 hS => ?_)
    obtain ⟨hP1, hK1, hD1⟩ := hB
    rw [ht] at hP1
    try dsimp only at hw_38 hP1 hD1
    obtain ⟨hP, hD⟩ := va_join (wr := []) (w1 := rt_mw h0 a1 a2 k1 k2 f g (nI en) (nI (rn + d)) (rt_cc cng (nI pn) cnt (nI d)) (nI pn) cng (rt_cp cng (nI pn) cnt pnd (nI d)) msk sr sav tkn (nI k)) hP hD [0, 1, 2] [] rfl rfl (by decide) (by decide) hk1 hFc hP1 hD1
    generalize H1 = H at hP hS ⊢
    have hP : va_P (dC, dI) vwCl (rt_mw h0 a1 a2 k1 k2 f g (nI en) (nI (rn + d)) (rt_cc cng (nI pn) cnt (nI d)) (nI pn) cng (rt_cp cng (nI pn) cnt pnd (nI d)) msk sr sav tkn (nI k)) H := hP
    have hD : va_D A (rt_mw h0 a1 a2 k1 k2 f g (nI en) (nI (rn + d)) (rt_cc cng (nI pn) cnt (nI d)) (nI pn) cng (rt_cp cng (nI pn) cnt pnd (nI d)) msk sr sav tkn (nI k)) := hD
    refine lv_if_ne (tgt := 54) hx hb dX1_steps_41 (by decide) (fun c_41 => absurd (hw_38.trans (by rw [← rt_pl_now hc]; exact hbef d (by omega))) c_41) (fun c_41 => ?_)
    refine lv_aload_n hx hb dX1_steps_44 rfl (lv_at hl 0 rfl) ?_
    have hFc := va_free (wc := rt_mw h0 a1 a2 k1 k2 f g (nI en) (nI (rn + d)) (rt_cc cng (nI pn) cnt (nI d)) (nI pn) cng (rt_cp cng (nI pn) cnt pnd (nI d)) msk sr sav tkn (nI k)) hD hS hA [0, 1, 2] rfl
    refine va_callv (va_runV (As := []) (rest := []) ⟨hx, hb, hml, hown, hts⟩ (c_M_step l dC dI h0 a1 a2 H.size k1 k2 f g (nI en) (nI (rn + d)) (rt_cc cng (nI pn) cnt (nI d)) (nI pn) cng (rt_cp cng (nI pn) cnt pnd (nI d)) msk sr sav tkn (nI k) en (rn + d) k rfl h32 rfl rfl (by omega) hs hc) (cwV 0 hts gX1_steps_X1_step rfl rfl rfl (by decide +kernel) ⟨hRf, hRl⟩) ⟨fun a U g mk q => by obtain ⟨q0, q1, qP, qK, qD⟩ := q; exact ⟨q0, q1, qP, va_K.moved (u := U) (U := U.calling g mk a) (Vm.Alike.refl U.vm) qK, qD⟩, va_recv hK hP (ci := 1) (q0 := 0) rfl rfl, fun U hU hW => ⟨rfl, by rw [hU], by rw [hU]; exact hP, va_K.moved hW.alike hK, hD.weaken (fun _ _ _ _ => trivial)⟩⟩ rfl rfl hl.1 rfl (lv_room (Nat.le_of_ble_eq_true rfl)) dX1_steps_45 ⟨Nat.zero_le _, Nat.zero_le _⟩) hS (fun q _ h => hFc q h) hFc (fun u t H1 locs ht hvm hw_45 hB hz1 hk1 hS => ?_)
    obtain ⟨ret_45, cnt_45, pnd_45, com_45⟩ := u
    obtain ⟨hP1, hK1, hD1⟩ := hB
    rw [ht] at hP1
    try dsimp only at hw_45 hP1 hD1
    obtain ⟨hP, hD⟩ := va_join (wr := []) (w1 := rt_mw h0 a1 a2 k1 k2 f g (nI en) ret_45 cnt_45 (nI pn) cng pnd_45 msk sr sav tkn (nI com_45)) hP hD [0, 1, 2] [] rfl rfl (by decide) (by decide) hk1 hFc hP1 hD1
    generalize H1 = H at hP hS ⊢
    have hP : va_P (dC, dI) vwCl (rt_mw h0 a1 a2 k1 k2 f g (nI en) ret_45 cnt_45 (nI pn) cng pnd_45 msk sr sav tkn (nI com_45)) H := hP
    have hD : va_D A (rt_mw h0 a1 a2 k1 k2 f g (nI en) ret_45 cnt_45 (nI pn) cng pnd_45 msk sr sav tkn (nI com_45)) := hD
    obtain ⟨h1, h2, h3, h4⟩ := hw_45
    have hcs := rt_cs (t := d) cng cnt pnd hpl (by omega)
    have h2 := h2.trans hcs.1.symm
    have h3 := h3.trans hcs.2.symm
    subst h1
    subst h2
    subst h3
    refine lv_iinc (v := (nI d) + 1) (lv' := [(2, .int ((nI d) + 1)), (0, .ref h0), (1, .int (nI N))]) hx hb dX1_steps_48 hl (k := 2) rfl rfl (by decide) rfl (fun ls hl => ?_)
    refine lv_goto (tgt := 32) hx hb dX1_steps_51 (by decide) ?_
    exact ih (d + 1) (by omega) com_45 H locs ls h4 hP hD hS (by rw [← nI_1]; exact lv_sub hl [1, 2, 0] rfl)
set_option maxHeartbeats 4000000 in
set_option maxRecDepth 100000 in
theorem c_M_steps (l : Launch) (dC : Nat → ClassId) (dI : Nat → Nat → Nat) (h0 a1 a2 sz : Nat) (k1 k2 : ClassId) (f g : Nat → Int32) (ent ret cnt per cng pnd msk sr sav tkn com : Int32) (p1 : Int32) (en rn kn pn : Nat) (he : ent = nI en) (h32 : en ≤ 32) (hrn : ret = nI rn) (hk : com = nI kn) (hpn : per = nI pn) (hrl : rn < 2147483648) (hpl : pn < 268435456) (hs : rt_Srt f en) (hc : rt_Come f en rn kn) :
    Met l yX1_steps wsX1_steps ({ frames := 2, cells := 0, slots := 0, locals := 40 }) (va_Pc [.ref h0, .int p1] (rt_pre dC dI (rt_mw h0 a1 a2 k1 k2 f g ent ret cnt per cng pnd msk sr sav tkn com) [(k1, .int), (k2, .int)] sz)) (va_Qi (fun (v : Int32) (u : Int32 × Int32 × Int32 × Nat) => v = rt_ans f g en rn cnt per cng pnd msk sr p1 ∧ u.1 = nI (rn + rt_tn f g en rn cnt per cng pnd msk sr p1) ∧ u.2.1 = rt_cc cng per cnt (nI (rt_tn f g en rn cnt per cng pnd msk sr p1)) ∧ u.2.2.1 = rt_cp cng per cnt pnd (nI (rt_tn f g en rn cnt per cng pnd msk sr p1)) ∧ rt_Come f en (rn + rt_tn f g en rn cnt per cng pnd msk sr p1) u.2.2.2) (rt_post dC dI [(k1, .int), (k2, .int)] (va_A (rt_mw h0 a1 a2 k1 k2 f g ent ret cnt per cng pnd msk sr sav tkn com) sz) (fun (u : Int32 × Int32 × Int32 × Nat) => rt_mw h0 a1 a2 k1 k2 f g ent u.1 u.2.1 per cng u.2.2.1 msk sr sav tkn (nI u.2.2.2))) (va_A (rt_mw h0 a1 a2 k1 k2 f g ent ret cnt per cng pnd msk sr sav tkn com) sz)) 0 0 (va_A (rt_mw h0 a1 a2 k1 k2 f g ent ret cnt per cng pnd msk sr sav tkn com) sz) := by
  subst he
  subst hrn
  subst hk
  subst hpn
  refine Met.ofW (cc := cX1_steps) (maxL := 3) (ret := (some .int)) (by decide) rfl ?_
  intro p e0 s m args below meth c s₁ B hml hv
  obtain ⟨rfl, hsz, hP, hK, hD0⟩ := hv
  have hx := B.exec
  have hb := B.bytes
  have hr := B.returns
  have hts := atoms_spec (ws := wsX1_steps) B.pre
  have hown : s.vm.findClass RX1 = some m.cls := findClass_of_methodNamed B.named
  have hlocks := B.notSynchronized
  subst hsz
  have hD := hD0.self (sz := s.heap.size)
  generalize hAe : va_A (rt_mw h0 a1 a2 k1 k2 f g (nI en) (nI rn) cnt (nI pn) cng pnd msk sr sav tkn (nI kn)) s.heap.size = A at hD ⊢
  have hA : ∀ q : Nat, s.heap.size ≤ q → A q := fun q h => by rw [← hAe]; exact Or.inr h
  have hS : va_S A s.heap s.heap [] := va_S.rf
  have hP : va_P (dC, dI) vwCl (rt_mw h0 a1 a2 k1 k2 f g (nI en) (nI rn) cnt (nI pn) cng pnd msk sr sav tkn (nI kn)) s.heap := hP
  have hl := lv_entry ([.ref h0, .int p1]) (n := 3) (Nat.le_of_ble_eq_true rfl)
  rw [lg_entry_eq]
  generalize (lg_sl ([.ref h0, .int p1]) ++ List.replicate (3 - (lg_sl ([.ref h0, .int p1])).length) Slot.unset).toArray = ls at hl ⊢
  have hl : lv_has ls 3 [(0, .ref h0), (1, .int p1)] := hl
  refine lv_aload_n hx hb dX1_steps_0 rfl (lv_at hl 0 rfl) ?_
  refine lv_iconst (v := 0) hx hb dX1_steps_1 (by decide) ?_
  refine va_put (D := (dC, dI)) (ci := 1) (v := .int 0) (ty := .int) (C := RX1) (T := TX1) (N := 14) hx hb hts (fun _ h => List.mem_cons_of_mem _ (List.mem_append_right _ h)) tyX1 tyX1_ok nmX1 hown hK hP hD hS 0 rfl rfl 0 (by decide) (hts (.fieldLink RX1 20 "RetiredTimerModel" "thrown" "I") (by decide +kernel)) (fun _ h9 => h9) rfl (by decide +kernel) rfl rfl (Nat.le_of_ble_eq_true rfl) dX1_steps_2 (fun H locs hP hD hS => ?_)
  have hP : va_P (dC, dI) vwCl (rt_mw h0 a1 a2 k1 k2 f g (nI en) (nI rn) cnt (nI pn) cng pnd msk sr sav tkn (nI kn)) H := hP
  have hD : va_D A (rt_mw h0 a1 a2 k1 k2 f g (nI en) (nI rn) cnt (nI pn) cng pnd msk sr sav tkn (nI kn)) := hD
  refine lv_iload_n hx hb dX1_steps_5 rfl (lv_at hl 1 rfl) ?_
  refine lv_iconst (v := 1) hx hb dX1_steps_6 (by decide) ?_
  refine lv_icmp_lt (tgt := 28) hx hb dX1_steps_7 (by decide) (fun c_7 => ?_) (fun c_7 => ?_)
  · refine lv_iconst (v := -1) hx hb dX1_steps_28 (by decide) ?_
    have hbad : p1 < 1 ∨ 20000 < p1 ∨ 2147483647 - nI rn < p1 := (Or.inl c_7)
    have hrf := rt_refuse (f := f) (g := g) (e := en) (cnt := cnt) (cng := cng) (pnd := pnd) (msk := msk) (sr := sr) hpl hbad
    exact W.iret (v := (-1)) hx hb hr (fun t ht hW => ⟨⟨(-1), ((nI rn), cnt, pnd, kn), rfl, ⟨hrf.1, hrf.2.1, hrf.2.2.1, hrf.2.2.2, by rw [show rt_tn f g en rn cnt (nI pn) cng pnd msk sr p1 = 0 from if_pos hbad]; exact hc⟩, by rw [ht]; exact hP, va_K.moved hW.alike hK, hD⟩, hS.F ht⟩) hS.2.2 dX1_steps_29
  · refine lv_iload_n hx hb dX1_steps_10 rfl (lv_at hl 1 rfl) ?_
    refine lv_sipush (v := 20000) hx hb dX1_steps_11 (by decide) ?_
    refine lv_icmp_gt (tgt := 28) hx hb dX1_steps_14 (by decide) (fun c_14 => ?_) (fun c_14 => ?_)
    · refine lv_iconst (v := -1) hx hb dX1_steps_28 (by decide) ?_
      have hbad : p1 < 1 ∨ 20000 < p1 ∨ 2147483647 - nI rn < p1 := (Or.inr (Or.inl c_14))
      have hrf := rt_refuse (f := f) (g := g) (e := en) (cnt := cnt) (cng := cng) (pnd := pnd) (msk := msk) (sr := sr) hpl hbad
      exact W.iret (v := (-1)) hx hb hr (fun t ht hW => ⟨⟨(-1), ((nI rn), cnt, pnd, kn), rfl, ⟨hrf.1, hrf.2.1, hrf.2.2.1, hrf.2.2.2, by rw [show rt_tn f g en rn cnt (nI pn) cng pnd msk sr p1 = 0 from if_pos hbad]; exact hc⟩, by rw [ht]; exact hP, va_K.moved hW.alike hK, hD⟩, hS.F ht⟩) hS.2.2 dX1_steps_29
    · refine lv_aload_n hx hb dX1_steps_17 rfl (lv_at hl 0 rfl) ?_
      refine va_get (D := (dC, dI)) (ci := 1) (v := .int (nI rn)) (C := RX1) (T := TX1) (N := 14) hx hb hts (fun _ h => List.mem_cons_of_mem _ (List.mem_append_right _ h)) hown hK hP 0 rfl rfl 1 (by decide) (hts (.fieldLink RX1 29 "RetiredTimerModel" "retired" "I") (by decide +kernel)) (fun _ h9 => h9) rfl dX1_steps_18 ?_
      refine lv_ldc (v := 2147483647) hx hb hown (hts (.constant RX1 55 2147483647) (by decide +kernel)) dX1_steps_21 ?_
      refine lv_iload_n hx hb dX1_steps_23 rfl (lv_at hl 1 rfl) ?_
      refine lv_isub hx hb dX1_steps_24 ?_
      refine lv_icmp_le (tgt := 30) hx hb dX1_steps_25 (by decide) (fun c_25 => ?_) (fun c_25 => ?_)
      · refine lv_iconst (v := 0) hx hb dX1_steps_30 (by decide) ?_
        refine lv_istore_n (lv' := [(2, .int 0), (0, .ref h0), (1, .int p1)]) hx hb dX1_steps_31 rfl hl (by decide) rfl (fun ls hl => ?_)
        have hok : ¬ (p1 < 1 ∨ 20000 < p1 ∨ 2147483647 - nI rn < p1) := rt_okM hrl c_7 c_14 c_25
        obtain ⟨N, tt, hN, hN2, hN3, ht1, ht2, ht3, ht4, ht5⟩ := rt_tn_spec (g := g) (cnt := cnt) (cng := cng) (pnd := pnd) (msk := msk) (sr := sr) hrl hpl hs.2 hok
        subst hN
        have h00 := rt_c0 cng cnt pnd hpl
        refine lp_M_steps (f := f) (g := g) (cnt := cnt) (cng := cng) (pnd := pnd) (msk := msk) (sr := sr) (N := N) (t := tt) hx hb hts hown hml hA (Nat.le_of_ble_eq_true rfl) (Nat.le_of_ble_eq_true rfl) hK h32 hpl hs hN2 ht1 hN3 (fun d hd => rt_before hs hpl (by omega) (by omega)) (ht5.imp id (fun h => rt_reached hs hpl (by omega) h)) (fun k H locs ls hc hP hD hS hl => ?_) tt 0 (by omega) kn _ _ ls hc (by rw [h00.1, h00.2]; exact hP) (by rw [h00.1, h00.2]; exact hD) hS (lv_sub hl [1, 2, 0] rfl)
        refine lv_iload_n hx hb dX1_steps_54 rfl (lv_at hl 2 rfl) ?_
        exact W.iret (v := nI tt) hx hb hr (fun t ht hW => ⟨⟨nI tt, ((nI (rn + tt)), (rt_cc cng (nI pn) cnt (nI tt)), (rt_cp cng (nI pn) cnt pnd (nI tt)), k), rfl, ⟨by unfold rt_ans; rw [if_neg hok, ht2], by rw [ht2], by rw [ht2], by rw [ht2], by rw [ht2]; exact hc⟩, by rw [ht]; exact hP, va_K.moved hW.alike hK, hD⟩, hS.F ht⟩) hS.2.2 dX1_steps_55
      · refine lv_iconst (v := -1) hx hb dX1_steps_28 (by decide) ?_
        have hbad : p1 < 1 ∨ 20000 < p1 ∨ 2147483647 - nI rn < p1 := (rt_badM hrl c_7 c_14 c_25)
        have hrf := rt_refuse (f := f) (g := g) (e := en) (cnt := cnt) (cng := cng) (pnd := pnd) (msk := msk) (sr := sr) hpl hbad
        exact W.iret (v := (-1)) hx hb hr (fun t ht hW => ⟨⟨(-1), ((nI rn), cnt, pnd, kn), rfl, ⟨hrf.1, hrf.2.1, hrf.2.2.1, hrf.2.2.2, by rw [show rt_tn f g en rn cnt (nI pn) cng pnd msk sr p1 = 0 from if_pos hbad]; exact hc⟩, by rw [ht]; exact hP, va_K.moved hW.alike hK, hD⟩, hS.F ht⟩) hS.2.2 dX1_steps_29
end
section
set_option maxHeartbeats 4000000 in
set_option maxRecDepth 100000 in
theorem lp_M_until {p : Program} {l : Launch} {e0 : Env} {R : Room} {s : State} {m : MethodId} {args : Array Value} {below : List Frame} {meth : Method} {c : Code} {Q : State → Prop} {dC : Nat → ClassId} {dI : Nat → Nat → Nat} {h0 a1 a2 : Nat} {k1 k2 : ClassId} {H : Heap} {locs : List Loc} {f g : Nat → Int32} {cnt per cng pnd msk sr sav tkn : Int32} {en rn kn : Nat} {Z : Int64} (hx : p.tables.exec = Jvm.exec) (hb : c.code = cX1_until) (hts : ∀ w ∈ wsX1_until, w.before args s = true) (hown : s.vm.findClass RX1 = some m.cls) (hK : va_K (dC, dI) vwCl [(k1, .int), (k2, .int)] s) (hP : va_P (dC, dI) vwCl (rt_mw h0 a1 a2 k1 k2 f g (nI en) (nI rn) cnt per cng pnd msk sr sav tkn (nI kn)) H) (h32 : en ≤ 32) (h4 : ¬ sr &&& 4 = 0)
    (kx : ∀ (ls : Array Slot), lv_has ls 6 [(0, .ref h0), (1, .long Z)] → W p l e0 R s m args below meth c H locs 0 0 Q (F0 m 135 ls [])) :
    ∀ (n : Nat) (acc : Int64), kn + n ≤ en → rt_ml f g (nI rn) msk kn n acc = Z → ∀ (ls : Array Slot), lv_has ls 6 [(0, .ref h0), (1, .long acc), (3, .int (nI (kn + n) - 1))] → W p l e0 R s m args below meth c H locs 0 0 Q (F0 m 69 ls []) := by
  intro n
  induction n with
  | zero =>
    intro acc hn hq ls hl
    have hq : acc = Z := hq
    subst hq
    refine lv_iload_n hx hb dX1_until_69 rfl (lv_at hl 2 rfl) ?_
    refine lv_aload_n hx hb dX1_until_70 rfl (lv_at hl 0 rfl) ?_
    refine va_get (D := (dC, dI)) (ci := 1) (v := .int (nI kn)) (C := RX1) (T := TX1) (N := 14) hx hb hts (fun _ h => List.mem_cons_of_mem _ (List.mem_append_right _ h)) hown hK hP 0 rfl rfl 13 (by decide) (hts (.fieldLink RX1 23 "RetiredTimerModel" "come" "I") (by decide +kernel)) (fun _ h9 => h9) rfl dX1_until_71 ?_
    refine lv_icmp_lt (tgt := 135) hx hb dX1_until_74 (by decide) (fun c_74 => ?_) (fun c_74 => absurd (rt_ltself (by omega)) c_74)
    exact kx ls (lv_sub hl [0, 1] rfl)
  | succ n ih =>
    intro acc hn hq ls hl
    have hl : lv_has ls 6 [(0, .ref h0), (1, .long acc), (3, .int (nI (kn + n)))] := by rw [← nI_pred]; exact hl
    refine lv_iload_n hx hb dX1_until_69 rfl (lv_at hl 2 rfl) ?_
    refine lv_aload_n hx hb dX1_until_70 rfl (lv_at hl 0 rfl) ?_
    refine va_get (D := (dC, dI)) (ci := 1) (v := .int (nI kn)) (C := RX1) (T := TX1) (N := 14) hx hb hts (fun _ h => List.mem_cons_of_mem _ (List.mem_append_right _ h)) hown hK hP 0 rfl rfl 13 (by decide) (hts (.fieldLink RX1 23 "RetiredTimerModel" "come" "I") (by decide +kernel)) (fun _ h9 => h9) rfl dX1_until_71 ?_
    refine lv_icmp_lt (tgt := 135) hx hb dX1_until_74 (by decide) (fun c_74 => absurd c_74 (nI_nlt (by omega) (by omega))) (fun c_74 => ?_)
    refine lv_aload_n hx hb dX1_until_77 rfl (lv_at hl 0 rfl) ?_
    refine va_get (D := (dC, dI)) (ci := 1) (v := .int sr) (C := RX1) (T := TX1) (N := 14) hx hb hts (fun _ h => List.mem_cons_of_mem _ (List.mem_append_right _ h)) hown hK hP 0 rfl rfl 7 (by decide) (hts (.fieldLink RX1 7 "RetiredTimerModel" "sr" "I") (by decide +kernel)) (fun _ h9 => h9) rfl dX1_until_78 ?_
    refine lv_iconst (v := 4) hx hb dX1_until_81 (by decide) ?_
    refine lv_iand hx hb dX1_until_82 ?_
    refine lv_if_eq (tgt := 135) hx hb dX1_until_83 (by decide) (fun c_83 => absurd c_83 h4) (fun c_83 => ?_)
    refine lv_aload_n hx hb dX1_until_86 rfl (lv_at hl 0 rfl) ?_
    refine va_get (D := (dC, dI)) (ci := 1) (v := .ref a1) (C := RX1) (T := TX1) (N := 14) hx hb hts (fun _ h => List.mem_cons_of_mem _ (List.mem_append_right _ h)) hown hK hP 0 rfl rfl 10 (by decide) (hts (.fieldLink RX1 13 "RetiredTimerModel" "counts" "[I") (by decide +kernel)) (fun _ h9 => h9) rfl dX1_until_87 ?_
    refine lv_iload_n hx hb dX1_until_90 rfl (lv_at hl 2 rfl) ?_
    refine va_iald hx hb hK hP 1 0 rfl rfl (vp_in_nI (N := 32) (by omega) (by decide)) dX1_until_91 ?_
    rw [show f (nI (kn + n)).toNatClampNeg = f (kn + n) from by rw [nI_clamp (by omega)]]
    refine lv_i2l (v := (f (kn + n)).toInt64) hx hb dX1_until_92 rfl ?_
    refine lv_aload_n hx hb dX1_until_93 rfl (lv_at hl 0 rfl) ?_
    refine va_get (D := (dC, dI)) (ci := 1) (v := .int (nI rn)) (C := RX1) (T := TX1) (N := 14) hx hb hts (fun _ h => List.mem_cons_of_mem _ (List.mem_append_right _ h)) hown hK hP 0 rfl rfl 1 (by decide) (hts (.fieldLink RX1 29 "RetiredTimerModel" "retired" "I") (by decide +kernel)) (fun _ h9 => h9) rfl dX1_until_94 ?_
    refine lv_i2l (v := (nI rn).toInt64) hx hb dX1_until_97 rfl ?_
    refine lv_lsub hx hb dX1_until_98 ?_
    refine lv_lstore (lv' := [(4, .long (((f (kn + n)).toInt64) - ((nI rn).toInt64))), (0, .ref h0), (1, .long acc), (3, .int (nI (kn + n)))]) hx hb dX1_until_99 hl (by decide) rfl (fun ls hl => ?_)
    refine lv_aload_n hx hb dX1_until_101 rfl (lv_at hl 1 rfl) ?_
    refine va_get (D := (dC, dI)) (ci := 1) (v := .ref a2) (C := RX1) (T := TX1) (N := 14) hx hb hts (fun _ h => List.mem_cons_of_mem _ (List.mem_append_right _ h)) hown hK hP 0 rfl rfl 11 (by decide) (hts (.fieldLink RX1 17 "RetiredTimerModel" "values" "[I") (by decide +kernel)) (fun _ h9 => h9) rfl dX1_until_102 ?_
    refine lv_iload_n hx hb dX1_until_105 rfl (lv_at hl 3 rfl) ?_
    refine va_iald hx hb hK hP 2 1 rfl rfl (vp_in_nI (N := 32) (by omega) (by decide)) dX1_until_106 ?_
    rw [show g (nI (kn + n)).toNatClampNeg = g (kn + n) from by rw [nI_clamp (by omega)]]
    refine lv_aload_n hx hb dX1_until_107 rfl (lv_at hl 1 rfl) ?_
    refine va_get (D := (dC, dI)) (ci := 1) (v := .int msk) (C := RX1) (T := TX1) (N := 14) hx hb hts (fun _ h => List.mem_cons_of_mem _ (List.mem_append_right _ h)) hown hK hP 0 rfl rfl 6 (by decide) (hts (.fieldLink RX1 40 "RetiredTimerModel" "mask" "I") (by decide +kernel)) (fun _ h9 => h9) rfl dX1_until_108 ?_
    refine lv_iand hx hb dX1_until_111 ?_
    refine lv_if_eq (tgt := 127) hx hb dX1_until_112 (by decide) (fun c_112 => ?_) (fun c_112 => ?_)
    · refine lv_lload_n hx hb dX1_until_127 rfl (lv_at hl 2 rfl) ?_
      refine lv_lstore_n (lv' := [(1, .long acc), (4, .long (((f (kn + n)).toInt64) - ((nI rn).toInt64))), (0, .ref h0), (3, .int (nI (kn + n)))]) hx hb dX1_until_128 rfl hl (by decide) rfl (fun ls hl => ?_)
      refine lv_iinc (v := (nI (kn + n)) + (-1)) (lv' := [(3, .int ((nI (kn + n)) + (-1))), (1, .long acc), (4, .long (((f (kn + n)).toInt64) - ((nI rn).toInt64))), (0, .ref h0)]) hx hb dX1_until_129 hl (k := 3) rfl rfl (by decide) rfl (fun ls hl => ?_)
      refine lv_goto (tgt := 69) hx hb dX1_until_132 (by decide) ?_
      have e2 : rt_ml f g (nI rn) msk kn n (acc) = Z := by rw [← hq]; simp only [rt_ml]; rw [if_neg (fun h => h.1 c_112)]
      exact ih (acc) (by omega) e2 ls (by rw [Int32.sub_eq_add_neg]; exact lv_sub hl [3, 1, 0] rfl)
    · refine lv_lload hx hb dX1_until_115 (lv_at hl 0 rfl) ?_
      refine lv_lload_n hx hb dX1_until_117 rfl (lv_at hl 2 rfl) ?_
      refine W.lcmp hx hb dX1_until_118 ?_
      refine lv_if_ge (tgt := 127) hx hb dX1_until_119 (by decide) (fun c_119 => ?_) (fun c_119 => ?_)
      · refine lv_lload_n hx hb dX1_until_127 rfl (lv_at hl 2 rfl) ?_
        refine lv_lstore_n (lv' := [(1, .long acc), (4, .long (((f (kn + n)).toInt64) - ((nI rn).toInt64))), (0, .ref h0), (3, .int (nI (kn + n)))]) hx hb dX1_until_128 rfl hl (by decide) rfl (fun ls hl => ?_)
        refine lv_iinc (v := (nI (kn + n)) + (-1)) (lv' := [(3, .int ((nI (kn + n)) + (-1))), (1, .long acc), (4, .long (((f (kn + n)).toInt64) - ((nI rn).toInt64))), (0, .ref h0)]) hx hb dX1_until_129 hl (k := 3) rfl rfl (by decide) rfl (fun ls hl => ?_)
        refine lv_goto (tgt := 69) hx hb dX1_until_132 (by decide) ?_
        have e2 : rt_ml f g (nI rn) msk kn n (acc) = Z := by rw [← hq]; simp only [rt_ml]; rw [if_neg (fun h => rt_geL ((lg_cmp_ge _ _).mp c_119) h.2)]
        exact ih (acc) (by omega) e2 ls (by rw [Int32.sub_eq_add_neg]; exact lv_sub hl [3, 1, 0] rfl)
      · refine lv_lload hx hb dX1_until_122 (lv_at hl 0 rfl) ?_
        refine lv_goto (tgt := 128) hx hb dX1_until_124 (by decide) ?_
        refine lv_lstore_n (lv' := [(1, .long (((f (kn + n)).toInt64) - ((nI rn).toInt64))), (4, .long (((f (kn + n)).toInt64) - ((nI rn).toInt64))), (0, .ref h0), (3, .int (nI (kn + n)))]) hx hb dX1_until_128 rfl hl (by decide) rfl (fun ls hl => ?_)
        refine lv_iinc (v := (nI (kn + n)) + (-1)) (lv' := [(3, .int ((nI (kn + n)) + (-1))), (1, .long (((f (kn + n)).toInt64) - ((nI rn).toInt64))), (4, .long (((f (kn + n)).toInt64) - ((nI rn).toInt64))), (0, .ref h0)]) hx hb dX1_until_129 hl (k := 3) rfl rfl (by decide) rfl (fun ls hl => ?_)
        refine lv_goto (tgt := 69) hx hb dX1_until_132 (by decide) ?_
        have e2 : rt_ml f g (nI rn) msk kn n (((f (kn + n)).toInt64) - ((nI rn).toInt64)) = Z := by rw [← hq]; simp only [rt_ml]; rw [if_pos ⟨c_112, rt_nleL (fun h => c_119 ((lg_cmp_ge _ _).mpr h))⟩]
        exact ih (((f (kn + n)).toInt64) - ((nI rn).toInt64)) (by omega) e2 ls (by rw [Int32.sub_eq_add_neg]; exact lv_sub hl [3, 1, 0] rfl)
set_option maxHeartbeats 4000000 in
set_option maxRecDepth 100000 in
theorem c_M_until (l : Launch) (dC : Nat → ClassId) (dI : Nat → Nat → Nat) (h0 a1 a2 sz : Nat) (k1 k2 : ClassId) (f g : Nat → Int32) (ent ret cnt per cng pnd msk sr sav tkn com : Int32) (en rn kn pn : Nat) (he : ent = nI en) (h32 : en ≤ 32) (hrn : ret = nI rn) (hk : com = nI kn) (hpn : per = nI pn) (hrl : rn < 2147483648) (hpl : pn < 268435456) (hs : rt_Srt f en) (hc : rt_Come f en rn kn) :
    Met l yX1_until wsX1_until ({ frames := 2, cells := 0, slots := 0, locals := 40 }) (va_Pc [.ref h0] (rt_pre dC dI (rt_mw h0 a1 a2 k1 k2 f g ent ret cnt per cng pnd msk sr sav tkn com) [(k1, .int), (k2, .int)] sz)) (va_Qi (fun (v : Int32) (u : Unit) => v = rt_un f g en rn cnt per cng pnd msk sr) (rt_post dC dI [(k1, .int), (k2, .int)] (va_A (rt_mw h0 a1 a2 k1 k2 f g ent ret cnt per cng pnd msk sr sav tkn com) sz) (fun (u : Unit) => rt_mw h0 a1 a2 k1 k2 f g ent ret cnt per cng pnd msk sr sav tkn com)) (va_A (rt_mw h0 a1 a2 k1 k2 f g ent ret cnt per cng pnd msk sr sav tkn com) sz)) 0 0 (va_A (rt_mw h0 a1 a2 k1 k2 f g ent ret cnt per cng pnd msk sr sav tkn com) sz) := by
  subst he
  subst hrn
  subst hk
  subst hpn
  refine Met.ofW (cc := cX1_until) (maxL := 6) (ret := (some .int)) (by decide) rfl ?_
  intro p e0 s m args below meth c s₁ B hml hv
  obtain ⟨rfl, hsz, hP, hK, hD0⟩ := hv
  have hx := B.exec
  have hb := B.bytes
  have hr := B.returns
  have hts := atoms_spec (ws := wsX1_until) B.pre
  have hown : s.vm.findClass RX1 = some m.cls := findClass_of_methodNamed B.named
  have hlocks := B.notSynchronized
  subst hsz
  have hD := hD0.self (sz := s.heap.size)
  generalize hAe : va_A (rt_mw h0 a1 a2 k1 k2 f g (nI en) (nI rn) cnt (nI pn) cng pnd msk sr sav tkn (nI kn)) s.heap.size = A at hD ⊢
  have hA : ∀ q : Nat, s.heap.size ≤ q → A q := fun q h => by rw [← hAe]; exact Or.inr h
  have hS : va_S A s.heap s.heap [] := va_S.rf
  have hP : va_P (dC, dI) vwCl (rt_mw h0 a1 a2 k1 k2 f g (nI en) (nI rn) cnt (nI pn) cng pnd msk sr sav tkn (nI kn)) s.heap := hP
  have hl := lv_entry ([.ref h0]) (n := 6) (Nat.le_of_ble_eq_true rfl)
  rw [lg_entry_eq]
  generalize (lg_sl ([.ref h0]) ++ List.replicate (6 - (lg_sl ([.ref h0])).length) Slot.unset).toArray = ls at hl ⊢
  have hl : lv_has ls 6 [(0, .ref h0)] := hl
  refine lv_aload_n hx hb dX1_until_0 rfl (lv_at hl 0 rfl) ?_
  refine lv_iconst (v := 0) hx hb dX1_until_1 (by decide) ?_
  refine va_put (D := (dC, dI)) (ci := 1) (v := .int 0) (ty := .int) (C := RX1) (T := TX1) (N := 14) hx hb hts (fun _ h => List.mem_cons_of_mem _ (List.mem_append_right _ h)) tyX1 tyX1_ok nmX1 hown hK hP hD hS 0 rfl rfl 0 (by decide) (hts (.fieldLink RX1 20 "RetiredTimerModel" "thrown" "I") (by decide +kernel)) (fun _ h9 => h9) rfl (by decide +kernel) rfl rfl (Nat.le_of_ble_eq_true rfl) dX1_until_2 (fun H locs hP hD hS => ?_)
  have hP : va_P (dC, dI) vwCl (rt_mw h0 a1 a2 k1 k2 f g (nI en) (nI rn) cnt (nI pn) cng pnd msk sr sav tkn (nI kn)) H := hP
  have hD : va_D A (rt_mw h0 a1 a2 k1 k2 f g (nI en) (nI rn) cnt (nI pn) cng pnd msk sr sav tkn (nI kn)) := hD
  refine lv_aload_n hx hb dX1_until_5 rfl (lv_at hl 0 rfl) ?_
  have hFc := va_free (wc := rt_mw h0 a1 a2 k1 k2 f g (nI en) (nI rn) cnt (nI pn) cng pnd msk sr sav tkn (nI kn)) hD hS hA [0, 1, 2] rfl
  refine va_calli (va_runV (As := []) (rest := []) ⟨hx, hb, hml, hown, hts⟩ (c_M_due l dC dI h0 a1 a2 H.size k1 k2 f g (nI en) (nI rn) cnt (nI pn) cng pnd msk sr sav tkn (nI kn) kn rfl (by have := hc.1; omega)) (cwV 0 hts gX1_until_X1_due rfl rfl rfl (by decide +kernel) ⟨Nat.le_of_ble_eq_true rfl, Nat.le_of_ble_eq_true rfl⟩) ⟨fun a U g mk q => by obtain ⟨q0, q1, qP, qK, qD⟩ := q; exact ⟨q0, q1, qP, va_K.moved (u := U) (U := U.calling g mk a) (Vm.Alike.refl U.vm) qK, qD⟩, va_recv hK hP (ci := 1) (q0 := 0) rfl rfl, fun U hU hW => ⟨rfl, by rw [hU], by rw [hU]; exact hP, va_K.moved hW.alike hK, hD.weaken (fun _ _ _ _ => trivial)⟩⟩ rfl rfl hl.1 rfl (lv_room (Nat.le_of_ble_eq_true rfl)) dX1_until_6 ⟨Nat.zero_le _, Nat.zero_le _⟩) hS (fun q _ h => hFc q h) hFc (fun r_6 u t H1 locs ht hvm hw_6 hB hz1 hk1 hS => ?_)
  obtain ⟨hP1, hK1, hD1⟩ := hB
  rw [ht] at hP1
  try dsimp only at hw_6 hP1 hD1
  obtain ⟨hP, hD⟩ := va_join (wr := []) (w1 := rt_mw h0 a1 a2 k1 k2 f g (nI en) (nI rn) cnt (nI pn) cng pnd msk sr sav tkn (nI kn)) hP hD [0, 1, 2] [] rfl rfl (by decide) (by decide) hk1 hFc hP1 hD1
  generalize H1 = H at hP hS ⊢
  have hP : va_P (dC, dI) vwCl (rt_mw h0 a1 a2 k1 k2 f g (nI en) (nI rn) cnt (nI pn) cng pnd msk sr sav tkn (nI kn)) H := hP
  have hD : va_D A (rt_mw h0 a1 a2 k1 k2 f g (nI en) (nI rn) cnt (nI pn) cng pnd msk sr sav tkn (nI kn)) := hD
  refine lv_if_le (tgt := 14) hx hb dX1_until_9 (by decide) (fun c_9 => ?_) (fun c_9 => ?_)
  · refine lv_ldc2 (v := 1099511627776) hx hb hown (hts (.constantLong RX1 69 1099511627776) (by decide +kernel)) dX1_until_14 ?_
    refine lv_lstore_n (lv' := [(1, .long 1099511627776), (0, .ref h0)]) hx hb dX1_until_17 rfl hl (by decide) rfl (fun ls hl => ?_)
    refine lv_aload_n hx hb dX1_until_18 rfl (lv_at hl 1 rfl) ?_
    refine va_get (D := (dC, dI)) (ci := 1) (v := .int sr) (C := RX1) (T := TX1) (N := 14) hx hb hts (fun _ h => List.mem_cons_of_mem _ (List.mem_append_right _ h)) hown hK hP 0 rfl rfl 7 (by decide) (hts (.fieldLink RX1 7 "RetiredTimerModel" "sr" "I") (by decide +kernel)) (fun _ h9 => h9) rfl dX1_until_19 ?_
    refine lv_iconst (v := 2) hx hb dX1_until_22 (by decide) ?_
    refine lv_iand hx hb dX1_until_23 ?_
    refine lv_if_eq (tgt := 62) hx hb dX1_until_24 (by decide) (fun c_24 => ?_) (fun c_24 => ?_)
    · have et : rt_timM sr cng (nI pn) cnt = 1099511627776 := if_pos (Or.inl c_24)
      have hl : lv_has ls 6 [(0, .ref h0), (1, .long (rt_timM sr cng (nI pn) cnt))] := by rw [et]; exact lv_sub hl [1, 0] rfl
      refine lv_aload_n hx hb dX1_until_62 rfl (lv_at hl 0 rfl) ?_
      refine va_get (D := (dC, dI)) (ci := 1) (v := .int (nI en)) (C := RX1) (T := TX1) (N := 14) hx hb hts (fun _ h => List.mem_cons_of_mem _ (List.mem_append_right _ h)) hown hK hP 0 rfl rfl 12 (by decide) (hts (.fieldLink RX1 26 "RetiredTimerModel" "entries" "I") (by decide +kernel)) (fun _ h9 => h9) rfl dX1_until_63 ?_
      refine lv_iconst (v := 1) hx hb dX1_until_66 (by decide) ?_
      refine lv_isub hx hb dX1_until_67 ?_
      refine lv_istore_n (lv' := [(3, .int ((nI en) - 1)), (0, .ref h0), (1, .long (rt_timM sr cng (nI pn) cnt))]) hx hb dX1_until_68 rfl hl (by decide) rfl (fun ls hl => ?_)
      by_cases h4 : sr &&& 4 = 0
      · refine lv_iload_n hx hb dX1_until_69 rfl (lv_at hl 0 rfl) ?_
        refine lv_aload_n hx hb dX1_until_70 rfl (lv_at hl 1 rfl) ?_
        refine va_get (D := (dC, dI)) (ci := 1) (v := .int (nI kn)) (C := RX1) (T := TX1) (N := 14) hx hb hts (fun _ h => List.mem_cons_of_mem _ (List.mem_append_right _ h)) hown hK hP 0 rfl rfl 13 (by decide) (hts (.fieldLink RX1 23 "RetiredTimerModel" "come" "I") (by decide +kernel)) (fun _ h9 => h9) rfl dX1_until_71 ?_
        refine lv_icmp_lt (tgt := 135) hx hb dX1_until_74 (by decide) (fun c_74 => ?_) (fun c_74 => ?_)
        · refine lv_aload_n hx hb dX1_until_135 rfl (lv_at hl 1 rfl) ?_
          refine va_get (D := (dC, dI)) (ci := 1) (v := .int (nI rn)) (C := RX1) (T := TX1) (N := 14) hx hb hts (fun _ h => List.mem_cons_of_mem _ (List.mem_append_right _ h)) hown hK hP 0 rfl rfl 1 (by decide) (hts (.fieldLink RX1 29 "RetiredTimerModel" "retired" "I") (by decide +kernel)) (fun _ h9 => h9) rfl dX1_until_136 ?_
          refine lv_i2l (v := (nI rn).toInt64) hx hb dX1_until_139 rfl ?_
          refine lv_lload_n hx hb dX1_until_140 rfl (lv_at hl 2 rfl) ?_
          refine lv_ladd hx hb dX1_until_141 ?_
          refine lv_ldc2 (v := 2147483647) hx hb hown (hts (.constantLong RX1 73 2147483647) (by decide +kernel)) dX1_until_142 ?_
          refine W.lcmp hx hb dX1_until_145 ?_
          refine lv_if_le (tgt := 153) hx hb dX1_until_146 (by decide) (fun c_146 => ?_) (fun c_146 => ?_)
          · refine lv_lload_n hx hb dX1_until_153 rfl (lv_at hl 2 rfl) ?_
            refine lv_l2i (v := (rt_timM sr cng (nI pn) cnt).toInt32) hx hb dX1_until_154 rfl ?_
            have hz := rt_dueLe hw_6 c_9
            have hu := rt_unM_z (f := f) (g := g) (e := en) (r := rn) (k := kn) (cnt := cnt) (per := nI pn) (cng := cng) (msk := msk) h4
            exact W.iret (v := (rt_timM sr cng (nI pn) cnt).toInt32) hx hb hr (fun t ht hW => ⟨⟨(rt_timM sr cng (nI pn) cnt).toInt32, (), rfl, by rw [rt_un_eq hrl hpl hs hc, if_pos hz, hu, if_neg (rt_geL ((lg_cmp_le _ _).mp c_146))], by rw [ht]; exact hP, va_K.moved hW.alike hK, hD⟩, hS.F ht⟩) hS.2.2 dX1_until_155
          · refine lv_iconst (v := -1) hx hb dX1_until_149 (by decide) ?_
            refine lv_goto (tgt := 155) hx hb dX1_until_150 (by decide) ?_
            have hz := rt_dueLe hw_6 c_9
            have hu := rt_unM_z (f := f) (g := g) (e := en) (r := rn) (k := kn) (cnt := cnt) (per := nI pn) (cng := cng) (msk := msk) h4
            exact W.iret (v := (-1)) hx hb hr (fun t ht hW => ⟨⟨(-1), (), rfl, by rw [rt_un_eq hrl hpl hs hc, if_pos hz, hu, if_pos (rt_nleL (fun h => c_146 ((lg_cmp_le _ _).mpr h)))], by rw [ht]; exact hP, va_K.moved hW.alike hK, hD⟩, hS.F ht⟩) hS.2.2 dX1_until_155
        · refine lv_aload_n hx hb dX1_until_77 rfl (lv_at hl 1 rfl) ?_
          refine va_get (D := (dC, dI)) (ci := 1) (v := .int sr) (C := RX1) (T := TX1) (N := 14) hx hb hts (fun _ h => List.mem_cons_of_mem _ (List.mem_append_right _ h)) hown hK hP 0 rfl rfl 7 (by decide) (hts (.fieldLink RX1 7 "RetiredTimerModel" "sr" "I") (by decide +kernel)) (fun _ h9 => h9) rfl dX1_until_78 ?_
          refine lv_iconst (v := 4) hx hb dX1_until_81 (by decide) ?_
          refine lv_iand hx hb dX1_until_82 ?_
          refine lv_if_eq (tgt := 135) hx hb dX1_until_83 (by decide) (fun c_83 => ?_) (fun c_83 => absurd h4 c_83)
          refine lv_aload_n hx hb dX1_until_135 rfl (lv_at hl 1 rfl) ?_
          refine va_get (D := (dC, dI)) (ci := 1) (v := .int (nI rn)) (C := RX1) (T := TX1) (N := 14) hx hb hts (fun _ h => List.mem_cons_of_mem _ (List.mem_append_right _ h)) hown hK hP 0 rfl rfl 1 (by decide) (hts (.fieldLink RX1 29 "RetiredTimerModel" "retired" "I") (by decide +kernel)) (fun _ h9 => h9) rfl dX1_until_136 ?_
          refine lv_i2l (v := (nI rn).toInt64) hx hb dX1_until_139 rfl ?_
          refine lv_lload_n hx hb dX1_until_140 rfl (lv_at hl 2 rfl) ?_
          refine lv_ladd hx hb dX1_until_141 ?_
          refine lv_ldc2 (v := 2147483647) hx hb hown (hts (.constantLong RX1 73 2147483647) (by decide +kernel)) dX1_until_142 ?_
          refine W.lcmp hx hb dX1_until_145 ?_
          refine lv_if_le (tgt := 153) hx hb dX1_until_146 (by decide) (fun c_146 => ?_) (fun c_146 => ?_)
          · refine lv_lload_n hx hb dX1_until_153 rfl (lv_at hl 2 rfl) ?_
            refine lv_l2i (v := (rt_timM sr cng (nI pn) cnt).toInt32) hx hb dX1_until_154 rfl ?_
            have hz := rt_dueLe hw_6 c_9
            have hu := rt_unM_z (f := f) (g := g) (e := en) (r := rn) (k := kn) (cnt := cnt) (per := nI pn) (cng := cng) (msk := msk) h4
            exact W.iret (v := (rt_timM sr cng (nI pn) cnt).toInt32) hx hb hr (fun t ht hW => ⟨⟨(rt_timM sr cng (nI pn) cnt).toInt32, (), rfl, by rw [rt_un_eq hrl hpl hs hc, if_pos hz, hu, if_neg (rt_geL ((lg_cmp_le _ _).mp c_146))], by rw [ht]; exact hP, va_K.moved hW.alike hK, hD⟩, hS.F ht⟩) hS.2.2 dX1_until_155
          · refine lv_iconst (v := -1) hx hb dX1_until_149 (by decide) ?_
            refine lv_goto (tgt := 155) hx hb dX1_until_150 (by decide) ?_
            have hz := rt_dueLe hw_6 c_9
            have hu := rt_unM_z (f := f) (g := g) (e := en) (r := rn) (k := kn) (cnt := cnt) (per := nI pn) (cng := cng) (msk := msk) h4
            exact W.iret (v := (-1)) hx hb hr (fun t ht hW => ⟨⟨(-1), (), rfl, by rw [rt_un_eq hrl hpl hs hc, if_pos hz, hu, if_pos (rt_nleL (fun h => c_146 ((lg_cmp_le _ _).mpr h)))], by rw [ht]; exact hP, va_K.moved hW.alike hK, hD⟩, hS.F ht⟩) hS.2.2 dX1_until_155
      · refine lp_M_until (f := f) (g := g) (msk := msk) (sr := sr) (en := en) (rn := rn) (kn := kn) hx hb hts hown hK hP h32 h4 (fun ls hl => ?_) (en - kn) (rt_timM sr cng (nI pn) cnt) (by have := hc.1; omega) rfl ls (by rw [show kn + (en - kn) = en by have := hc.1; omega]; exact lv_sub hl [1, 2, 0] rfl)
        refine lv_aload_n hx hb dX1_until_135 rfl (lv_at hl 0 rfl) ?_
        refine va_get (D := (dC, dI)) (ci := 1) (v := .int (nI rn)) (C := RX1) (T := TX1) (N := 14) hx hb hts (fun _ h => List.mem_cons_of_mem _ (List.mem_append_right _ h)) hown hK hP 0 rfl rfl 1 (by decide) (hts (.fieldLink RX1 29 "RetiredTimerModel" "retired" "I") (by decide +kernel)) (fun _ h9 => h9) rfl dX1_until_136 ?_
        refine lv_i2l (v := (nI rn).toInt64) hx hb dX1_until_139 rfl ?_
        refine lv_lload_n hx hb dX1_until_140 rfl (lv_at hl 1 rfl) ?_
        refine lv_ladd hx hb dX1_until_141 ?_
        refine lv_ldc2 (v := 2147483647) hx hb hown (hts (.constantLong RX1 73 2147483647) (by decide +kernel)) dX1_until_142 ?_
        refine W.lcmp hx hb dX1_until_145 ?_
        refine lv_if_le (tgt := 153) hx hb dX1_until_146 (by decide) (fun c_146 => ?_) (fun c_146 => ?_)
        · refine lv_lload_n hx hb dX1_until_153 rfl (lv_at hl 1 rfl) ?_
          refine lv_l2i (v := (rt_ml f g (nI rn) msk kn (en - kn) (rt_timM sr cng (nI pn) cnt)).toInt32) hx hb dX1_until_154 rfl ?_
          have hz := rt_dueLe hw_6 c_9
          have hu := rt_unM_n (f := f) (g := g) (e := en) (r := rn) (k := kn) (cnt := cnt) (per := nI pn) (cng := cng) (msk := msk) h4
          exact W.iret (v := (rt_ml f g (nI rn) msk kn (en - kn) (rt_timM sr cng (nI pn) cnt)).toInt32) hx hb hr (fun t ht hW => ⟨⟨(rt_ml f g (nI rn) msk kn (en - kn) (rt_timM sr cng (nI pn) cnt)).toInt32, (), rfl, by rw [rt_un_eq hrl hpl hs hc, if_pos hz, hu, if_neg (rt_geL ((lg_cmp_le _ _).mp c_146))], by rw [ht]; exact hP, va_K.moved hW.alike hK, hD⟩, hS.F ht⟩) hS.2.2 dX1_until_155
        · refine lv_iconst (v := -1) hx hb dX1_until_149 (by decide) ?_
          refine lv_goto (tgt := 155) hx hb dX1_until_150 (by decide) ?_
          have hz := rt_dueLe hw_6 c_9
          have hu := rt_unM_n (f := f) (g := g) (e := en) (r := rn) (k := kn) (cnt := cnt) (per := nI pn) (cng := cng) (msk := msk) h4
          exact W.iret (v := (-1)) hx hb hr (fun t ht hW => ⟨⟨(-1), (), rfl, by rw [rt_un_eq hrl hpl hs hc, if_pos hz, hu, if_pos (rt_nleL (fun h => c_146 ((lg_cmp_le _ _).mpr h)))], by rw [ht]; exact hP, va_K.moved hW.alike hK, hD⟩, hS.F ht⟩) hS.2.2 dX1_until_155
    · refine lv_aload_n hx hb dX1_until_27 rfl (lv_at hl 1 rfl) ?_
      refine va_get (D := (dC, dI)) (ci := 1) (v := .int cng) (C := RX1) (T := TX1) (N := 14) hx hb hts (fun _ h => List.mem_cons_of_mem _ (List.mem_append_right _ h)) hown hK hP 0 rfl rfl 4 (by decide) (hts (.fieldLink RX1 46 "RetiredTimerModel" "counting" "Z") (by decide +kernel)) (fun _ h9 => h9) rfl dX1_until_28 ?_
      refine lv_if_eq (tgt := 62) hx hb dX1_until_31 (by decide) (fun c_31 => ?_) (fun c_31 => ?_)
      · have et : rt_timM sr cng (nI pn) cnt = 1099511627776 := if_pos (Or.inr c_31)
        have hl : lv_has ls 6 [(0, .ref h0), (1, .long (rt_timM sr cng (nI pn) cnt))] := by rw [et]; exact lv_sub hl [1, 0] rfl
        refine lv_aload_n hx hb dX1_until_62 rfl (lv_at hl 0 rfl) ?_
        refine va_get (D := (dC, dI)) (ci := 1) (v := .int (nI en)) (C := RX1) (T := TX1) (N := 14) hx hb hts (fun _ h => List.mem_cons_of_mem _ (List.mem_append_right _ h)) hown hK hP 0 rfl rfl 12 (by decide) (hts (.fieldLink RX1 26 "RetiredTimerModel" "entries" "I") (by decide +kernel)) (fun _ h9 => h9) rfl dX1_until_63 ?_
        refine lv_iconst (v := 1) hx hb dX1_until_66 (by decide) ?_
        refine lv_isub hx hb dX1_until_67 ?_
        refine lv_istore_n (lv' := [(3, .int ((nI en) - 1)), (0, .ref h0), (1, .long (rt_timM sr cng (nI pn) cnt))]) hx hb dX1_until_68 rfl hl (by decide) rfl (fun ls hl => ?_)
        by_cases h4 : sr &&& 4 = 0
        · refine lv_iload_n hx hb dX1_until_69 rfl (lv_at hl 0 rfl) ?_
          refine lv_aload_n hx hb dX1_until_70 rfl (lv_at hl 1 rfl) ?_
          refine va_get (D := (dC, dI)) (ci := 1) (v := .int (nI kn)) (C := RX1) (T := TX1) (N := 14) hx hb hts (fun _ h => List.mem_cons_of_mem _ (List.mem_append_right _ h)) hown hK hP 0 rfl rfl 13 (by decide) (hts (.fieldLink RX1 23 "RetiredTimerModel" "come" "I") (by decide +kernel)) (fun _ h9 => h9) rfl dX1_until_71 ?_
          refine lv_icmp_lt (tgt := 135) hx hb dX1_until_74 (by decide) (fun c_74 => ?_) (fun c_74 => ?_)
          · refine lv_aload_n hx hb dX1_until_135 rfl (lv_at hl 1 rfl) ?_
            refine va_get (D := (dC, dI)) (ci := 1) (v := .int (nI rn)) (C := RX1) (T := TX1) (N := 14) hx hb hts (fun _ h => List.mem_cons_of_mem _ (List.mem_append_right _ h)) hown hK hP 0 rfl rfl 1 (by decide) (hts (.fieldLink RX1 29 "RetiredTimerModel" "retired" "I") (by decide +kernel)) (fun _ h9 => h9) rfl dX1_until_136 ?_
            refine lv_i2l (v := (nI rn).toInt64) hx hb dX1_until_139 rfl ?_
            refine lv_lload_n hx hb dX1_until_140 rfl (lv_at hl 2 rfl) ?_
            refine lv_ladd hx hb dX1_until_141 ?_
            refine lv_ldc2 (v := 2147483647) hx hb hown (hts (.constantLong RX1 73 2147483647) (by decide +kernel)) dX1_until_142 ?_
            refine W.lcmp hx hb dX1_until_145 ?_
            refine lv_if_le (tgt := 153) hx hb dX1_until_146 (by decide) (fun c_146 => ?_) (fun c_146 => ?_)
            · refine lv_lload_n hx hb dX1_until_153 rfl (lv_at hl 2 rfl) ?_
              refine lv_l2i (v := (rt_timM sr cng (nI pn) cnt).toInt32) hx hb dX1_until_154 rfl ?_
              have hz := rt_dueLe hw_6 c_9
              have hu := rt_unM_z (f := f) (g := g) (e := en) (r := rn) (k := kn) (cnt := cnt) (per := nI pn) (cng := cng) (msk := msk) h4
              exact W.iret (v := (rt_timM sr cng (nI pn) cnt).toInt32) hx hb hr (fun t ht hW => ⟨⟨(rt_timM sr cng (nI pn) cnt).toInt32, (), rfl, by rw [rt_un_eq hrl hpl hs hc, if_pos hz, hu, if_neg (rt_geL ((lg_cmp_le _ _).mp c_146))], by rw [ht]; exact hP, va_K.moved hW.alike hK, hD⟩, hS.F ht⟩) hS.2.2 dX1_until_155
            · refine lv_iconst (v := -1) hx hb dX1_until_149 (by decide) ?_
              refine lv_goto (tgt := 155) hx hb dX1_until_150 (by decide) ?_
              have hz := rt_dueLe hw_6 c_9
              have hu := rt_unM_z (f := f) (g := g) (e := en) (r := rn) (k := kn) (cnt := cnt) (per := nI pn) (cng := cng) (msk := msk) h4
              exact W.iret (v := (-1)) hx hb hr (fun t ht hW => ⟨⟨(-1), (), rfl, by rw [rt_un_eq hrl hpl hs hc, if_pos hz, hu, if_pos (rt_nleL (fun h => c_146 ((lg_cmp_le _ _).mpr h)))], by rw [ht]; exact hP, va_K.moved hW.alike hK, hD⟩, hS.F ht⟩) hS.2.2 dX1_until_155
          · refine lv_aload_n hx hb dX1_until_77 rfl (lv_at hl 1 rfl) ?_
            refine va_get (D := (dC, dI)) (ci := 1) (v := .int sr) (C := RX1) (T := TX1) (N := 14) hx hb hts (fun _ h => List.mem_cons_of_mem _ (List.mem_append_right _ h)) hown hK hP 0 rfl rfl 7 (by decide) (hts (.fieldLink RX1 7 "RetiredTimerModel" "sr" "I") (by decide +kernel)) (fun _ h9 => h9) rfl dX1_until_78 ?_
            refine lv_iconst (v := 4) hx hb dX1_until_81 (by decide) ?_
            refine lv_iand hx hb dX1_until_82 ?_
            refine lv_if_eq (tgt := 135) hx hb dX1_until_83 (by decide) (fun c_83 => ?_) (fun c_83 => absurd h4 c_83)
            refine lv_aload_n hx hb dX1_until_135 rfl (lv_at hl 1 rfl) ?_
            refine va_get (D := (dC, dI)) (ci := 1) (v := .int (nI rn)) (C := RX1) (T := TX1) (N := 14) hx hb hts (fun _ h => List.mem_cons_of_mem _ (List.mem_append_right _ h)) hown hK hP 0 rfl rfl 1 (by decide) (hts (.fieldLink RX1 29 "RetiredTimerModel" "retired" "I") (by decide +kernel)) (fun _ h9 => h9) rfl dX1_until_136 ?_
            refine lv_i2l (v := (nI rn).toInt64) hx hb dX1_until_139 rfl ?_
            refine lv_lload_n hx hb dX1_until_140 rfl (lv_at hl 2 rfl) ?_
            refine lv_ladd hx hb dX1_until_141 ?_
            refine lv_ldc2 (v := 2147483647) hx hb hown (hts (.constantLong RX1 73 2147483647) (by decide +kernel)) dX1_until_142 ?_
            refine W.lcmp hx hb dX1_until_145 ?_
            refine lv_if_le (tgt := 153) hx hb dX1_until_146 (by decide) (fun c_146 => ?_) (fun c_146 => ?_)
            · refine lv_lload_n hx hb dX1_until_153 rfl (lv_at hl 2 rfl) ?_
              refine lv_l2i (v := (rt_timM sr cng (nI pn) cnt).toInt32) hx hb dX1_until_154 rfl ?_
              have hz := rt_dueLe hw_6 c_9
              have hu := rt_unM_z (f := f) (g := g) (e := en) (r := rn) (k := kn) (cnt := cnt) (per := nI pn) (cng := cng) (msk := msk) h4
              exact W.iret (v := (rt_timM sr cng (nI pn) cnt).toInt32) hx hb hr (fun t ht hW => ⟨⟨(rt_timM sr cng (nI pn) cnt).toInt32, (), rfl, by rw [rt_un_eq hrl hpl hs hc, if_pos hz, hu, if_neg (rt_geL ((lg_cmp_le _ _).mp c_146))], by rw [ht]; exact hP, va_K.moved hW.alike hK, hD⟩, hS.F ht⟩) hS.2.2 dX1_until_155
            · refine lv_iconst (v := -1) hx hb dX1_until_149 (by decide) ?_
              refine lv_goto (tgt := 155) hx hb dX1_until_150 (by decide) ?_
              have hz := rt_dueLe hw_6 c_9
              have hu := rt_unM_z (f := f) (g := g) (e := en) (r := rn) (k := kn) (cnt := cnt) (per := nI pn) (cng := cng) (msk := msk) h4
              exact W.iret (v := (-1)) hx hb hr (fun t ht hW => ⟨⟨(-1), (), rfl, by rw [rt_un_eq hrl hpl hs hc, if_pos hz, hu, if_pos (rt_nleL (fun h => c_146 ((lg_cmp_le _ _).mpr h)))], by rw [ht]; exact hP, va_K.moved hW.alike hK, hD⟩, hS.F ht⟩) hS.2.2 dX1_until_155
        · refine lp_M_until (f := f) (g := g) (msk := msk) (sr := sr) (en := en) (rn := rn) (kn := kn) hx hb hts hown hK hP h32 h4 (fun ls hl => ?_) (en - kn) (rt_timM sr cng (nI pn) cnt) (by have := hc.1; omega) rfl ls (by rw [show kn + (en - kn) = en by have := hc.1; omega]; exact lv_sub hl [1, 2, 0] rfl)
          refine lv_aload_n hx hb dX1_until_135 rfl (lv_at hl 0 rfl) ?_
          refine va_get (D := (dC, dI)) (ci := 1) (v := .int (nI rn)) (C := RX1) (T := TX1) (N := 14) hx hb hts (fun _ h => List.mem_cons_of_mem _ (List.mem_append_right _ h)) hown hK hP 0 rfl rfl 1 (by decide) (hts (.fieldLink RX1 29 "RetiredTimerModel" "retired" "I") (by decide +kernel)) (fun _ h9 => h9) rfl dX1_until_136 ?_
          refine lv_i2l (v := (nI rn).toInt64) hx hb dX1_until_139 rfl ?_
          refine lv_lload_n hx hb dX1_until_140 rfl (lv_at hl 1 rfl) ?_
          refine lv_ladd hx hb dX1_until_141 ?_
          refine lv_ldc2 (v := 2147483647) hx hb hown (hts (.constantLong RX1 73 2147483647) (by decide +kernel)) dX1_until_142 ?_
          refine W.lcmp hx hb dX1_until_145 ?_
          refine lv_if_le (tgt := 153) hx hb dX1_until_146 (by decide) (fun c_146 => ?_) (fun c_146 => ?_)
          · refine lv_lload_n hx hb dX1_until_153 rfl (lv_at hl 1 rfl) ?_
            refine lv_l2i (v := (rt_ml f g (nI rn) msk kn (en - kn) (rt_timM sr cng (nI pn) cnt)).toInt32) hx hb dX1_until_154 rfl ?_
            have hz := rt_dueLe hw_6 c_9
            have hu := rt_unM_n (f := f) (g := g) (e := en) (r := rn) (k := kn) (cnt := cnt) (per := nI pn) (cng := cng) (msk := msk) h4
            exact W.iret (v := (rt_ml f g (nI rn) msk kn (en - kn) (rt_timM sr cng (nI pn) cnt)).toInt32) hx hb hr (fun t ht hW => ⟨⟨(rt_ml f g (nI rn) msk kn (en - kn) (rt_timM sr cng (nI pn) cnt)).toInt32, (), rfl, by rw [rt_un_eq hrl hpl hs hc, if_pos hz, hu, if_neg (rt_geL ((lg_cmp_le _ _).mp c_146))], by rw [ht]; exact hP, va_K.moved hW.alike hK, hD⟩, hS.F ht⟩) hS.2.2 dX1_until_155
          · refine lv_iconst (v := -1) hx hb dX1_until_149 (by decide) ?_
            refine lv_goto (tgt := 155) hx hb dX1_until_150 (by decide) ?_
            have hz := rt_dueLe hw_6 c_9
            have hu := rt_unM_n (f := f) (g := g) (e := en) (r := rn) (k := kn) (cnt := cnt) (per := nI pn) (cng := cng) (msk := msk) h4
            exact W.iret (v := (-1)) hx hb hr (fun t ht hW => ⟨⟨(-1), (), rfl, by rw [rt_un_eq hrl hpl hs hc, if_pos hz, hu, if_pos (rt_nleL (fun h => c_146 ((lg_cmp_le _ _).mpr h)))], by rw [ht]; exact hP, va_K.moved hW.alike hK, hD⟩, hS.F ht⟩) hS.2.2 dX1_until_155
      · refine lv_aload_n hx hb dX1_until_34 rfl (lv_at hl 1 rfl) ?_
        refine va_get (D := (dC, dI)) (ci := 1) (v := .int (nI pn)) (C := RX1) (T := TX1) (N := 14) hx hb hts (fun _ h => List.mem_cons_of_mem _ (List.mem_append_right _ h)) hown hK hP 0 rfl rfl 3 (by decide) (hts (.fieldLink RX1 52 "RetiredTimerModel" "period" "I") (by decide +kernel)) (fun _ h9 => h9) rfl dX1_until_35 ?_
        refine lv_i2l (v := (nI pn).toInt64) hx hb dX1_until_38 rfl ?_
        refine lv_aload_n hx hb dX1_until_39 rfl (lv_at hl 1 rfl) ?_
        refine va_get (D := (dC, dI)) (ci := 1) (v := .int cnt) (C := RX1) (T := TX1) (N := 14) hx hb hts (fun _ h => List.mem_cons_of_mem _ (List.mem_append_right _ h)) hown hK hP 0 rfl rfl 2 (by decide) (hts (.fieldLink RX1 49 "RetiredTimerModel" "count" "I") (by decide +kernel)) (fun _ h9 => h9) rfl dX1_until_40 ?_
        refine lv_i2l (v := cnt.toInt64) hx hb dX1_until_43 rfl ?_
        refine lv_lsub hx hb dX1_until_44 ?_
        refine lv_lstore_n (lv' := [(3, .long (((nI pn).toInt64) - cnt.toInt64)), (1, .long 1099511627776), (0, .ref h0)]) hx hb dX1_until_45 rfl hl (by decide) rfl (fun ls hl => ?_)
        refine lv_lload_n hx hb dX1_until_46 rfl (lv_at hl 0 rfl) ?_
        refine lv_lconst (v := 0) hx hb dX1_until_47 (by decide) ?_
        refine W.lcmp hx hb dX1_until_48 ?_
        refine lv_if_le (tgt := 56) hx hb dX1_until_49 (by decide) (fun c_49 => ?_) (fun c_49 => ?_)
        · refine lv_lload_n hx hb dX1_until_56 rfl (lv_at hl 0 rfl) ?_
          refine lv_ldc2 (v := 4294967296) hx hb hown (hts (.constantLong RX1 71 4294967296) (by decide +kernel)) dX1_until_57 ?_
          refine lv_ladd hx hb dX1_until_60 ?_
          refine lv_lstore_n (lv' := [(1, .long ((((nI pn).toInt64) - cnt.toInt64) + 4294967296)), (3, .long (((nI pn).toInt64) - cnt.toInt64)), (0, .ref h0)]) hx hb dX1_until_61 rfl hl (by decide) rfl (fun ls hl => ?_)
          have et : rt_timM sr cng (nI pn) cnt = (((nI pn).toInt64) - cnt.toInt64) + 4294967296 := (if_neg (fun h => h.elim c_24 c_31)).trans (if_neg (fun h => rt_geL ((lg_cmp_le _ _).mp c_49) h))
          have hl : lv_has ls 6 [(0, .ref h0), (1, .long (rt_timM sr cng (nI pn) cnt))] := by rw [et]; exact lv_sub hl [2, 0] rfl
          refine lv_aload_n hx hb dX1_until_62 rfl (lv_at hl 0 rfl) ?_
          refine va_get (D := (dC, dI)) (ci := 1) (v := .int (nI en)) (C := RX1) (T := TX1) (N := 14) hx hb hts (fun _ h => List.mem_cons_of_mem _ (List.mem_append_right _ h)) hown hK hP 0 rfl rfl 12 (by decide) (hts (.fieldLink RX1 26 "RetiredTimerModel" "entries" "I") (by decide +kernel)) (fun _ h9 => h9) rfl dX1_until_63 ?_
          refine lv_iconst (v := 1) hx hb dX1_until_66 (by decide) ?_
          refine lv_isub hx hb dX1_until_67 ?_
          refine lv_istore_n (lv' := [(3, .int ((nI en) - 1)), (0, .ref h0), (1, .long (rt_timM sr cng (nI pn) cnt))]) hx hb dX1_until_68 rfl hl (by decide) rfl (fun ls hl => ?_)
          by_cases h4 : sr &&& 4 = 0
          · refine lv_iload_n hx hb dX1_until_69 rfl (lv_at hl 0 rfl) ?_
            refine lv_aload_n hx hb dX1_until_70 rfl (lv_at hl 1 rfl) ?_
            refine va_get (D := (dC, dI)) (ci := 1) (v := .int (nI kn)) (C := RX1) (T := TX1) (N := 14) hx hb hts (fun _ h => List.mem_cons_of_mem _ (List.mem_append_right _ h)) hown hK hP 0 rfl rfl 13 (by decide) (hts (.fieldLink RX1 23 "RetiredTimerModel" "come" "I") (by decide +kernel)) (fun _ h9 => h9) rfl dX1_until_71 ?_
            refine lv_icmp_lt (tgt := 135) hx hb dX1_until_74 (by decide) (fun c_74 => ?_) (fun c_74 => ?_)
            · refine lv_aload_n hx hb dX1_until_135 rfl (lv_at hl 1 rfl) ?_
              refine va_get (D := (dC, dI)) (ci := 1) (v := .int (nI rn)) (C := RX1) (T := TX1) (N := 14) hx hb hts (fun _ h => List.mem_cons_of_mem _ (List.mem_append_right _ h)) hown hK hP 0 rfl rfl 1 (by decide) (hts (.fieldLink RX1 29 "RetiredTimerModel" "retired" "I") (by decide +kernel)) (fun _ h9 => h9) rfl dX1_until_136 ?_
              refine lv_i2l (v := (nI rn).toInt64) hx hb dX1_until_139 rfl ?_
              refine lv_lload_n hx hb dX1_until_140 rfl (lv_at hl 2 rfl) ?_
              refine lv_ladd hx hb dX1_until_141 ?_
              refine lv_ldc2 (v := 2147483647) hx hb hown (hts (.constantLong RX1 73 2147483647) (by decide +kernel)) dX1_until_142 ?_
              refine W.lcmp hx hb dX1_until_145 ?_
              refine lv_if_le (tgt := 153) hx hb dX1_until_146 (by decide) (fun c_146 => ?_) (fun c_146 => ?_)
              · refine lv_lload_n hx hb dX1_until_153 rfl (lv_at hl 2 rfl) ?_
                refine lv_l2i (v := (rt_timM sr cng (nI pn) cnt).toInt32) hx hb dX1_until_154 rfl ?_
                have hz := rt_dueLe hw_6 c_9
                have hu := rt_unM_z (f := f) (g := g) (e := en) (r := rn) (k := kn) (cnt := cnt) (per := nI pn) (cng := cng) (msk := msk) h4
                exact W.iret (v := (rt_timM sr cng (nI pn) cnt).toInt32) hx hb hr (fun t ht hW => ⟨⟨(rt_timM sr cng (nI pn) cnt).toInt32, (), rfl, by rw [rt_un_eq hrl hpl hs hc, if_pos hz, hu, if_neg (rt_geL ((lg_cmp_le _ _).mp c_146))], by rw [ht]; exact hP, va_K.moved hW.alike hK, hD⟩, hS.F ht⟩) hS.2.2 dX1_until_155
              · refine lv_iconst (v := -1) hx hb dX1_until_149 (by decide) ?_
                refine lv_goto (tgt := 155) hx hb dX1_until_150 (by decide) ?_
                have hz := rt_dueLe hw_6 c_9
                have hu := rt_unM_z (f := f) (g := g) (e := en) (r := rn) (k := kn) (cnt := cnt) (per := nI pn) (cng := cng) (msk := msk) h4
                exact W.iret (v := (-1)) hx hb hr (fun t ht hW => ⟨⟨(-1), (), rfl, by rw [rt_un_eq hrl hpl hs hc, if_pos hz, hu, if_pos (rt_nleL (fun h => c_146 ((lg_cmp_le _ _).mpr h)))], by rw [ht]; exact hP, va_K.moved hW.alike hK, hD⟩, hS.F ht⟩) hS.2.2 dX1_until_155
            · refine lv_aload_n hx hb dX1_until_77 rfl (lv_at hl 1 rfl) ?_
              refine va_get (D := (dC, dI)) (ci := 1) (v := .int sr) (C := RX1) (T := TX1) (N := 14) hx hb hts (fun _ h => List.mem_cons_of_mem _ (List.mem_append_right _ h)) hown hK hP 0 rfl rfl 7 (by decide) (hts (.fieldLink RX1 7 "RetiredTimerModel" "sr" "I") (by decide +kernel)) (fun _ h9 => h9) rfl dX1_until_78 ?_
              refine lv_iconst (v := 4) hx hb dX1_until_81 (by decide) ?_
              refine lv_iand hx hb dX1_until_82 ?_
              refine lv_if_eq (tgt := 135) hx hb dX1_until_83 (by decide) (fun c_83 => ?_) (fun c_83 => absurd h4 c_83)
              refine lv_aload_n hx hb dX1_until_135 rfl (lv_at hl 1 rfl) ?_
              refine va_get (D := (dC, dI)) (ci := 1) (v := .int (nI rn)) (C := RX1) (T := TX1) (N := 14) hx hb hts (fun _ h => List.mem_cons_of_mem _ (List.mem_append_right _ h)) hown hK hP 0 rfl rfl 1 (by decide) (hts (.fieldLink RX1 29 "RetiredTimerModel" "retired" "I") (by decide +kernel)) (fun _ h9 => h9) rfl dX1_until_136 ?_
              refine lv_i2l (v := (nI rn).toInt64) hx hb dX1_until_139 rfl ?_
              refine lv_lload_n hx hb dX1_until_140 rfl (lv_at hl 2 rfl) ?_
              refine lv_ladd hx hb dX1_until_141 ?_
              refine lv_ldc2 (v := 2147483647) hx hb hown (hts (.constantLong RX1 73 2147483647) (by decide +kernel)) dX1_until_142 ?_
              refine W.lcmp hx hb dX1_until_145 ?_
              refine lv_if_le (tgt := 153) hx hb dX1_until_146 (by decide) (fun c_146 => ?_) (fun c_146 => ?_)
              · refine lv_lload_n hx hb dX1_until_153 rfl (lv_at hl 2 rfl) ?_
                refine lv_l2i (v := (rt_timM sr cng (nI pn) cnt).toInt32) hx hb dX1_until_154 rfl ?_
                have hz := rt_dueLe hw_6 c_9
                have hu := rt_unM_z (f := f) (g := g) (e := en) (r := rn) (k := kn) (cnt := cnt) (per := nI pn) (cng := cng) (msk := msk) h4
                exact W.iret (v := (rt_timM sr cng (nI pn) cnt).toInt32) hx hb hr (fun t ht hW => ⟨⟨(rt_timM sr cng (nI pn) cnt).toInt32, (), rfl, by rw [rt_un_eq hrl hpl hs hc, if_pos hz, hu, if_neg (rt_geL ((lg_cmp_le _ _).mp c_146))], by rw [ht]; exact hP, va_K.moved hW.alike hK, hD⟩, hS.F ht⟩) hS.2.2 dX1_until_155
              · refine lv_iconst (v := -1) hx hb dX1_until_149 (by decide) ?_
                refine lv_goto (tgt := 155) hx hb dX1_until_150 (by decide) ?_
                have hz := rt_dueLe hw_6 c_9
                have hu := rt_unM_z (f := f) (g := g) (e := en) (r := rn) (k := kn) (cnt := cnt) (per := nI pn) (cng := cng) (msk := msk) h4
                exact W.iret (v := (-1)) hx hb hr (fun t ht hW => ⟨⟨(-1), (), rfl, by rw [rt_un_eq hrl hpl hs hc, if_pos hz, hu, if_pos (rt_nleL (fun h => c_146 ((lg_cmp_le _ _).mpr h)))], by rw [ht]; exact hP, va_K.moved hW.alike hK, hD⟩, hS.F ht⟩) hS.2.2 dX1_until_155
          · refine lp_M_until (f := f) (g := g) (msk := msk) (sr := sr) (en := en) (rn := rn) (kn := kn) hx hb hts hown hK hP h32 h4 (fun ls hl => ?_) (en - kn) (rt_timM sr cng (nI pn) cnt) (by have := hc.1; omega) rfl ls (by rw [show kn + (en - kn) = en by have := hc.1; omega]; exact lv_sub hl [1, 2, 0] rfl)
            refine lv_aload_n hx hb dX1_until_135 rfl (lv_at hl 0 rfl) ?_
            refine va_get (D := (dC, dI)) (ci := 1) (v := .int (nI rn)) (C := RX1) (T := TX1) (N := 14) hx hb hts (fun _ h => List.mem_cons_of_mem _ (List.mem_append_right _ h)) hown hK hP 0 rfl rfl 1 (by decide) (hts (.fieldLink RX1 29 "RetiredTimerModel" "retired" "I") (by decide +kernel)) (fun _ h9 => h9) rfl dX1_until_136 ?_
            refine lv_i2l (v := (nI rn).toInt64) hx hb dX1_until_139 rfl ?_
            refine lv_lload_n hx hb dX1_until_140 rfl (lv_at hl 1 rfl) ?_
            refine lv_ladd hx hb dX1_until_141 ?_
            refine lv_ldc2 (v := 2147483647) hx hb hown (hts (.constantLong RX1 73 2147483647) (by decide +kernel)) dX1_until_142 ?_
            refine W.lcmp hx hb dX1_until_145 ?_
            refine lv_if_le (tgt := 153) hx hb dX1_until_146 (by decide) (fun c_146 => ?_) (fun c_146 => ?_)
            · refine lv_lload_n hx hb dX1_until_153 rfl (lv_at hl 1 rfl) ?_
              refine lv_l2i (v := (rt_ml f g (nI rn) msk kn (en - kn) (rt_timM sr cng (nI pn) cnt)).toInt32) hx hb dX1_until_154 rfl ?_
              have hz := rt_dueLe hw_6 c_9
              have hu := rt_unM_n (f := f) (g := g) (e := en) (r := rn) (k := kn) (cnt := cnt) (per := nI pn) (cng := cng) (msk := msk) h4
              exact W.iret (v := (rt_ml f g (nI rn) msk kn (en - kn) (rt_timM sr cng (nI pn) cnt)).toInt32) hx hb hr (fun t ht hW => ⟨⟨(rt_ml f g (nI rn) msk kn (en - kn) (rt_timM sr cng (nI pn) cnt)).toInt32, (), rfl, by rw [rt_un_eq hrl hpl hs hc, if_pos hz, hu, if_neg (rt_geL ((lg_cmp_le _ _).mp c_146))], by rw [ht]; exact hP, va_K.moved hW.alike hK, hD⟩, hS.F ht⟩) hS.2.2 dX1_until_155
            · refine lv_iconst (v := -1) hx hb dX1_until_149 (by decide) ?_
              refine lv_goto (tgt := 155) hx hb dX1_until_150 (by decide) ?_
              have hz := rt_dueLe hw_6 c_9
              have hu := rt_unM_n (f := f) (g := g) (e := en) (r := rn) (k := kn) (cnt := cnt) (per := nI pn) (cng := cng) (msk := msk) h4
              exact W.iret (v := (-1)) hx hb hr (fun t ht hW => ⟨⟨(-1), (), rfl, by rw [rt_un_eq hrl hpl hs hc, if_pos hz, hu, if_pos (rt_nleL (fun h => c_146 ((lg_cmp_le _ _).mpr h)))], by rw [ht]; exact hP, va_K.moved hW.alike hK, hD⟩, hS.F ht⟩) hS.2.2 dX1_until_155
        · refine lv_lload_n hx hb dX1_until_52 rfl (lv_at hl 0 rfl) ?_
          refine lv_goto (tgt := 61) hx hb dX1_until_53 (by decide) ?_
          refine lv_lstore_n (lv' := [(1, .long (((nI pn).toInt64) - cnt.toInt64)), (3, .long (((nI pn).toInt64) - cnt.toInt64)), (0, .ref h0)]) hx hb dX1_until_61 rfl hl (by decide) rfl (fun ls hl => ?_)
          have et : rt_timM sr cng (nI pn) cnt = ((nI pn).toInt64) - cnt.toInt64 := (if_neg (fun h => h.elim c_24 c_31)).trans (if_pos (rt_nleL (fun h => c_49 ((lg_cmp_le _ _).mpr h))))
          have hl : lv_has ls 6 [(0, .ref h0), (1, .long (rt_timM sr cng (nI pn) cnt))] := by rw [et]; exact lv_sub hl [2, 0] rfl
          refine lv_aload_n hx hb dX1_until_62 rfl (lv_at hl 0 rfl) ?_
          refine va_get (D := (dC, dI)) (ci := 1) (v := .int (nI en)) (C := RX1) (T := TX1) (N := 14) hx hb hts (fun _ h => List.mem_cons_of_mem _ (List.mem_append_right _ h)) hown hK hP 0 rfl rfl 12 (by decide) (hts (.fieldLink RX1 26 "RetiredTimerModel" "entries" "I") (by decide +kernel)) (fun _ h9 => h9) rfl dX1_until_63 ?_
          refine lv_iconst (v := 1) hx hb dX1_until_66 (by decide) ?_
          refine lv_isub hx hb dX1_until_67 ?_
          refine lv_istore_n (lv' := [(3, .int ((nI en) - 1)), (0, .ref h0), (1, .long (rt_timM sr cng (nI pn) cnt))]) hx hb dX1_until_68 rfl hl (by decide) rfl (fun ls hl => ?_)
          by_cases h4 : sr &&& 4 = 0
          · refine lv_iload_n hx hb dX1_until_69 rfl (lv_at hl 0 rfl) ?_
            refine lv_aload_n hx hb dX1_until_70 rfl (lv_at hl 1 rfl) ?_
            refine va_get (D := (dC, dI)) (ci := 1) (v := .int (nI kn)) (C := RX1) (T := TX1) (N := 14) hx hb hts (fun _ h => List.mem_cons_of_mem _ (List.mem_append_right _ h)) hown hK hP 0 rfl rfl 13 (by decide) (hts (.fieldLink RX1 23 "RetiredTimerModel" "come" "I") (by decide +kernel)) (fun _ h9 => h9) rfl dX1_until_71 ?_
            refine lv_icmp_lt (tgt := 135) hx hb dX1_until_74 (by decide) (fun c_74 => ?_) (fun c_74 => ?_)
            · refine lv_aload_n hx hb dX1_until_135 rfl (lv_at hl 1 rfl) ?_
              refine va_get (D := (dC, dI)) (ci := 1) (v := .int (nI rn)) (C := RX1) (T := TX1) (N := 14) hx hb hts (fun _ h => List.mem_cons_of_mem _ (List.mem_append_right _ h)) hown hK hP 0 rfl rfl 1 (by decide) (hts (.fieldLink RX1 29 "RetiredTimerModel" "retired" "I") (by decide +kernel)) (fun _ h9 => h9) rfl dX1_until_136 ?_
              refine lv_i2l (v := (nI rn).toInt64) hx hb dX1_until_139 rfl ?_
              refine lv_lload_n hx hb dX1_until_140 rfl (lv_at hl 2 rfl) ?_
              refine lv_ladd hx hb dX1_until_141 ?_
              refine lv_ldc2 (v := 2147483647) hx hb hown (hts (.constantLong RX1 73 2147483647) (by decide +kernel)) dX1_until_142 ?_
              refine W.lcmp hx hb dX1_until_145 ?_
              refine lv_if_le (tgt := 153) hx hb dX1_until_146 (by decide) (fun c_146 => ?_) (fun c_146 => ?_)
              · refine lv_lload_n hx hb dX1_until_153 rfl (lv_at hl 2 rfl) ?_
                refine lv_l2i (v := (rt_timM sr cng (nI pn) cnt).toInt32) hx hb dX1_until_154 rfl ?_
                have hz := rt_dueLe hw_6 c_9
                have hu := rt_unM_z (f := f) (g := g) (e := en) (r := rn) (k := kn) (cnt := cnt) (per := nI pn) (cng := cng) (msk := msk) h4
                exact W.iret (v := (rt_timM sr cng (nI pn) cnt).toInt32) hx hb hr (fun t ht hW => ⟨⟨(rt_timM sr cng (nI pn) cnt).toInt32, (), rfl, by rw [rt_un_eq hrl hpl hs hc, if_pos hz, hu, if_neg (rt_geL ((lg_cmp_le _ _).mp c_146))], by rw [ht]; exact hP, va_K.moved hW.alike hK, hD⟩, hS.F ht⟩) hS.2.2 dX1_until_155
              · refine lv_iconst (v := -1) hx hb dX1_until_149 (by decide) ?_
                refine lv_goto (tgt := 155) hx hb dX1_until_150 (by decide) ?_
                have hz := rt_dueLe hw_6 c_9
                have hu := rt_unM_z (f := f) (g := g) (e := en) (r := rn) (k := kn) (cnt := cnt) (per := nI pn) (cng := cng) (msk := msk) h4
                exact W.iret (v := (-1)) hx hb hr (fun t ht hW => ⟨⟨(-1), (), rfl, by rw [rt_un_eq hrl hpl hs hc, if_pos hz, hu, if_pos (rt_nleL (fun h => c_146 ((lg_cmp_le _ _).mpr h)))], by rw [ht]; exact hP, va_K.moved hW.alike hK, hD⟩, hS.F ht⟩) hS.2.2 dX1_until_155
            · refine lv_aload_n hx hb dX1_until_77 rfl (lv_at hl 1 rfl) ?_
              refine va_get (D := (dC, dI)) (ci := 1) (v := .int sr) (C := RX1) (T := TX1) (N := 14) hx hb hts (fun _ h => List.mem_cons_of_mem _ (List.mem_append_right _ h)) hown hK hP 0 rfl rfl 7 (by decide) (hts (.fieldLink RX1 7 "RetiredTimerModel" "sr" "I") (by decide +kernel)) (fun _ h9 => h9) rfl dX1_until_78 ?_
              refine lv_iconst (v := 4) hx hb dX1_until_81 (by decide) ?_
              refine lv_iand hx hb dX1_until_82 ?_
              refine lv_if_eq (tgt := 135) hx hb dX1_until_83 (by decide) (fun c_83 => ?_) (fun c_83 => absurd h4 c_83)
              refine lv_aload_n hx hb dX1_until_135 rfl (lv_at hl 1 rfl) ?_
              refine va_get (D := (dC, dI)) (ci := 1) (v := .int (nI rn)) (C := RX1) (T := TX1) (N := 14) hx hb hts (fun _ h => List.mem_cons_of_mem _ (List.mem_append_right _ h)) hown hK hP 0 rfl rfl 1 (by decide) (hts (.fieldLink RX1 29 "RetiredTimerModel" "retired" "I") (by decide +kernel)) (fun _ h9 => h9) rfl dX1_until_136 ?_
              refine lv_i2l (v := (nI rn).toInt64) hx hb dX1_until_139 rfl ?_
              refine lv_lload_n hx hb dX1_until_140 rfl (lv_at hl 2 rfl) ?_
              refine lv_ladd hx hb dX1_until_141 ?_
              refine lv_ldc2 (v := 2147483647) hx hb hown (hts (.constantLong RX1 73 2147483647) (by decide +kernel)) dX1_until_142 ?_
              refine W.lcmp hx hb dX1_until_145 ?_
              refine lv_if_le (tgt := 153) hx hb dX1_until_146 (by decide) (fun c_146 => ?_) (fun c_146 => ?_)
              · refine lv_lload_n hx hb dX1_until_153 rfl (lv_at hl 2 rfl) ?_
                refine lv_l2i (v := (rt_timM sr cng (nI pn) cnt).toInt32) hx hb dX1_until_154 rfl ?_
                have hz := rt_dueLe hw_6 c_9
                have hu := rt_unM_z (f := f) (g := g) (e := en) (r := rn) (k := kn) (cnt := cnt) (per := nI pn) (cng := cng) (msk := msk) h4
                exact W.iret (v := (rt_timM sr cng (nI pn) cnt).toInt32) hx hb hr (fun t ht hW => ⟨⟨(rt_timM sr cng (nI pn) cnt).toInt32, (), rfl, by rw [rt_un_eq hrl hpl hs hc, if_pos hz, hu, if_neg (rt_geL ((lg_cmp_le _ _).mp c_146))], by rw [ht]; exact hP, va_K.moved hW.alike hK, hD⟩, hS.F ht⟩) hS.2.2 dX1_until_155
              · refine lv_iconst (v := -1) hx hb dX1_until_149 (by decide) ?_
                refine lv_goto (tgt := 155) hx hb dX1_until_150 (by decide) ?_
                have hz := rt_dueLe hw_6 c_9
                have hu := rt_unM_z (f := f) (g := g) (e := en) (r := rn) (k := kn) (cnt := cnt) (per := nI pn) (cng := cng) (msk := msk) h4
                exact W.iret (v := (-1)) hx hb hr (fun t ht hW => ⟨⟨(-1), (), rfl, by rw [rt_un_eq hrl hpl hs hc, if_pos hz, hu, if_pos (rt_nleL (fun h => c_146 ((lg_cmp_le _ _).mpr h)))], by rw [ht]; exact hP, va_K.moved hW.alike hK, hD⟩, hS.F ht⟩) hS.2.2 dX1_until_155
          · refine lp_M_until (f := f) (g := g) (msk := msk) (sr := sr) (en := en) (rn := rn) (kn := kn) hx hb hts hown hK hP h32 h4 (fun ls hl => ?_) (en - kn) (rt_timM sr cng (nI pn) cnt) (by have := hc.1; omega) rfl ls (by rw [show kn + (en - kn) = en by have := hc.1; omega]; exact lv_sub hl [1, 2, 0] rfl)
            refine lv_aload_n hx hb dX1_until_135 rfl (lv_at hl 0 rfl) ?_
            refine va_get (D := (dC, dI)) (ci := 1) (v := .int (nI rn)) (C := RX1) (T := TX1) (N := 14) hx hb hts (fun _ h => List.mem_cons_of_mem _ (List.mem_append_right _ h)) hown hK hP 0 rfl rfl 1 (by decide) (hts (.fieldLink RX1 29 "RetiredTimerModel" "retired" "I") (by decide +kernel)) (fun _ h9 => h9) rfl dX1_until_136 ?_
            refine lv_i2l (v := (nI rn).toInt64) hx hb dX1_until_139 rfl ?_
            refine lv_lload_n hx hb dX1_until_140 rfl (lv_at hl 1 rfl) ?_
            refine lv_ladd hx hb dX1_until_141 ?_
            refine lv_ldc2 (v := 2147483647) hx hb hown (hts (.constantLong RX1 73 2147483647) (by decide +kernel)) dX1_until_142 ?_
            refine W.lcmp hx hb dX1_until_145 ?_
            refine lv_if_le (tgt := 153) hx hb dX1_until_146 (by decide) (fun c_146 => ?_) (fun c_146 => ?_)
            · refine lv_lload_n hx hb dX1_until_153 rfl (lv_at hl 1 rfl) ?_
              refine lv_l2i (v := (rt_ml f g (nI rn) msk kn (en - kn) (rt_timM sr cng (nI pn) cnt)).toInt32) hx hb dX1_until_154 rfl ?_
              have hz := rt_dueLe hw_6 c_9
              have hu := rt_unM_n (f := f) (g := g) (e := en) (r := rn) (k := kn) (cnt := cnt) (per := nI pn) (cng := cng) (msk := msk) h4
              exact W.iret (v := (rt_ml f g (nI rn) msk kn (en - kn) (rt_timM sr cng (nI pn) cnt)).toInt32) hx hb hr (fun t ht hW => ⟨⟨(rt_ml f g (nI rn) msk kn (en - kn) (rt_timM sr cng (nI pn) cnt)).toInt32, (), rfl, by rw [rt_un_eq hrl hpl hs hc, if_pos hz, hu, if_neg (rt_geL ((lg_cmp_le _ _).mp c_146))], by rw [ht]; exact hP, va_K.moved hW.alike hK, hD⟩, hS.F ht⟩) hS.2.2 dX1_until_155
            · refine lv_iconst (v := -1) hx hb dX1_until_149 (by decide) ?_
              refine lv_goto (tgt := 155) hx hb dX1_until_150 (by decide) ?_
              have hz := rt_dueLe hw_6 c_9
              have hu := rt_unM_n (f := f) (g := g) (e := en) (r := rn) (k := kn) (cnt := cnt) (per := nI pn) (cng := cng) (msk := msk) h4
              exact W.iret (v := (-1)) hx hb hr (fun t ht hW => ⟨⟨(-1), (), rfl, by rw [rt_un_eq hrl hpl hs hc, if_pos hz, hu, if_pos (rt_nleL (fun h => c_146 ((lg_cmp_le _ _).mpr h)))], by rw [ht]; exact hP, va_K.moved hW.alike hK, hD⟩, hS.F ht⟩) hS.2.2 dX1_until_155
  · refine lv_iconst (v := 0) hx hb dX1_until_12 (by decide) ?_
    have hz := rt_dueGt hw_6 c_9
    exact W.iret (v := 0) hx hb hr (fun t ht hW => ⟨⟨0, (), rfl, by rw [rt_un_eq hrl hpl hs hc, if_neg hz], by rw [ht]; exact hP, va_K.moved hW.alike hK, hD⟩, hS.F ht⟩) hS.2.2 dX1_until_13
end
section
set_option maxHeartbeats 4000000 in
set_option maxRecDepth 100000 in
theorem c_M_look (l : Launch) (dC : Nat → ClassId) (dI : Nat → Nat → Nat) (h0 a1 a2 sz : Nat) (k1 k2 : ClassId) (f g : Nat → Int32) (ent ret cnt per cng pnd msk sr sav tkn com : Int32) (p1 : Int32) (en rn kn : Nat) (he : ent = nI en) (hrn : ret = nI rn) (hk : com = nI kn) (hk32 : kn ≤ 32) :
    Met l yX1_look wsX1_look ({ frames := 2, cells := 0, slots := 0, locals := 40 }) (va_Pc [.ref h0, .int p1] (rt_pre dC dI (rt_mw h0 a1 a2 k1 k2 f g ent ret cnt per cng pnd msk sr sav tkn com) [(k1, .int), (k2, .int)] sz)) (va_Qi (fun (v : Int32) (u : Unit) => (∃ j, j < 12 ∧ p1 = nI j ∧ v = rt_lk en rn cnt per cng pnd msk sr sav tkn (rt_now g kn) j) ∨ ((p1 < 0 ∨ nI 12 ≤ p1) ∧ v = -1)) (rt_post dC dI [(k1, .int), (k2, .int)] (va_A (rt_mw h0 a1 a2 k1 k2 f g ent ret cnt per cng pnd msk sr sav tkn com) sz) (fun (u : Unit) => rt_mw h0 a1 a2 k1 k2 f g ent ret cnt per cng pnd msk sr sav tkn com)) (va_A (rt_mw h0 a1 a2 k1 k2 f g ent ret cnt per cng pnd msk sr sav tkn com) sz)) 0 0 (va_A (rt_mw h0 a1 a2 k1 k2 f g ent ret cnt per cng pnd msk sr sav tkn com) sz) := by
  subst he
  subst hrn
  subst hk
  refine Met.ofW (cc := cX1_look) (maxL := 2) (ret := (some .int)) (by decide) rfl ?_
  intro p e0 s m args below meth c s₁ B hml hv
  obtain ⟨rfl, hsz, hP, hK, hD0⟩ := hv
  have hx := B.exec
  have hb := B.bytes
  have hr := B.returns
  have hts := atoms_spec (ws := wsX1_look) B.pre
  have hown : s.vm.findClass RX1 = some m.cls := findClass_of_methodNamed B.named
  have hlocks := B.notSynchronized
  subst hsz
  have hD := hD0.self (sz := s.heap.size)
  generalize hAe : va_A (rt_mw h0 a1 a2 k1 k2 f g (nI en) (nI rn) cnt per cng pnd msk sr sav tkn (nI kn)) s.heap.size = A at hD ⊢
  have hA : ∀ q : Nat, s.heap.size ≤ q → A q := fun q h => by rw [← hAe]; exact Or.inr h
  have hS : va_S A s.heap s.heap [] := va_S.rf
  have hP : va_P (dC, dI) vwCl (rt_mw h0 a1 a2 k1 k2 f g (nI en) (nI rn) cnt per cng pnd msk sr sav tkn (nI kn)) s.heap := hP
  have hl := lv_entry ([.ref h0, .int p1]) (n := 2) (Nat.le_of_ble_eq_true rfl)
  rw [lg_entry_eq]
  generalize (lg_sl ([.ref h0, .int p1]) ++ List.replicate (2 - (lg_sl ([.ref h0, .int p1])).length) Slot.unset).toArray = ls at hl ⊢
  have hl : lv_has ls 2 [(0, .ref h0), (1, .int p1)] := hl
  refine lv_aload_n hx hb dX1_look_0 rfl (lv_at hl 0 rfl) ?_
  refine lv_iconst (v := 0) hx hb dX1_look_1 (by decide) ?_
  refine va_put (D := (dC, dI)) (ci := 1) (v := .int 0) (ty := .int) (C := RX1) (T := TX1) (N := 14) hx hb hts (fun _ h => List.mem_cons_of_mem _ (List.mem_append_right _ h)) tyX1 tyX1_ok nmX1 hown hK hP hD hS 0 rfl rfl 0 (by decide) (hts (.fieldLink RX1 20 "RetiredTimerModel" "thrown" "I") (by decide +kernel)) (fun _ h9 => h9) rfl (by decide +kernel) rfl rfl (Nat.le_of_ble_eq_true rfl) dX1_look_2 (fun H locs hP hD hS => ?_)
  have hP : va_P (dC, dI) vwCl (rt_mw h0 a1 a2 k1 k2 f g (nI en) (nI rn) cnt per cng pnd msk sr sav tkn (nI kn)) H := hP
  have hD : va_D A (rt_mw h0 a1 a2 k1 k2 f g (nI en) (nI rn) cnt per cng pnd msk sr sav tkn (nI kn)) := hD
  refine lv_iload_n hx hb dX1_look_5 rfl (lv_at hl 1 rfl) ?_
  rcases pk_ix p1 (n := 12) (by decide) with hn | hn | ⟨j, hj, rfl⟩
  · refine lv_tableOut (tgt := 144) hx hb dX1_look_6 (rt_out (Or.inl hn)) (by decide) ?_
    refine lv_iconst (v := -1) hx hb dX1_look_144 (by decide) ?_
    exact W.iret (v := (-1)) hx hb hr (fun t ht hW => ⟨⟨(-1), (), rfl, Or.inr ⟨Or.inl hn, rfl⟩, by rw [ht]; exact hP, va_K.moved hW.alike hK, hD⟩, hS.F ht⟩) hS.2.2 dX1_look_145
  · refine lv_tableOut (tgt := 144) hx hb dX1_look_6 (rt_out (Or.inr hn)) (by decide) ?_
    refine lv_iconst (v := -1) hx hb dX1_look_144 (by decide) ?_
    exact W.iret (v := (-1)) hx hb hr (fun t ht hW => ⟨⟨(-1), (), rfl, Or.inr ⟨Or.inr hn, rfl⟩, by rw [ht]; exact hP, va_K.moved hW.alike hK, hD⟩, hS.F ht⟩) hS.2.2 dX1_look_145
  · rcases (show j = 0 ∨ j = 1 ∨ j = 2 ∨ j = 3 ∨ j = 4 ∨ j = 5 ∨ j = 6 ∨ j = 7 ∨ j = 8 ∨ j = 9 ∨ j = 10 ∨ j = 11 by omega) with rfl | rfl | rfl | rfl | rfl | rfl | rfl | rfl | rfl | rfl | rfl | rfl
    · refine lv_tableIn (off := 62) (tgt := 68) hx hb dX1_look_6 (by decide +kernel) (by decide +kernel) (by decide +kernel) (by decide) ?_
      refine lv_aload_n hx hb dX1_look_68 rfl (lv_at hl 0 rfl) ?_
      refine va_get (D := (dC, dI)) (ci := 1) (v := .int (nI rn)) (C := RX1) (T := TX1) (N := 14) hx hb hts (fun _ h => List.mem_cons_of_mem _ (List.mem_append_right _ h)) hown hK hP 0 rfl rfl 1 (by decide) (hts (.fieldLink RX1 29 "RetiredTimerModel" "retired" "I") (by decide +kernel)) (fun _ h9 => h9) rfl dX1_look_69 ?_
      exact W.iret (v := (nI rn)) hx hb hr (fun t ht hW => ⟨⟨(nI rn), (), rfl, Or.inl ⟨0, by decide, rfl, rfl⟩, by rw [ht]; exact hP, va_K.moved hW.alike hK, hD⟩, hS.F ht⟩) hS.2.2 dX1_look_72
    · refine lv_tableIn (off := 67) (tgt := 73) hx hb dX1_look_6 (by decide +kernel) (by decide +kernel) (by decide +kernel) (by decide) ?_
      refine lv_aload_n hx hb dX1_look_73 rfl (lv_at hl 0 rfl) ?_
      refine va_get (D := (dC, dI)) (ci := 1) (v := .int cnt) (C := RX1) (T := TX1) (N := 14) hx hb hts (fun _ h => List.mem_cons_of_mem _ (List.mem_append_right _ h)) hown hK hP 0 rfl rfl 2 (by decide) (hts (.fieldLink RX1 49 "RetiredTimerModel" "count" "I") (by decide +kernel)) (fun _ h9 => h9) rfl dX1_look_74 ?_
      exact W.iret (v := cnt) hx hb hr (fun t ht hW => ⟨⟨cnt, (), rfl, Or.inl ⟨1, by decide, rfl, rfl⟩, by rw [ht]; exact hP, va_K.moved hW.alike hK, hD⟩, hS.F ht⟩) hS.2.2 dX1_look_77
    · refine lv_tableIn (off := 72) (tgt := 78) hx hb dX1_look_6 (by decide +kernel) (by decide +kernel) (by decide +kernel) (by decide) ?_
      refine lv_aload_n hx hb dX1_look_78 rfl (lv_at hl 0 rfl) ?_
      refine va_get (D := (dC, dI)) (ci := 1) (v := .int per) (C := RX1) (T := TX1) (N := 14) hx hb hts (fun _ h => List.mem_cons_of_mem _ (List.mem_append_right _ h)) hown hK hP 0 rfl rfl 3 (by decide) (hts (.fieldLink RX1 52 "RetiredTimerModel" "period" "I") (by decide +kernel)) (fun _ h9 => h9) rfl dX1_look_79 ?_
      exact W.iret (v := per) hx hb hr (fun t ht hW => ⟨⟨per, (), rfl, Or.inl ⟨2, by decide, rfl, rfl⟩, by rw [ht]; exact hP, va_K.moved hW.alike hK, hD⟩, hS.F ht⟩) hS.2.2 dX1_look_82
    · refine lv_tableIn (off := 77) (tgt := 83) hx hb dX1_look_6 (by decide +kernel) (by decide +kernel) (by decide +kernel) (by decide) ?_
      refine lv_aload_n hx hb dX1_look_83 rfl (lv_at hl 0 rfl) ?_
      refine va_get (D := (dC, dI)) (ci := 1) (v := .int pnd) (C := RX1) (T := TX1) (N := 14) hx hb hts (fun _ h => List.mem_cons_of_mem _ (List.mem_append_right _ h)) hown hK hP 0 rfl rfl 5 (by decide) (hts (.fieldLink RX1 32 "RetiredTimerModel" "pending" "Z") (by decide +kernel)) (fun _ h9 => h9) rfl dX1_look_84 ?_
      refine lv_if_eq (tgt := 94) hx hb dX1_look_87 (by decide) (fun c_87 => ?_) (fun c_87 => ?_)
      · refine lv_iconst (v := 0) hx hb dX1_look_94 (by decide) ?_
        exact W.iret (v := 0) hx hb hr (fun t ht hW => ⟨⟨0, (), rfl, Or.inl ⟨3, by decide, rfl, by show _ = (if pnd = 0 then (0 : Int32) else 1); rw [if_pos c_87]⟩, by rw [ht]; exact hP, va_K.moved hW.alike hK, hD⟩, hS.F ht⟩) hS.2.2 dX1_look_95
      · refine lv_iconst (v := 1) hx hb dX1_look_90 (by decide) ?_
        refine lv_goto (tgt := 95) hx hb dX1_look_91 (by decide) ?_
        exact W.iret (v := 1) hx hb hr (fun t ht hW => ⟨⟨1, (), rfl, Or.inl ⟨3, by decide, rfl, by show _ = (if pnd = 0 then (0 : Int32) else 1); rw [if_neg c_87]⟩, by rw [ht]; exact hP, va_K.moved hW.alike hK, hD⟩, hS.F ht⟩) hS.2.2 dX1_look_95
    · refine lv_tableIn (off := 90) (tgt := 96) hx hb dX1_look_6 (by decide +kernel) (by decide +kernel) (by decide +kernel) (by decide) ?_
      refine lv_aload_n hx hb dX1_look_96 rfl (lv_at hl 0 rfl) ?_
      refine va_get (D := (dC, dI)) (ci := 1) (v := .int cng) (C := RX1) (T := TX1) (N := 14) hx hb hts (fun _ h => List.mem_cons_of_mem _ (List.mem_append_right _ h)) hown hK hP 0 rfl rfl 4 (by decide) (hts (.fieldLink RX1 46 "RetiredTimerModel" "counting" "Z") (by decide +kernel)) (fun _ h9 => h9) rfl dX1_look_97 ?_
      refine lv_if_eq (tgt := 107) hx hb dX1_look_100 (by decide) (fun c_100 => ?_) (fun c_100 => ?_)
      · refine lv_iconst (v := 0) hx hb dX1_look_107 (by decide) ?_
        exact W.iret (v := 0) hx hb hr (fun t ht hW => ⟨⟨0, (), rfl, Or.inl ⟨4, by decide, rfl, by show _ = (if cng = 0 then (0 : Int32) else 1); rw [if_pos c_100]⟩, by rw [ht]; exact hP, va_K.moved hW.alike hK, hD⟩, hS.F ht⟩) hS.2.2 dX1_look_108
      · refine lv_iconst (v := 1) hx hb dX1_look_103 (by decide) ?_
        refine lv_goto (tgt := 108) hx hb dX1_look_104 (by decide) ?_
        exact W.iret (v := 1) hx hb hr (fun t ht hW => ⟨⟨1, (), rfl, Or.inl ⟨4, by decide, rfl, by show _ = (if cng = 0 then (0 : Int32) else 1); rw [if_neg c_100]⟩, by rw [ht]; exact hP, va_K.moved hW.alike hK, hD⟩, hS.F ht⟩) hS.2.2 dX1_look_108
    · refine lv_tableIn (off := 103) (tgt := 109) hx hb dX1_look_6 (by decide +kernel) (by decide +kernel) (by decide +kernel) (by decide) ?_
      refine lv_aload_n hx hb dX1_look_109 rfl (lv_at hl 0 rfl) ?_
      refine va_get (D := (dC, dI)) (ci := 1) (v := .int msk) (C := RX1) (T := TX1) (N := 14) hx hb hts (fun _ h => List.mem_cons_of_mem _ (List.mem_append_right _ h)) hown hK hP 0 rfl rfl 6 (by decide) (hts (.fieldLink RX1 40 "RetiredTimerModel" "mask" "I") (by decide +kernel)) (fun _ h9 => h9) rfl dX1_look_110 ?_
      exact W.iret (v := msk) hx hb hr (fun t ht hW => ⟨⟨msk, (), rfl, Or.inl ⟨5, by decide, rfl, rfl⟩, by rw [ht]; exact hP, va_K.moved hW.alike hK, hD⟩, hS.F ht⟩) hS.2.2 dX1_look_113
    · refine lv_tableIn (off := 108) (tgt := 114) hx hb dX1_look_6 (by decide +kernel) (by decide +kernel) (by decide +kernel) (by decide) ?_
      refine lv_aload_n hx hb dX1_look_114 rfl (lv_at hl 0 rfl) ?_
      have hFc := va_free (wc := rt_mw h0 a1 a2 k1 k2 f g (nI en) (nI rn) cnt per cng pnd msk sr sav tkn (nI kn)) hD hS hA [0, 1, 2] rfl
      refine va_calli (va_runV (As := []) (rest := []) ⟨hx, hb, hml, hown, hts⟩ (c_M_linesNow l dC dI h0 a1 a2 H.size k1 k2 f g (nI en) (nI rn) cnt per cng pnd msk sr sav tkn (nI kn) kn rfl hk32) (cwV 0 hts gX1_look_X1_linesNow rfl rfl rfl (by decide +kernel) ⟨Nat.le_of_ble_eq_true rfl, Nat.le_of_ble_eq_true rfl⟩) ⟨fun a U g mk q => by obtain ⟨q0, q1, qP, qK, qD⟩ := q; exact ⟨q0, q1, qP, va_K.moved (u := U) (U := U.calling g mk a) (Vm.Alike.refl U.vm) qK, qD⟩, va_recv hK hP (ci := 1) (q0 := 0) rfl rfl, fun U hU hW => ⟨rfl, by rw [hU], by rw [hU]; exact hP, va_K.moved hW.alike hK, hD.weaken (fun _ _ _ _ => trivial)⟩⟩ rfl rfl hl.1 rfl (lv_room (Nat.le_of_ble_eq_true rfl)) dX1_look_115 ⟨Nat.zero_le _, Nat.zero_le _⟩) hS (fun q _ h => hFc q h) hFc (fun r_115 u t H1 locs ht hvm hw_115 hB hz1 hk1 hS => ?_)
      obtain ⟨hP1, hK1, hD1⟩ := hB
      rw [ht] at hP1
      try dsimp only at hw_115 hP1 hD1
      obtain ⟨hP, hD⟩ := va_join (wr := []) (w1 := rt_mw h0 a1 a2 k1 k2 f g (nI en) (nI rn) cnt per cng pnd msk sr sav tkn (nI kn)) hP hD [0, 1, 2] [] rfl rfl (by decide) (by decide) hk1 hFc hP1 hD1
      generalize H1 = H at hP hS ⊢
      have hP : va_P (dC, dI) vwCl (rt_mw h0 a1 a2 k1 k2 f g (nI en) (nI rn) cnt per cng pnd msk sr sav tkn (nI kn)) H := hP
      have hD : va_D A (rt_mw h0 a1 a2 k1 k2 f g (nI en) (nI rn) cnt per cng pnd msk sr sav tkn (nI kn)) := hD
      exact W.iret (v := r_115) hx hb hr (fun t ht hW => ⟨⟨r_115, (), rfl, Or.inl ⟨6, by decide, rfl, hw_115⟩, by rw [ht]; exact hP, va_K.moved hW.alike hK, hD⟩, hS.F ht⟩) hS.2.2 dX1_look_118
    · refine lv_tableIn (off := 113) (tgt := 119) hx hb dX1_look_6 (by decide +kernel) (by decide +kernel) (by decide +kernel) (by decide) ?_
      refine lv_aload_n hx hb dX1_look_119 rfl (lv_at hl 0 rfl) ?_
      refine va_get (D := (dC, dI)) (ci := 1) (v := .int sr) (C := RX1) (T := TX1) (N := 14) hx hb hts (fun _ h => List.mem_cons_of_mem _ (List.mem_append_right _ h)) hown hK hP 0 rfl rfl 7 (by decide) (hts (.fieldLink RX1 7 "RetiredTimerModel" "sr" "I") (by decide +kernel)) (fun _ h9 => h9) rfl dX1_look_120 ?_
      exact W.iret (v := sr) hx hb hr (fun t ht hW => ⟨⟨sr, (), rfl, Or.inl ⟨7, by decide, rfl, rfl⟩, by rw [ht]; exact hP, va_K.moved hW.alike hK, hD⟩, hS.F ht⟩) hS.2.2 dX1_look_123
    · refine lv_tableIn (off := 118) (tgt := 124) hx hb dX1_look_6 (by decide +kernel) (by decide +kernel) (by decide +kernel) (by decide) ?_
      refine lv_aload_n hx hb dX1_look_124 rfl (lv_at hl 0 rfl) ?_
      refine va_get (D := (dC, dI)) (ci := 1) (v := .int sav) (C := RX1) (T := TX1) (N := 14) hx hb hts (fun _ h => List.mem_cons_of_mem _ (List.mem_append_right _ h)) hown hK hP 0 rfl rfl 8 (by decide) (hts (.fieldLink RX1 62 "RetiredTimerModel" "saved" "I") (by decide +kernel)) (fun _ h9 => h9) rfl dX1_look_125 ?_
      exact W.iret (v := sav) hx hb hr (fun t ht hW => ⟨⟨sav, (), rfl, Or.inl ⟨8, by decide, rfl, rfl⟩, by rw [ht]; exact hP, va_K.moved hW.alike hK, hD⟩, hS.F ht⟩) hS.2.2 dX1_look_128
    · refine lv_tableIn (off := 123) (tgt := 129) hx hb dX1_look_6 (by decide +kernel) (by decide +kernel) (by decide +kernel) (by decide) ?_
      refine lv_aload_n hx hb dX1_look_129 rfl (lv_at hl 0 rfl) ?_
      refine va_get (D := (dC, dI)) (ci := 1) (v := .int tkn) (C := RX1) (T := TX1) (N := 14) hx hb hts (fun _ h => List.mem_cons_of_mem _ (List.mem_append_right _ h)) hown hK hP 0 rfl rfl 9 (by decide) (hts (.fieldLink RX1 65 "RetiredTimerModel" "taken" "I") (by decide +kernel)) (fun _ h9 => h9) rfl dX1_look_130 ?_
      exact W.iret (v := tkn) hx hb hr (fun t ht hW => ⟨⟨tkn, (), rfl, Or.inl ⟨9, by decide, rfl, rfl⟩, by rw [ht]; exact hP, va_K.moved hW.alike hK, hD⟩, hS.F ht⟩) hS.2.2 dX1_look_133
    · refine lv_tableIn (off := 128) (tgt := 134) hx hb dX1_look_6 (by decide +kernel) (by decide +kernel) (by decide +kernel) (by decide) ?_
      refine lv_aload_n hx hb dX1_look_134 rfl (lv_at hl 0 rfl) ?_
      refine va_get (D := (dC, dI)) (ci := 1) (v := .int (nI en)) (C := RX1) (T := TX1) (N := 14) hx hb hts (fun _ h => List.mem_cons_of_mem _ (List.mem_append_right _ h)) hown hK hP 0 rfl rfl 12 (by decide) (hts (.fieldLink RX1 26 "RetiredTimerModel" "entries" "I") (by decide +kernel)) (fun _ h9 => h9) rfl dX1_look_135 ?_
      exact W.iret (v := (nI en)) hx hb hr (fun t ht hW => ⟨⟨(nI en), (), rfl, Or.inl ⟨10, by decide, rfl, rfl⟩, by rw [ht]; exact hP, va_K.moved hW.alike hK, hD⟩, hS.F ht⟩) hS.2.2 dX1_look_138
    · refine lv_tableIn (off := 133) (tgt := 139) hx hb dX1_look_6 (by decide +kernel) (by decide +kernel) (by decide +kernel) (by decide) ?_
      refine lv_aload_n hx hb dX1_look_139 rfl (lv_at hl 0 rfl) ?_
      have hFc := va_free (wc := rt_mw h0 a1 a2 k1 k2 f g (nI en) (nI rn) cnt per cng pnd msk sr sav tkn (nI kn)) hD hS hA [0, 1, 2] rfl
      refine va_calli (va_runV (As := []) (rest := []) ⟨hx, hb, hml, hown, hts⟩ (c_M_due l dC dI h0 a1 a2 H.size k1 k2 f g (nI en) (nI rn) cnt per cng pnd msk sr sav tkn (nI kn) kn rfl hk32) (cwV 0 hts gX1_look_X1_due rfl rfl rfl (by decide +kernel) ⟨Nat.le_of_ble_eq_true rfl, Nat.le_of_ble_eq_true rfl⟩) ⟨fun a U g mk q => by obtain ⟨q0, q1, qP, qK, qD⟩ := q; exact ⟨q0, q1, qP, va_K.moved (u := U) (U := U.calling g mk a) (Vm.Alike.refl U.vm) qK, qD⟩, va_recv hK hP (ci := 1) (q0 := 0) rfl rfl, fun U hU hW => ⟨rfl, by rw [hU], by rw [hU]; exact hP, va_K.moved hW.alike hK, hD.weaken (fun _ _ _ _ => trivial)⟩⟩ rfl rfl hl.1 rfl (lv_room (Nat.le_of_ble_eq_true rfl)) dX1_look_140 ⟨Nat.zero_le _, Nat.zero_le _⟩) hS (fun q _ h => hFc q h) hFc (fun r_140 u t H1 locs ht hvm hw_140 hB hz1 hk1 hS => ?_)
      obtain ⟨hP1, hK1, hD1⟩ := hB
      rw [ht] at hP1
      try dsimp only at hw_140 hP1 hD1
      obtain ⟨hP, hD⟩ := va_join (wr := []) (w1 := rt_mw h0 a1 a2 k1 k2 f g (nI en) (nI rn) cnt per cng pnd msk sr sav tkn (nI kn)) hP hD [0, 1, 2] [] rfl rfl (by decide) (by decide) hk1 hFc hP1 hD1
      generalize H1 = H at hP hS ⊢
      have hP : va_P (dC, dI) vwCl (rt_mw h0 a1 a2 k1 k2 f g (nI en) (nI rn) cnt per cng pnd msk sr sav tkn (nI kn)) H := hP
      have hD : va_D A (rt_mw h0 a1 a2 k1 k2 f g (nI en) (nI rn) cnt per cng pnd msk sr sav tkn (nI kn)) := hD
      exact W.iret (v := r_140) hx hb hr (fun t ht hW => ⟨⟨r_140, (), rfl, Or.inl ⟨11, by decide, rfl, hw_140⟩, by rw [ht]; exact hP, va_K.moved hW.alike hK, hD⟩, hS.F ht⟩) hS.2.2 dX1_look_143
end
section
set_option maxHeartbeats 4000000 in
set_option maxRecDepth 100000 in
theorem c_X_init (l : Launch) (dC : Nat → ClassId) (dI : Nat → Nat → Nat) (h0 sz : Nat) :
    Met l yX0_init wsX0_init ({ frames := 1, cells := 2, slots := 64, locals := 20 }) (va_Pc [.ref h0] (rt_pre dC dI ([(h0, .inr (0, [.null, .null, .int 0, .int 0, .int 0, .int 0, .int 0, .int 0, .int 0, .int 0, .int 0, .int 0]))]) [] sz)) (va_Qv (fun (u : Nat × Nat × ClassId × ClassId) => True) (fun (u : Nat × Nat × ClassId × ClassId) (t : State) => va_P (dC, dI) vwCl (rt_xw h0 u.1 u.2.1 u.2.2.1 u.2.2.2 (fun _ => 0) (fun _ => 0) 0 0 0 0 0 0 0 1 0 0) t.heap ∧ va_K (dC, dI) vwCl [(u.2.2.1, .int), (u.2.2.2, .int)] t ∧ va_D (va_A ([(h0, .inr (0, [.null, .null, .int 0, .int 0, .int 0, .int 0, .int 0, .int 0, .int 0, .int 0, .int 0, .int 0]))]) sz) (rt_xw h0 u.1 u.2.1 u.2.2.1 u.2.2.2 (fun _ => 0) (fun _ => 0) 0 0 0 0 0 0 0 1 0 0)) (va_A ([(h0, .inr (0, [.null, .null, .int 0, .int 0, .int 0, .int 0, .int 0, .int 0, .int 0, .int 0, .int 0, .int 0]))]) sz)) 2 64 (va_A ([(h0, .inr (0, [.null, .null, .int 0, .int 0, .int 0, .int 0, .int 0, .int 0, .int 0, .int 0, .int 0, .int 0]))]) sz) := by
  refine Met.ofW (cc := cX0_init) (maxL := 1) (ret := none) (by decide) rfl ?_
  intro p e0 s m args below meth c s₁ B hml hv
  obtain ⟨rfl, hsz, hP, hK, hD0⟩ := hv
  have hx := B.exec
  have hb := B.bytes
  have hr := B.returns
  have hts := atoms_spec (ws := wsX0_init) B.pre
  have hown : s.vm.findClass RX0 = some m.cls := findClass_of_methodNamed B.named
  have hlocks := B.notSynchronized
  subst hsz
  have hD := hD0.self (sz := s.heap.size)
  generalize hAe : va_A ([(h0, .inr (0, [.null, .null, .int 0, .int 0, .int 0, .int 0, .int 0, .int 0, .int 0, .int 0, .int 0, .int 0]))]) s.heap.size = A at hD ⊢
  have hA : ∀ q : Nat, s.heap.size ≤ q → A q := fun q h => by rw [← hAe]; exact Or.inr h
  have hS : va_S A s.heap s.heap [] := va_S.rf
  have hP : va_P (dC, dI) vwCl ([(h0, .inr (0, [.null, .null, .int 0, .int 0, .int 0, .int 0, .int 0, .int 0, .int 0, .int 0, .int 0, .int 0]))]) s.heap := hP
  have hl := lv_entry ([.ref h0]) (n := 1) (Nat.le_of_ble_eq_true rfl)
  rw [lg_entry_eq]
  generalize (lg_sl ([.ref h0]) ++ List.replicate (1 - (lg_sl ([.ref h0])).length) Slot.unset).toArray = ls at hl ⊢
  have hl : lv_has ls 1 [(0, .ref h0)] := hl
  have hin : meth.name = "<init>" := (name_of_methodNamed B.named B.method).1
  refine lv_aload_n hx hb dX0_init_0 rfl (lv_at hl 0 rfl) ?_
  refine W.objInit hx hb hown (hts (.methodLink RX0 3 objectInit) (by decide +kernel)) (hts (.instanceMethod objectInit) (by decide +kernel)) (hts (.code objectInit ⟨#[0xb1]⟩ 1 none) (by decide +kernel)) rfl (by rw [hml]; exact hl.1) rfl dX0_init_1 (Nat.le_of_ble_eq_true rfl) (Nat.le_of_ble_eq_true rfl) ?_
  refine W.eq (g2 := F0 m 4 ls []) rfl ?_
  refine lv_aload_n hx hb dX0_init_4 rfl (lv_at hl 0 rfl) ?_
  refine lv_bipush (v := 32) hx hb dX0_init_5 (by decide) ?_
  refine va_newa (atype := .int) (ty := .int) (N' := 32) (a0 := (32, .inl (fun _ => 0))) hx hb (hts (.arrayClass .int) (by decide +kernel)) rfl hK hP hD hS hA (fun _ => rfl) (by decide) (by decide) (by decide) (Nat.le_of_ble_eq_true rfl) (Nat.le_of_ble_eq_true rfl) dX0_init_7 (fun q1 k1 H hK hP hD hS => ?_)
  refine W.widen (k := 1) (n := 32) (by omega) (by omega) ?_
  have hP : va_P (dC, dI) vwCl ([(h0, .inr (0, [.null, .null, .int 0, .int 0, .int 0, .int 0, .int 0, .int 0, .int 0, .int 0, .int 0, .int 0])), (q1, .inl (k1, 32, .inl (fun _ => 0)))]) H := hP
  have hD : va_D A ([(h0, .inr (0, [.null, .null, .int 0, .int 0, .int 0, .int 0, .int 0, .int 0, .int 0, .int 0, .int 0, .int 0])), (q1, .inl (k1, 32, .inl (fun _ => 0)))]) := hD
  have hK : va_K (dC, dI) vwCl [(k1, .int)] s := hK
  refine va_putF (D := (dC, dI)) (ci := 0) (v := .ref q1) (ty := .array .int) (C := RX0) (T := TX0) (N := 12) hx hb hts (fun _ h => List.mem_cons_of_mem _ (List.mem_append_right _ h)) tyX0 tyX0_ok nmX0 hown hK hP hD hS 0 rfl rfl 0 (by decide) (hts (.fieldLink RX0 9 "RetiredTimer" "entryCounts" "[I") (by decide +kernel)) (fun _ h9 => h9) rfl hin rfl (by decide +kernel) rfl rfl (Nat.le_of_ble_eq_true rfl) dX0_init_9 (fun H locs hP hD hS => ?_)
  have hP : va_P (dC, dI) vwCl ([(h0, .inr (0, [.ref q1, .null, .int 0, .int 0, .int 0, .int 0, .int 0, .int 0, .int 0, .int 0, .int 0, .int 0])), (q1, .inl (k1, 32, .inl (fun _ => 0)))]) H := hP
  have hD : va_D A ([(h0, .inr (0, [.ref q1, .null, .int 0, .int 0, .int 0, .int 0, .int 0, .int 0, .int 0, .int 0, .int 0, .int 0])), (q1, .inl (k1, 32, .inl (fun _ => 0)))]) := hD
  refine lv_aload_n hx hb dX0_init_12 rfl (lv_at hl 0 rfl) ?_
  refine lv_bipush (v := 32) hx hb dX0_init_13 (by decide) ?_
  refine va_newa (atype := .int) (ty := .int) (N' := 32) (a0 := (32, .inl (fun _ => 0))) hx hb (hts (.arrayClass .int) (by decide +kernel)) rfl hK hP hD hS hA (fun _ => rfl) (by decide) (by decide) (by decide) (Nat.le_of_ble_eq_true rfl) (Nat.le_of_ble_eq_true rfl) dX0_init_15 (fun q2 k2 H hK hP hD hS => ?_)
  refine W.widen (k := 2) (n := 64) (by omega) (by omega) ?_
  have hP : va_P (dC, dI) vwCl ([(h0, .inr (0, [.ref q1, .null, .int 0, .int 0, .int 0, .int 0, .int 0, .int 0, .int 0, .int 0, .int 0, .int 0])), (q1, .inl (k1, 32, .inl (fun _ => 0))), (q2, .inl (k2, 32, .inl (fun _ => 0)))]) H := hP
  have hD : va_D A ([(h0, .inr (0, [.ref q1, .null, .int 0, .int 0, .int 0, .int 0, .int 0, .int 0, .int 0, .int 0, .int 0, .int 0])), (q1, .inl (k1, 32, .inl (fun _ => 0))), (q2, .inl (k2, 32, .inl (fun _ => 0)))]) := hD
  have hK : va_K (dC, dI) vwCl [(k1, .int), (k2, .int)] s := hK
  refine va_putF (D := (dC, dI)) (ci := 0) (v := .ref q2) (ty := .array .int) (C := RX0) (T := TX0) (N := 12) hx hb hts (fun _ h => List.mem_cons_of_mem _ (List.mem_append_right _ h)) tyX0 tyX0_ok nmX0 hown hK hP hD hS 0 rfl rfl 1 (by decide) (hts (.fieldLink RX0 13 "RetiredTimer" "entryLines" "[I") (by decide +kernel)) (fun _ h9 => h9) rfl hin rfl (by decide +kernel) rfl rfl (Nat.le_of_ble_eq_true rfl) dX0_init_17 (fun H locs hP hD hS => ?_)
  have hP : va_P (dC, dI) vwCl ([(h0, .inr (0, [.ref q1, .ref q2, .int 0, .int 0, .int 0, .int 0, .int 0, .int 0, .int 0, .int 0, .int 0, .int 0])), (q1, .inl (k1, 32, .inl (fun _ => 0))), (q2, .inl (k2, 32, .inl (fun _ => 0)))]) H := hP
  have hD : va_D A ([(h0, .inr (0, [.ref q1, .ref q2, .int 0, .int 0, .int 0, .int 0, .int 0, .int 0, .int 0, .int 0, .int 0, .int 0])), (q1, .inl (k1, 32, .inl (fun _ => 0))), (q2, .inl (k2, 32, .inl (fun _ => 0)))]) := hD
  refine lv_aload_n hx hb dX0_init_20 rfl (lv_at hl 0 rfl) ?_
  have hP : va_P (dC, dI) vwCl (rt_xw h0 q1 q2 k1 k2 (fun _ => 0) (fun _ => 0) 0 0 0 0 0 0 0 0 0 0) H := hP
  have hD : va_D A (rt_xw h0 q1 q2 k1 k2 (fun _ => 0) (fun _ => 0) 0 0 0 0 0 0 0 0 0 0) := hD
  have hFc := va_free (wc := rt_xw h0 q1 q2 k1 k2 (fun _ => 0) (fun _ => 0) 0 0 0 0 0 0 0 0 0 0) hD hS hA [0, 1, 2] rfl
  refine va_callv (va_runV (As := []) (rest := []) ⟨hx, hb, hml, hown, hts⟩ (c_X_setAllAsAtFirst l dC dI h0 q1 q2 H.size k1 k2 (fun _ => 0) (fun _ => 0) 0 0 0 0 0 0 0 0 0 0) (cwV 0 hts gX0_init_X0_setAllAsAtFirst rfl rfl rfl (by decide +kernel) ⟨Nat.le_of_ble_eq_true rfl, Nat.le_of_ble_eq_true rfl⟩) ⟨fun a U g mk q => by obtain ⟨q0, q1, qP, qK, qD⟩ := q; exact ⟨q0, q1, qP, va_K.moved (u := U) (U := U.calling g mk a) (Vm.Alike.refl U.vm) qK, qD⟩, va_recv hK hP (ci := 0) (q0 := 0) rfl rfl, fun U hU hW => ⟨rfl, by rw [hU], by rw [hU]; exact hP, va_K.moved hW.alike hK, hD.weaken (fun _ _ _ _ => trivial)⟩⟩ rfl rfl hl.1 rfl (lv_room (Nat.le_of_ble_eq_true rfl)) dX0_init_21 ⟨Nat.le_of_ble_eq_true rfl, Nat.le_of_ble_eq_true rfl⟩) hS (fun q _ h => hFc q h) hFc (fun u t H1 locs ht hvm hw_21 hB hz1 hk1 hS => ?_)
  obtain ⟨hP1, hK1, hD1⟩ := hB
  rw [ht] at hP1
  try dsimp only at hw_21 hP1 hD1
  obtain ⟨hP, hD⟩ := va_join (wr := []) (w1 := rt_xw h0 q1 q2 k1 k2 (fun _ => 0) (fun _ => 0) 0 0 0 0 0 0 0 1 0 0) hP hD [0, 1, 2] [] rfl rfl (by decide) (by decide) hk1 hFc hP1 hD1
  generalize H1 = H at hP hS ⊢
  have hP : va_P (dC, dI) vwCl (rt_xw h0 q1 q2 k1 k2 (fun _ => 0) (fun _ => 0) 0 0 0 0 0 0 0 1 0 0) H := hP
  have hD : va_D A (rt_xw h0 q1 q2 k1 k2 (fun _ => 0) (fun _ => 0) 0 0 0 0 0 0 0 1 0 0) := hD
  exact W.vret hx hb hr (fun t ht hW => ⟨⟨(q1, q2, k1, k2), rfl, trivial, by rw [ht]; exact hP, va_K.moved hW.alike hK, hD⟩, hS.F ht⟩) hS.2.2 dX0_init_24
set_option maxHeartbeats 4000000 in
set_option maxRecDepth 100000 in
theorem c_M_init (l : Launch) (dC : Nat → ClassId) (dI : Nat → Nat → Nat) (h0 sz : Nat) :
    Met l yX1_init wsX1_init ({ frames := 1, cells := 2, slots := 64, locals := 12 }) (va_Pc [.ref h0] (rt_pre dC dI ([(h0, .inr (1, [.int 0, .int 0, .int 0, .int 0, .int 0, .int 0, .int 0, .int 0, .int 0, .int 0, .null, .null, .int 0, .int 0]))]) [] sz)) (va_Qv (fun (u : Nat × Nat × ClassId × ClassId) => True) (fun (u : Nat × Nat × ClassId × ClassId) (t : State) => va_P (dC, dI) vwCl (rt_mw h0 u.1 u.2.1 u.2.2.1 u.2.2.2 (fun _ => 0) (fun _ => 0) 0 0 0 0 0 0 0 1 0 0 0) t.heap ∧ va_K (dC, dI) vwCl [(u.2.2.1, .int), (u.2.2.2, .int)] t ∧ va_D (va_A ([(h0, .inr (1, [.int 0, .int 0, .int 0, .int 0, .int 0, .int 0, .int 0, .int 0, .int 0, .int 0, .null, .null, .int 0, .int 0]))]) sz) (rt_mw h0 u.1 u.2.1 u.2.2.1 u.2.2.2 (fun _ => 0) (fun _ => 0) 0 0 0 0 0 0 0 1 0 0 0)) (va_A ([(h0, .inr (1, [.int 0, .int 0, .int 0, .int 0, .int 0, .int 0, .int 0, .int 0, .int 0, .int 0, .null, .null, .int 0, .int 0]))]) sz)) 2 64 (va_A ([(h0, .inr (1, [.int 0, .int 0, .int 0, .int 0, .int 0, .int 0, .int 0, .int 0, .int 0, .int 0, .null, .null, .int 0, .int 0]))]) sz) := by
  refine Met.ofW (cc := cX1_init) (maxL := 1) (ret := none) (by decide) rfl ?_
  intro p e0 s m args below meth c s₁ B hml hv
  obtain ⟨rfl, hsz, hP, hK, hD0⟩ := hv
  have hx := B.exec
  have hb := B.bytes
  have hr := B.returns
  have hts := atoms_spec (ws := wsX1_init) B.pre
  have hown : s.vm.findClass RX1 = some m.cls := findClass_of_methodNamed B.named
  have hlocks := B.notSynchronized
  subst hsz
  have hD := hD0.self (sz := s.heap.size)
  generalize hAe : va_A ([(h0, .inr (1, [.int 0, .int 0, .int 0, .int 0, .int 0, .int 0, .int 0, .int 0, .int 0, .int 0, .null, .null, .int 0, .int 0]))]) s.heap.size = A at hD ⊢
  have hA : ∀ q : Nat, s.heap.size ≤ q → A q := fun q h => by rw [← hAe]; exact Or.inr h
  have hS : va_S A s.heap s.heap [] := va_S.rf
  have hP : va_P (dC, dI) vwCl ([(h0, .inr (1, [.int 0, .int 0, .int 0, .int 0, .int 0, .int 0, .int 0, .int 0, .int 0, .int 0, .null, .null, .int 0, .int 0]))]) s.heap := hP
  have hl := lv_entry ([.ref h0]) (n := 1) (Nat.le_of_ble_eq_true rfl)
  rw [lg_entry_eq]
  generalize (lg_sl ([.ref h0]) ++ List.replicate (1 - (lg_sl ([.ref h0])).length) Slot.unset).toArray = ls at hl ⊢
  have hl : lv_has ls 1 [(0, .ref h0)] := hl
  have hin : meth.name = "<init>" := (name_of_methodNamed B.named B.method).1
  refine lv_aload_n hx hb dX1_init_0 rfl (lv_at hl 0 rfl) ?_
  refine W.objInit hx hb hown (hts (.methodLink RX1 1 objectInit) (by decide +kernel)) (hts (.instanceMethod objectInit) (by decide +kernel)) (hts (.code objectInit ⟨#[0xb1]⟩ 1 none) (by decide +kernel)) rfl (by rw [hml]; exact hl.1) rfl dX1_init_1 (Nat.le_of_ble_eq_true rfl) (Nat.le_of_ble_eq_true rfl) ?_
  refine W.eq (g2 := F0 m 4 ls []) rfl ?_
  refine lv_aload_n hx hb dX1_init_4 rfl (lv_at hl 0 rfl) ?_
  refine lv_iconst (v := 1) hx hb dX1_init_5 (by decide) ?_
  refine va_put (D := (dC, dI)) (ci := 1) (v := .int 1) (ty := .int) (C := RX1) (T := TX1) (N := 14) hx hb hts (fun _ h => List.mem_cons_of_mem _ (List.mem_append_right _ h)) tyX1 tyX1_ok nmX1 hown hK hP hD hS 0 rfl rfl 7 (by decide) (hts (.fieldLink RX1 7 "RetiredTimerModel" "sr" "I") (by decide +kernel)) (fun _ h9 => h9) rfl (by decide +kernel) rfl rfl (Nat.le_of_ble_eq_true rfl) dX1_init_6 (fun H locs hP hD hS => ?_)
  have hP : va_P (dC, dI) vwCl ([(h0, .inr (1, [.int 0, .int 0, .int 0, .int 0, .int 0, .int 0, .int 0, .int 1, .int 0, .int 0, .null, .null, .int 0, .int 0]))]) H := hP
  have hD : va_D A ([(h0, .inr (1, [.int 0, .int 0, .int 0, .int 0, .int 0, .int 0, .int 0, .int 1, .int 0, .int 0, .null, .null, .int 0, .int 0]))]) := hD
  refine lv_aload_n hx hb dX1_init_9 rfl (lv_at hl 0 rfl) ?_
  refine lv_bipush (v := 32) hx hb dX1_init_10 (by decide) ?_
  refine va_newa (atype := .int) (ty := .int) (N' := 32) (a0 := (32, .inl (fun _ => 0))) hx hb (hts (.arrayClass .int) (by decide +kernel)) rfl hK hP hD hS hA (fun _ => rfl) (by decide) (by decide) (by decide) (Nat.le_of_ble_eq_true rfl) (Nat.le_of_ble_eq_true rfl) dX1_init_12 (fun q1 k1 H hK hP hD hS => ?_)
  refine W.widen (k := 1) (n := 32) (by omega) (by omega) ?_
  have hP : va_P (dC, dI) vwCl ([(h0, .inr (1, [.int 0, .int 0, .int 0, .int 0, .int 0, .int 0, .int 0, .int 1, .int 0, .int 0, .null, .null, .int 0, .int 0])), (q1, .inl (k1, 32, .inl (fun _ => 0)))]) H := hP
  have hD : va_D A ([(h0, .inr (1, [.int 0, .int 0, .int 0, .int 0, .int 0, .int 0, .int 0, .int 1, .int 0, .int 0, .null, .null, .int 0, .int 0])), (q1, .inl (k1, 32, .inl (fun _ => 0)))]) := hD
  have hK : va_K (dC, dI) vwCl [(k1, .int)] s := hK
  refine va_putF (D := (dC, dI)) (ci := 1) (v := .ref q1) (ty := .array .int) (C := RX1) (T := TX1) (N := 14) hx hb hts (fun _ h => List.mem_cons_of_mem _ (List.mem_append_right _ h)) tyX1 tyX1_ok nmX1 hown hK hP hD hS 0 rfl rfl 10 (by decide) (hts (.fieldLink RX1 13 "RetiredTimerModel" "counts" "[I") (by decide +kernel)) (fun _ h9 => h9) rfl hin rfl (by decide +kernel) rfl rfl (Nat.le_of_ble_eq_true rfl) dX1_init_14 (fun H locs hP hD hS => ?_)
  have hP : va_P (dC, dI) vwCl ([(h0, .inr (1, [.int 0, .int 0, .int 0, .int 0, .int 0, .int 0, .int 0, .int 1, .int 0, .int 0, .ref q1, .null, .int 0, .int 0])), (q1, .inl (k1, 32, .inl (fun _ => 0)))]) H := hP
  have hD : va_D A ([(h0, .inr (1, [.int 0, .int 0, .int 0, .int 0, .int 0, .int 0, .int 0, .int 1, .int 0, .int 0, .ref q1, .null, .int 0, .int 0])), (q1, .inl (k1, 32, .inl (fun _ => 0)))]) := hD
  refine lv_aload_n hx hb dX1_init_17 rfl (lv_at hl 0 rfl) ?_
  refine lv_bipush (v := 32) hx hb dX1_init_18 (by decide) ?_
  refine va_newa (atype := .int) (ty := .int) (N' := 32) (a0 := (32, .inl (fun _ => 0))) hx hb (hts (.arrayClass .int) (by decide +kernel)) rfl hK hP hD hS hA (fun _ => rfl) (by decide) (by decide) (by decide) (Nat.le_of_ble_eq_true rfl) (Nat.le_of_ble_eq_true rfl) dX1_init_20 (fun q2 k2 H hK hP hD hS => ?_)
  refine W.widen (k := 2) (n := 64) (by omega) (by omega) ?_
  have hP : va_P (dC, dI) vwCl ([(h0, .inr (1, [.int 0, .int 0, .int 0, .int 0, .int 0, .int 0, .int 0, .int 1, .int 0, .int 0, .ref q1, .null, .int 0, .int 0])), (q1, .inl (k1, 32, .inl (fun _ => 0))), (q2, .inl (k2, 32, .inl (fun _ => 0)))]) H := hP
  have hD : va_D A ([(h0, .inr (1, [.int 0, .int 0, .int 0, .int 0, .int 0, .int 0, .int 0, .int 1, .int 0, .int 0, .ref q1, .null, .int 0, .int 0])), (q1, .inl (k1, 32, .inl (fun _ => 0))), (q2, .inl (k2, 32, .inl (fun _ => 0)))]) := hD
  have hK : va_K (dC, dI) vwCl [(k1, .int), (k2, .int)] s := hK
  refine va_putF (D := (dC, dI)) (ci := 1) (v := .ref q2) (ty := .array .int) (C := RX1) (T := TX1) (N := 14) hx hb hts (fun _ h => List.mem_cons_of_mem _ (List.mem_append_right _ h)) tyX1 tyX1_ok nmX1 hown hK hP hD hS 0 rfl rfl 11 (by decide) (hts (.fieldLink RX1 17 "RetiredTimerModel" "values" "[I") (by decide +kernel)) (fun _ h9 => h9) rfl hin rfl (by decide +kernel) rfl rfl (Nat.le_of_ble_eq_true rfl) dX1_init_22 (fun H locs hP hD hS => ?_)
  have hP : va_P (dC, dI) vwCl ([(h0, .inr (1, [.int 0, .int 0, .int 0, .int 0, .int 0, .int 0, .int 0, .int 1, .int 0, .int 0, .ref q1, .ref q2, .int 0, .int 0])), (q1, .inl (k1, 32, .inl (fun _ => 0))), (q2, .inl (k2, 32, .inl (fun _ => 0)))]) H := hP
  have hD : va_D A ([(h0, .inr (1, [.int 0, .int 0, .int 0, .int 0, .int 0, .int 0, .int 0, .int 1, .int 0, .int 0, .ref q1, .ref q2, .int 0, .int 0])), (q1, .inl (k1, 32, .inl (fun _ => 0))), (q2, .inl (k2, 32, .inl (fun _ => 0)))]) := hD
  have hP : va_P (dC, dI) vwCl (rt_mw h0 q1 q2 k1 k2 (fun _ => 0) (fun _ => 0) 0 0 0 0 0 0 0 1 0 0 0) H := hP
  have hD : va_D A (rt_mw h0 q1 q2 k1 k2 (fun _ => 0) (fun _ => 0) 0 0 0 0 0 0 0 1 0 0 0) := hD
  exact W.vret hx hb hr (fun t ht hW => ⟨⟨(q1, q2, k1, k2), rfl, trivial, by rw [ht]; exact hP, va_K.moved hW.alike hK, hD⟩, hS.F ht⟩) hS.2.2 dX1_init_25
end
section
-- ===== end of PART A; then your names; then what follows =====
/-! THE CLAIM OUT OF ONE WALK OF THE LAW'S BODY. Your part is whole_start (and what it stands on); all else here is the same for every law, but numbers. -/
def R_law : String := "RetiredTimerLaw"
def lw_P (b : Addr) (xs : List Int32) (args : Array Value) (s : State) : Prop := args = #[.ref b] ∧ s.IntsAt b xs ∧ xs.length ≤ 2048 ∧ (Jvm.Cond.and given_1 narrow_1).before args s = true
def lw_Q (_ : Array Value) (s : State) (o : Outcome) (t : State) : Prop := o = .returned (some (.int 1)) ∧ Framed s o t [] 6 154
def lw_Z (below : List Frame) (a : Array Value) (s : State) : State → Prop := fun t => ∃ o, t.status = .running ∧ Ended t below o ∧ lw_Q a s o t
/-- the law's own end, with 1 on the stack, nothing written that was there before, its room as the claim has it -/
theorem lw_ret {p : Program} {l : Launch} {e : Env} {s : State} {m : MethodId} {below : List Frame} {meth : Method} {c : Code} {b : Nat} (hx : p.tables.exec = Jvm.exec) (hb : c.code = code) (hr : meth.sig.returnType = ret) (hlocks : meth.locks = false) {pc : Nat} {H : Heap} {ls : Array Slot} (hdg : decode code pc = .ok (.ireturn, 1)) : W p l e room_1 s m #[Value.ref b] below meth c H [] 6 154 (lw_Z below #[Value.ref b] s) (F0 m pc ls [.int 1]) := by
  intro T hT X
  obtain ⟨fs, hret, hrun, hended, hW, hframe⟩ := X.leave (v := some (.int 1)) (hlocks := hlocks) (fun h => by rw [hr] at h; cases h)
  have hmeth' : T.vm.method? m = some meth := X.method'
  refine ⟨T.setFrames fs, ?_, .returned (some (.int 1)), hrun, hended, rfl, ⟨_, rfl⟩, hW, hframe⟩
  jvm_step X.here [X.here.top, hx, hb, hdg, hmeth', hr, ret, narrow_b1]
  (try refine ⟨rfl, ?_⟩); (try refine ⟨rfl, ?_⟩)
  first | (intro acts; rw [hret _ acts rfl rfl rfl]) | rw [hret _ _ rfl rfl rfl]
  exact Steps.refl _
/-- what holds at the law's entry: the machine, the code, the tables' words (any of lw_tbl by 'hts w (by decide +kernel)'), the script of L ints xs at the cell b, what the Statement gives of the start (any of its parts by flat_of_before) -/
def lw_At (p : Program) (s : State) (m : MethodId) (meth : Method) (c : Code) (b L : Nat) (xs : Nat → Int32) : Prop :=
  p.tables.exec = Jvm.exec ∧ c.code = code ∧ meth.sig.returnType = ret ∧ c.maxLocals = 4 ∧ s.vm.findClass R_law = some m.cls ∧ (∀ w ∈ lw_tbl, w.before #[Value.ref b] s = true) ∧ va_X b L xs s s.heap ∧ b < s.heap.size ∧ meth.locks = false ∧ (Jvm.Cond.and given_1 narrow_1).before #[Value.ref b] s = true
end
section
set_option maxHeartbeats 4000000 in
set_option maxRecDepth 100000 in
theorem law_c0 {p : Program} {l : Launch} {e0 : Env} {s : State} {m : MethodId} {below : List Frame} {meth : Method} {c : Code} {dC : Nat → ClassId} {dI : Nat → Nat → Nat} {b L : Nat} {xs : Nat → Int32} (hL : L ≤ 2048) (C0 : lw_At p s m meth c b L xs) {q0 q1 q2 q3 q4 q5 : Nat} {k1 k2 k3 k4 : ClassId} (hK : va_K (dC, dI) vwCl [(k1, .int), (k2, .int), (k3, .int), (k4, .int)] s) {i : Nat} (hi : i + 4 ≤ L) (kk : ∀ (f g : Nat → Int32) (en rn kn pn : Nat) (cnt cng pnd msk sr sav tkn : Int32), rt_Inv f en rn kn pn → ∀ (H : Heap) (locs : List Loc) (ls : Array Slot), va_P (dC, dI) vwCl (rt_xw q0 q1 q2 k1 k2 f g (nI en) (nI rn) cnt (nI pn) cng pnd msk sr sav tkn ++ rt_mw q3 q4 q5 k3 k4 f g (nI en) (nI rn) cnt (nI pn) cng pnd msk sr sav tkn (nI kn)) H → va_D (fun q : Nat => s.heap.size ≤ q) (rt_xw q0 q1 q2 k1 k2 f g (nI en) (nI rn) cnt (nI pn) cng pnd msk sr sav tkn ++ rt_mw q3 q4 q5 k3 k4 f g (nI en) (nI rn) cnt (nI pn) cng pnd msk sr sav tkn (nI kn)) → va_S (fun q : Nat => s.heap.size ≤ q) s.heap H locs → lv_has ls 4 [(0, .ref b), (1, .ref q0), (2, .ref q3), (3, .int (nI i))] → W p l e0 room_1 s m #[Value.ref b] below meth c H locs 6 154 (lw_Z below #[Value.ref b] s) (F0 m 435 ls [])) :
    ∀ (f g : Nat → Int32) (en rn kn pn : Nat) (cnt cng pnd msk sr sav tkn : Int32), rt_Inv f en rn kn pn → ∀ (H : Heap) (locs : List Loc) (ls : Array Slot), va_P (dC, dI) vwCl (rt_xw q0 q1 q2 k1 k2 f g (nI en) (nI rn) cnt (nI pn) cng pnd msk sr sav tkn ++ rt_mw q3 q4 q5 k3 k4 f g (nI en) (nI rn) cnt (nI pn) cng pnd msk sr sav tkn (nI kn)) H → va_D (fun q : Nat => s.heap.size ≤ q) (rt_xw q0 q1 q2 k1 k2 f g (nI en) (nI rn) cnt (nI pn) cng pnd msk sr sav tkn ++ rt_mw q3 q4 q5 k3 k4 f g (nI en) (nI rn) cnt (nI pn) cng pnd msk sr sav tkn (nI kn)) → va_S (fun q : Nat => s.heap.size ≤ q) s.heap H locs → lv_has ls 4 [(0, .ref b), (1, .ref q0), (2, .ref q3), (3, .int (nI i))] → W p l e0 room_1 s m #[Value.ref b] below meth c H locs 6 154 (lw_Z below #[Value.ref b] s) (F0 m 100 ls []) := by
  obtain ⟨hx, hb, hr, hml, hown, htb, hX, hbl, hlocks, hgv⟩ := C0
  have hts := fun w h => htb w (wsL_law_in w h)
  have hA : ∀ q : Nat, s.heap.size ≤ q → (fun q : Nat => s.heap.size ≤ q) q := fun _ h => h
  have hbA : ¬ (fun q : Nat => s.heap.size ≤ q) b := Nat.not_le.mpr hbl
  intro f g en rn kn pn cnt cng pnd msk sr sav tkn hI H locs ls hP hD hS hl
  obtain ⟨h32, hrl, hpl, hs, hc⟩ := id hI
  refine lv_aload_n hx hb dL_law_100 rfl (lv_at hl 1 rfl) ?_
  refine lv_aload_n hx hb dL_law_101 rfl (lv_at hl 0 rfl) ?_
  refine lv_iload_n hx hb dL_law_102 rfl (lv_at hl 3 rfl) ?_
  refine lv_iconst (v := 1) hx hb dL_law_103 (by decide) ?_
  refine lv_iadd hx hb dL_law_104 ?_
  refine va_sld hx hb hX hbl hbA hS (rt_in1 hi hL) dL_law_105 ?_
  refine lv_aload_n hx hb dL_law_106 rfl (lv_at hl 0 rfl) ?_
  refine lv_iload_n hx hb dL_law_107 rfl (lv_at hl 3 rfl) ?_
  refine lv_iconst (v := 2) hx hb dL_law_108 (by decide) ?_
  refine lv_iadd hx hb dL_law_109 ?_
  refine va_sld hx hb hX hbl hbA hS (rt_in2 hi hL) dL_law_110 ?_
  have hPc := hP.sub (ws' := rt_xw q0 q1 q2 k1 k2 f g (nI en) (nI rn) cnt (nI pn) cng pnd msk sr sav tkn) [0, 1, 2] rfl
  have hDc := hD.sub (ws' := rt_xw q0 q1 q2 k1 k2 f g (nI en) (nI rn) cnt (nI pn) cng pnd msk sr sav tkn) [0, 1, 2] (by decide) rfl
  have hKc := hK.sub (tys' := [(k1, .int), (k2, .int)]) [0, 1] rfl
  have hFc := va_free (wc := rt_xw q0 q1 q2 k1 k2 f g (nI en) (nI rn) cnt (nI pn) cng pnd msk sr sav tkn) hD hS hA [0, 1, 2] rfl
  refine va_calli (va_runV (As := [.int (xs ((nI i) + 1).toNatClampNeg), .int (xs ((nI i) + 2).toNatClampNeg)]) (rest := []) ⟨hx, hb, hml, hown, hts⟩ (c_X_entry l dC dI q0 q1 q2 H.size k1 k2 f g (nI en) (nI rn) cnt (nI pn) cng pnd msk sr sav tkn (xs ((nI i) + 1).toNatClampNeg) (xs ((nI i) + 2).toNatClampNeg) en rfl h32) (cwV 2 hts gL_law_X0_entry rfl rfl rfl (by decide +kernel) ⟨Nat.le_of_ble_eq_true rfl, Nat.le_of_ble_eq_true rfl⟩) ⟨fun a U g mk q => by obtain ⟨q0, q1, qP, qK, qD⟩ := q; exact ⟨q0, q1, qP, va_K.moved (u := U) (U := U.calling g mk a) (Vm.Alike.refl U.vm) qK, qD⟩, va_recv hKc hPc (ci := 0) (q0 := 0) rfl rfl, fun U hU hW => ⟨rfl, by rw [hU], by rw [hU]; exact hPc, va_K.moved hW.alike hKc, hDc.weaken (fun _ _ _ _ => trivial)⟩⟩ rfl rfl hl.1 rfl (lv_room (Nat.le_of_ble_eq_true rfl)) dL_law_111 ⟨Nat.le_of_ble_eq_true rfl, Nat.le_of_ble_eq_true rfl⟩) hS (fun q _ h => hFc q h) hFc (fun r_111 u t H1 locs ht hvm hw_111 hB hz1 hk1 hS => ?_)
  obtain ⟨f_111, g_111, ent_111⟩ := u
  obtain ⟨hP1, hK1, hD1⟩ := hB
  rw [ht] at hP1
  try dsimp only at hw_111 hP1 hD1
  obtain ⟨hP, hD⟩ := va_join (wr := rt_mw q3 q4 q5 k3 k4 f g (nI en) (nI rn) cnt (nI pn) cng pnd msk sr sav tkn (nI kn)) (w1 := rt_xw q0 q1 q2 k1 k2 f_111 g_111 ent_111 (nI rn) cnt (nI pn) cng pnd msk sr sav tkn) hP hD [0, 1, 2] [3, 4, 5] rfl rfl (by decide) (by decide) hk1 hFc hP1 hD1
  have hP := hP.sub (ws' := rt_xw q0 q1 q2 k1 k2 f_111 g_111 ent_111 (nI rn) cnt (nI pn) cng pnd msk sr sav tkn ++ rt_mw q3 q4 q5 k3 k4 f g (nI en) (nI rn) cnt (nI pn) cng pnd msk sr sav tkn (nI kn)) [3, 4, 5, 0, 1, 2] rfl
  have hD := hD.sub (ws' := rt_xw q0 q1 q2 k1 k2 f_111 g_111 ent_111 (nI rn) cnt (nI pn) cng pnd msk sr sav tkn ++ rt_mw q3 q4 q5 k3 k4 f g (nI en) (nI rn) cnt (nI pn) cng pnd msk sr sav tkn (nI kn)) [3, 4, 5, 0, 1, 2] (by decide) rfl
  generalize H1 = H at hP hS ⊢
  have hP : va_P (dC, dI) vwCl (rt_xw q0 q1 q2 k1 k2 f_111 g_111 ent_111 (nI rn) cnt (nI pn) cng pnd msk sr sav tkn ++ rt_mw q3 q4 q5 k3 k4 f g (nI en) (nI rn) cnt (nI pn) cng pnd msk sr sav tkn (nI kn)) H := hP
  have hD : va_D (fun q : Nat => s.heap.size ≤ q) (rt_xw q0 q1 q2 k1 k2 f_111 g_111 ent_111 (nI rn) cnt (nI pn) cng pnd msk sr sav tkn ++ rt_mw q3 q4 q5 k3 k4 f g (nI en) (nI rn) cnt (nI pn) cng pnd msk sr sav tkn (nI kn)) := hD
  refine lv_aload_n hx hb dL_law_114 rfl (lv_at hl 2 rfl) ?_
  refine lv_aload_n hx hb dL_law_115 rfl (lv_at hl 0 rfl) ?_
  refine lv_iload_n hx hb dL_law_116 rfl (lv_at hl 3 rfl) ?_
  refine lv_iconst (v := 1) hx hb dL_law_117 (by decide) ?_
  refine lv_iadd hx hb dL_law_118 ?_
  refine va_sld hx hb hX hbl hbA hS (rt_in1 hi hL) dL_law_119 ?_
  refine lv_aload_n hx hb dL_law_120 rfl (lv_at hl 0 rfl) ?_
  refine lv_iload_n hx hb dL_law_121 rfl (lv_at hl 3 rfl) ?_
  refine lv_iconst (v := 2) hx hb dL_law_122 (by decide) ?_
  refine lv_iadd hx hb dL_law_123 ?_
  refine va_sld hx hb hX hbl hbA hS (rt_in2 hi hL) dL_law_124 ?_
  have hPc := hP.sub (ws' := rt_mw q3 q4 q5 k3 k4 f g (nI en) (nI rn) cnt (nI pn) cng pnd msk sr sav tkn (nI kn)) [3, 4, 5] rfl
  have hDc := hD.sub (ws' := rt_mw q3 q4 q5 k3 k4 f g (nI en) (nI rn) cnt (nI pn) cng pnd msk sr sav tkn (nI kn)) [3, 4, 5] (by decide) rfl
  have hKc := hK.sub (tys' := [(k3, .int), (k4, .int)]) [2, 3] rfl
  have hFc := va_free (wc := rt_mw q3 q4 q5 k3 k4 f g (nI en) (nI rn) cnt (nI pn) cng pnd msk sr sav tkn (nI kn)) hD hS hA [3, 4, 5] rfl
  refine va_calli (va_runV (As := [.int (xs ((nI i) + 1).toNatClampNeg), .int (xs ((nI i) + 2).toNatClampNeg)]) (rest := [.int r_111]) ⟨hx, hb, hml, hown, hts⟩ (c_M_entry l dC dI q3 q4 q5 H.size k3 k4 f g (nI en) (nI rn) cnt (nI pn) cng pnd msk sr sav tkn (nI kn) (xs ((nI i) + 1).toNatClampNeg) (xs ((nI i) + 2).toNatClampNeg) en rn kn rfl h32 rfl rfl hs hc) (cwV 2 hts gL_law_X1_entry rfl rfl rfl (by decide +kernel) ⟨Nat.le_of_ble_eq_true rfl, Nat.le_of_ble_eq_true rfl⟩) ⟨fun a U g mk q => by obtain ⟨q0, q1, qP, qK, qD⟩ := q; exact ⟨q0, q1, qP, va_K.moved (u := U) (U := U.calling g mk a) (Vm.Alike.refl U.vm) qK, qD⟩, va_recv hKc hPc (ci := 1) (q0 := 0) rfl rfl, fun U hU hW => ⟨rfl, by rw [hU], by rw [hU]; exact hPc, va_K.moved hW.alike hKc, hDc.weaken (fun _ _ _ _ => trivial)⟩⟩ rfl rfl hl.1 rfl (lv_room (Nat.le_of_ble_eq_true rfl)) dL_law_125 ⟨Nat.le_of_ble_eq_true rfl, Nat.le_of_ble_eq_true rfl⟩) hS (fun q _ h => hFc q h) hFc (fun r_125 u t H1 locs ht hvm hw_125 hB hz1 hk1 hS => ?_)
  obtain ⟨f_125, g_125, ent_125, com_125⟩ := u
  obtain ⟨hP1, hK1, hD1⟩ := hB
  rw [ht] at hP1
  try dsimp only at hw_125 hP1 hD1
  obtain ⟨hP, hD⟩ := va_join (wr := rt_xw q0 q1 q2 k1 k2 f_111 g_111 ent_111 (nI rn) cnt (nI pn) cng pnd msk sr sav tkn) (w1 := rt_mw q3 q4 q5 k3 k4 f_125 g_125 ent_125 (nI rn) cnt (nI pn) cng pnd msk sr sav tkn (nI com_125)) hP hD [3, 4, 5] [0, 1, 2] rfl rfl (by decide) (by decide) hk1 hFc hP1 hD1
  generalize H1 = H at hP hS ⊢
  have hP : va_P (dC, dI) vwCl (rt_xw q0 q1 q2 k1 k2 f_111 g_111 ent_111 (nI rn) cnt (nI pn) cng pnd msk sr sav tkn ++ rt_mw q3 q4 q5 k3 k4 f_125 g_125 ent_125 (nI rn) cnt (nI pn) cng pnd msk sr sav tkn (nI com_125)) H := hP
  have hD : va_D (fun q : Nat => s.heap.size ≤ q) (rt_xw q0 q1 q2 k1 k2 f_111 g_111 ent_111 (nI rn) cnt (nI pn) cng pnd msk sr sav tkn ++ rt_mw q3 q4 q5 k3 k4 f_125 g_125 ent_125 (nI rn) cnt (nI pn) cng pnd msk sr sav tkn (nI com_125)) := hD
  rcases hw_111 with ⟨x1, x2, x3, x4, x5⟩ | ⟨x1, x2, x3, x4, x5⟩
  · rcases hw_125 with ⟨y1, y2, y3, y4, y5, y6⟩ | ⟨y1, y2, y3, y4, y5, y6⟩
    · have hz9 := x2.symm
      subst hz9
      have hz9 := x3.symm
      subst hz9
      have hz9 := x4.symm
      subst hz9
      have hz9 := x5.symm
      subst hz9
      have hz9 := y2.symm
      subst hz9
      have hz9 := y3.symm
      subst hz9
      have hz9 := y4.symm
      subst hz9
      have hz9 := y5.symm
      subst hz9
      have hz9 := y6.symm
      subst hz9
      refine lv_icmp_eq (tgt := 435) hx hb dL_law_128 (by decide) (fun c_128 => ?_) (fun c_128 => absurd rfl c_128)
      exact kk f g en rn kn pn cnt cng pnd msk sr sav tkn hI H locs ls hP hD hS hl
    · exact absurd x1 y1
  · rcases hw_125 with ⟨y1, y2, y3, y4, y5, y6⟩ | ⟨y1, y2, y3, y4, y5, y6⟩
    · exact absurd y1 x1
    · have hz9 := x2.symm
      subst hz9
      have hz9 := x3.symm
      subst hz9
      have hz9 := x4.symm
      subst hz9
      have hz9 := x5.symm
      subst hz9
      have hz9 := y2.symm
      subst hz9
      have hz9 := y3.symm
      subst hz9
      have hz9 := y4.symm
      subst hz9
      have hz9 := y5.symm
      subst hz9
      refine lv_icmp_eq (tgt := 435) hx hb dL_law_128 (by decide) (fun c_128 => ?_) (fun c_128 => absurd rfl c_128)
      exact kk (upd f en (xs (nI i + 1).toNatClampNeg)) (upd g en (xs (nI i + 2).toNatClampNeg)) (en + 1) rn com_125 pn cnt cng pnd msk sr sav tkn ⟨by have : ¬ en = 32 := fun h => x1 (Or.inl h); omega, hrl, hpl, rt_srt_add hs x1, y6⟩ H locs ls hP hD hS hl
set_option maxHeartbeats 4000000 in
set_option maxRecDepth 100000 in
theorem law_c1 {p : Program} {l : Launch} {e0 : Env} {s : State} {m : MethodId} {below : List Frame} {meth : Method} {c : Code} {dC : Nat → ClassId} {dI : Nat → Nat → Nat} {b L : Nat} {xs : Nat → Int32} (hL : L ≤ 2048) (C0 : lw_At p s m meth c b L xs) {q0 q1 q2 q3 q4 q5 : Nat} {k1 k2 k3 k4 : ClassId} (hK : va_K (dC, dI) vwCl [(k1, .int), (k2, .int), (k3, .int), (k4, .int)] s) {i : Nat} (hi : i + 4 ≤ L) (kk : ∀ (f g : Nat → Int32) (en rn kn pn : Nat) (cnt cng pnd msk sr sav tkn : Int32), rt_Inv f en rn kn pn → ∀ (H : Heap) (locs : List Loc) (ls : Array Slot), va_P (dC, dI) vwCl (rt_xw q0 q1 q2 k1 k2 f g (nI en) (nI rn) cnt (nI pn) cng pnd msk sr sav tkn ++ rt_mw q3 q4 q5 k3 k4 f g (nI en) (nI rn) cnt (nI pn) cng pnd msk sr sav tkn (nI kn)) H → va_D (fun q : Nat => s.heap.size ≤ q) (rt_xw q0 q1 q2 k1 k2 f g (nI en) (nI rn) cnt (nI pn) cng pnd msk sr sav tkn ++ rt_mw q3 q4 q5 k3 k4 f g (nI en) (nI rn) cnt (nI pn) cng pnd msk sr sav tkn (nI kn)) → va_S (fun q : Nat => s.heap.size ≤ q) s.heap H locs → lv_has ls 4 [(0, .ref b), (1, .ref q0), (2, .ref q3), (3, .int (nI i))] → W p l e0 room_1 s m #[Value.ref b] below meth c H locs 6 154 (lw_Z below #[Value.ref b] s) (F0 m 435 ls [])) :
    ∀ (f g : Nat → Int32) (en rn kn pn : Nat) (cnt cng pnd msk sr sav tkn : Int32), rt_Inv f en rn kn pn → ∀ (H : Heap) (locs : List Loc) (ls : Array Slot), va_P (dC, dI) vwCl (rt_xw q0 q1 q2 k1 k2 f g (nI en) (nI rn) cnt (nI pn) cng pnd msk sr sav tkn ++ rt_mw q3 q4 q5 k3 k4 f g (nI en) (nI rn) cnt (nI pn) cng pnd msk sr sav tkn (nI kn)) H → va_D (fun q : Nat => s.heap.size ≤ q) (rt_xw q0 q1 q2 k1 k2 f g (nI en) (nI rn) cnt (nI pn) cng pnd msk sr sav tkn ++ rt_mw q3 q4 q5 k3 k4 f g (nI en) (nI rn) cnt (nI pn) cng pnd msk sr sav tkn (nI kn)) → va_S (fun q : Nat => s.heap.size ≤ q) s.heap H locs → lv_has ls 4 [(0, .ref b), (1, .ref q0), (2, .ref q3), (3, .int (nI i))] → W p l e0 room_1 s m #[Value.ref b] below meth c H locs 6 154 (lw_Z below #[Value.ref b] s) (F0 m 133 ls []) := by
  obtain ⟨hx, hb, hr, hml, hown, htb, hX, hbl, hlocks, hgv⟩ := C0
  have hts := fun w h => htb w (wsL_law_in w h)
  have hA : ∀ q : Nat, s.heap.size ≤ q → (fun q : Nat => s.heap.size ≤ q) q := fun _ h => h
  have hbA : ¬ (fun q : Nat => s.heap.size ≤ q) b := Nat.not_le.mpr hbl
  intro f g en rn kn pn cnt cng pnd msk sr sav tkn hI H locs ls hP hD hS hl
  obtain ⟨h32, hrl, hpl, hs, hc⟩ := id hI
  refine lv_aload_n hx hb dL_law_133 rfl (lv_at hl 1 rfl) ?_
  refine lv_aload_n hx hb dL_law_134 rfl (lv_at hl 0 rfl) ?_
  refine lv_iload_n hx hb dL_law_135 rfl (lv_at hl 3 rfl) ?_
  refine lv_iconst (v := 1) hx hb dL_law_136 (by decide) ?_
  refine lv_iadd hx hb dL_law_137 ?_
  refine va_sld hx hb hX hbl hbA hS (rt_in1 hi hL) dL_law_138 ?_
  have hPc := hP.sub (ws' := rt_xw q0 q1 q2 k1 k2 f g (nI en) (nI rn) cnt (nI pn) cng pnd msk sr sav tkn) [0, 1, 2] rfl
  have hDc := hD.sub (ws' := rt_xw q0 q1 q2 k1 k2 f g (nI en) (nI rn) cnt (nI pn) cng pnd msk sr sav tkn) [0, 1, 2] (by decide) rfl
  have hKc := hK.sub (tys' := [(k1, .int), (k2, .int)]) [0, 1] rfl
  have hFc := va_free (wc := rt_xw q0 q1 q2 k1 k2 f g (nI en) (nI rn) cnt (nI pn) cng pnd msk sr sav tkn) hD hS hA [0, 1, 2] rfl
  refine va_calli (va_runV (As := [.int (xs ((nI i) + 1).toNatClampNeg)]) (rest := []) ⟨hx, hb, hml, hown, hts⟩ (c_X_steps l dC dI q0 q1 q2 H.size k1 k2 f g (nI en) (nI rn) cnt (nI pn) cng pnd msk sr sav tkn (xs ((nI i) + 1).toNatClampNeg) en rn pn rfl h32 rfl hrl rfl hpl hs.2) (cwV 1 hts gL_law_X0_steps rfl rfl rfl (by decide +kernel) ⟨Nat.le_of_ble_eq_true rfl, Nat.le_of_ble_eq_true rfl⟩) ⟨fun a U g mk q => by obtain ⟨q0, q1, qP, qK, qD⟩ := q; exact ⟨q0, q1, qP, va_K.moved (u := U) (U := U.calling g mk a) (Vm.Alike.refl U.vm) qK, qD⟩, va_recv hKc hPc (ci := 0) (q0 := 0) rfl rfl, fun U hU hW => ⟨rfl, by rw [hU], by rw [hU]; exact hPc, va_K.moved hW.alike hKc, hDc.weaken (fun _ _ _ _ => trivial)⟩⟩ rfl rfl hl.1 rfl (lv_room (Nat.le_of_ble_eq_true rfl)) dL_law_139 ⟨Nat.le_of_ble_eq_true rfl, Nat.le_of_ble_eq_true rfl⟩) hS (fun q _ h => hFc q h) hFc (fun r_139 u t H1 locs ht hvm hw_139 hB hz1 hk1 hS => ?_)
  obtain ⟨ret_139, cnt_139, pnd_139⟩ := u
  obtain ⟨hP1, hK1, hD1⟩ := hB
  rw [ht] at hP1
  try dsimp only at hw_139 hP1 hD1
  obtain ⟨hP, hD⟩ := va_join (wr := rt_mw q3 q4 q5 k3 k4 f g (nI en) (nI rn) cnt (nI pn) cng pnd msk sr sav tkn (nI kn)) (w1 := rt_xw q0 q1 q2 k1 k2 f g (nI en) ret_139 cnt_139 (nI pn) cng pnd_139 msk sr sav tkn) hP hD [0, 1, 2] [3, 4, 5] rfl rfl (by decide) (by decide) hk1 hFc hP1 hD1
  have hP := hP.sub (ws' := rt_xw q0 q1 q2 k1 k2 f g (nI en) ret_139 cnt_139 (nI pn) cng pnd_139 msk sr sav tkn ++ rt_mw q3 q4 q5 k3 k4 f g (nI en) (nI rn) cnt (nI pn) cng pnd msk sr sav tkn (nI kn)) [3, 4, 5, 0, 1, 2] rfl
  have hD := hD.sub (ws' := rt_xw q0 q1 q2 k1 k2 f g (nI en) ret_139 cnt_139 (nI pn) cng pnd_139 msk sr sav tkn ++ rt_mw q3 q4 q5 k3 k4 f g (nI en) (nI rn) cnt (nI pn) cng pnd msk sr sav tkn (nI kn)) [3, 4, 5, 0, 1, 2] (by decide) rfl
  generalize H1 = H at hP hS ⊢
  have hP : va_P (dC, dI) vwCl (rt_xw q0 q1 q2 k1 k2 f g (nI en) ret_139 cnt_139 (nI pn) cng pnd_139 msk sr sav tkn ++ rt_mw q3 q4 q5 k3 k4 f g (nI en) (nI rn) cnt (nI pn) cng pnd msk sr sav tkn (nI kn)) H := hP
  have hD : va_D (fun q : Nat => s.heap.size ≤ q) (rt_xw q0 q1 q2 k1 k2 f g (nI en) ret_139 cnt_139 (nI pn) cng pnd_139 msk sr sav tkn ++ rt_mw q3 q4 q5 k3 k4 f g (nI en) (nI rn) cnt (nI pn) cng pnd msk sr sav tkn (nI kn)) := hD
  refine lv_aload_n hx hb dL_law_142 rfl (lv_at hl 2 rfl) ?_
  refine lv_aload_n hx hb dL_law_143 rfl (lv_at hl 0 rfl) ?_
  refine lv_iload_n hx hb dL_law_144 rfl (lv_at hl 3 rfl) ?_
  refine lv_iconst (v := 1) hx hb dL_law_145 (by decide) ?_
  refine lv_iadd hx hb dL_law_146 ?_
  refine va_sld hx hb hX hbl hbA hS (rt_in1 hi hL) dL_law_147 ?_
  have hPc := hP.sub (ws' := rt_mw q3 q4 q5 k3 k4 f g (nI en) (nI rn) cnt (nI pn) cng pnd msk sr sav tkn (nI kn)) [3, 4, 5] rfl
  have hDc := hD.sub (ws' := rt_mw q3 q4 q5 k3 k4 f g (nI en) (nI rn) cnt (nI pn) cng pnd msk sr sav tkn (nI kn)) [3, 4, 5] (by decide) rfl
  have hKc := hK.sub (tys' := [(k3, .int), (k4, .int)]) [2, 3] rfl
  have hFc := va_free (wc := rt_mw q3 q4 q5 k3 k4 f g (nI en) (nI rn) cnt (nI pn) cng pnd msk sr sav tkn (nI kn)) hD hS hA [3, 4, 5] rfl
  refine va_calli (va_runV (As := [.int (xs ((nI i) + 1).toNatClampNeg)]) (rest := [.int r_139]) ⟨hx, hb, hml, hown, hts⟩ (c_M_steps l dC dI q3 q4 q5 H.size k3 k4 f g (nI en) (nI rn) cnt (nI pn) cng pnd msk sr sav tkn (nI kn) (xs ((nI i) + 1).toNatClampNeg) en rn kn pn rfl h32 rfl rfl rfl hrl hpl hs hc) (cwV 1 hts gL_law_X1_steps rfl rfl rfl (by decide +kernel) ⟨Nat.le_of_ble_eq_true rfl, Nat.le_of_ble_eq_true rfl⟩) ⟨fun a U g mk q => by obtain ⟨q0, q1, qP, qK, qD⟩ := q; exact ⟨q0, q1, qP, va_K.moved (u := U) (U := U.calling g mk a) (Vm.Alike.refl U.vm) qK, qD⟩, va_recv hKc hPc (ci := 1) (q0 := 0) rfl rfl, fun U hU hW => ⟨rfl, by rw [hU], by rw [hU]; exact hPc, va_K.moved hW.alike hKc, hDc.weaken (fun _ _ _ _ => trivial)⟩⟩ rfl rfl hl.1 rfl (lv_room (Nat.le_of_ble_eq_true rfl)) dL_law_148 ⟨Nat.le_of_ble_eq_true rfl, Nat.le_of_ble_eq_true rfl⟩) hS (fun q _ h => hFc q h) hFc (fun r_148 u t H1 locs ht hvm hw_148 hB hz1 hk1 hS => ?_)
  obtain ⟨ret_148, cnt_148, pnd_148, com_148⟩ := u
  obtain ⟨hP1, hK1, hD1⟩ := hB
  rw [ht] at hP1
  try dsimp only at hw_148 hP1 hD1
  obtain ⟨hP, hD⟩ := va_join (wr := rt_xw q0 q1 q2 k1 k2 f g (nI en) ret_139 cnt_139 (nI pn) cng pnd_139 msk sr sav tkn) (w1 := rt_mw q3 q4 q5 k3 k4 f g (nI en) ret_148 cnt_148 (nI pn) cng pnd_148 msk sr sav tkn (nI com_148)) hP hD [3, 4, 5] [0, 1, 2] rfl rfl (by decide) (by decide) hk1 hFc hP1 hD1
  generalize H1 = H at hP hS ⊢
  have hP : va_P (dC, dI) vwCl (rt_xw q0 q1 q2 k1 k2 f g (nI en) ret_139 cnt_139 (nI pn) cng pnd_139 msk sr sav tkn ++ rt_mw q3 q4 q5 k3 k4 f g (nI en) ret_148 cnt_148 (nI pn) cng pnd_148 msk sr sav tkn (nI com_148)) H := hP
  have hD : va_D (fun q : Nat => s.heap.size ≤ q) (rt_xw q0 q1 q2 k1 k2 f g (nI en) ret_139 cnt_139 (nI pn) cng pnd_139 msk sr sav tkn ++ rt_mw q3 q4 q5 k3 k4 f g (nI en) ret_148 cnt_148 (nI pn) cng pnd_148 msk sr sav tkn (nI com_148)) := hD
  obtain ⟨x1, x2, x3, x4⟩ := hw_139
  obtain ⟨y1, y2, y3, y4, y5⟩ := hw_148
  have hz9 := x1.symm
  subst hz9
  have hz9 := x2.symm
  subst hz9
  have hz9 := x3.symm
  subst hz9
  have hz9 := x4.symm
  subst hz9
  have hz9 := y1.symm
  subst hz9
  have hz9 := y2.symm
  subst hz9
  have hz9 := y3.symm
  subst hz9
  have hz9 := y4.symm
  subst hz9
  refine lv_icmp_eq (tgt := 435) hx hb dL_law_151 (by decide) (fun c_151 => ?_) (fun c_151 => absurd (rfl) c_151)
  exact kk f g en (rn + rt_tn f g en rn cnt (nI pn) cng pnd msk sr (xs (nI i + 1).toNatClampNeg)) com_148 pn (rt_cc cng (nI pn) cnt (nI (rt_tn f g en rn cnt (nI pn) cng pnd msk sr (xs (nI i + 1).toNatClampNeg)))) cng (rt_cp cng (nI pn) cnt pnd (nI (rt_tn f g en rn cnt (nI pn) cng pnd msk sr (xs (nI i + 1).toNatClampNeg)))) msk sr sav tkn (⟨h32, rt_tn_bound hrl hpl hs.2, hpl, hs, y5⟩) H locs ls hP hD hS hl
set_option maxHeartbeats 4000000 in
set_option maxRecDepth 100000 in
theorem law_c2 {p : Program} {l : Launch} {e0 : Env} {s : State} {m : MethodId} {below : List Frame} {meth : Method} {c : Code} {dC : Nat → ClassId} {dI : Nat → Nat → Nat} {b L : Nat} {xs : Nat → Int32} (hL : L ≤ 2048) (C0 : lw_At p s m meth c b L xs) {q0 q1 q2 q3 q4 q5 : Nat} {k1 k2 k3 k4 : ClassId} (hK : va_K (dC, dI) vwCl [(k1, .int), (k2, .int), (k3, .int), (k4, .int)] s) {i : Nat} (hi : i + 4 ≤ L) (kk : ∀ (f g : Nat → Int32) (en rn kn pn : Nat) (cnt cng pnd msk sr sav tkn : Int32), rt_Inv f en rn kn pn → ∀ (H : Heap) (locs : List Loc) (ls : Array Slot), va_P (dC, dI) vwCl (rt_xw q0 q1 q2 k1 k2 f g (nI en) (nI rn) cnt (nI pn) cng pnd msk sr sav tkn ++ rt_mw q3 q4 q5 k3 k4 f g (nI en) (nI rn) cnt (nI pn) cng pnd msk sr sav tkn (nI kn)) H → va_D (fun q : Nat => s.heap.size ≤ q) (rt_xw q0 q1 q2 k1 k2 f g (nI en) (nI rn) cnt (nI pn) cng pnd msk sr sav tkn ++ rt_mw q3 q4 q5 k3 k4 f g (nI en) (nI rn) cnt (nI pn) cng pnd msk sr sav tkn (nI kn)) → va_S (fun q : Nat => s.heap.size ≤ q) s.heap H locs → lv_has ls 4 [(0, .ref b), (1, .ref q0), (2, .ref q3), (3, .int (nI i))] → W p l e0 room_1 s m #[Value.ref b] below meth c H locs 6 154 (lw_Z below #[Value.ref b] s) (F0 m 435 ls [])) :
    ∀ (f g : Nat → Int32) (en rn kn pn : Nat) (cnt cng pnd msk sr sav tkn : Int32), rt_Inv f en rn kn pn → ∀ (H : Heap) (locs : List Loc) (ls : Array Slot), va_P (dC, dI) vwCl (rt_xw q0 q1 q2 k1 k2 f g (nI en) (nI rn) cnt (nI pn) cng pnd msk sr sav tkn ++ rt_mw q3 q4 q5 k3 k4 f g (nI en) (nI rn) cnt (nI pn) cng pnd msk sr sav tkn (nI kn)) H → va_D (fun q : Nat => s.heap.size ≤ q) (rt_xw q0 q1 q2 k1 k2 f g (nI en) (nI rn) cnt (nI pn) cng pnd msk sr sav tkn ++ rt_mw q3 q4 q5 k3 k4 f g (nI en) (nI rn) cnt (nI pn) cng pnd msk sr sav tkn (nI kn)) → va_S (fun q : Nat => s.heap.size ≤ q) s.heap H locs → lv_has ls 4 [(0, .ref b), (1, .ref q0), (2, .ref q3), (3, .int (nI i))] → W p l e0 room_1 s m #[Value.ref b] below meth c H locs 6 154 (lw_Z below #[Value.ref b] s) (F0 m 156 ls []) := by
  obtain ⟨hx, hb, hr, hml, hown, htb, hX, hbl, hlocks, hgv⟩ := C0
  have hts := fun w h => htb w (wsL_law_in w h)
  have hA : ∀ q : Nat, s.heap.size ≤ q → (fun q : Nat => s.heap.size ≤ q) q := fun _ h => h
  have hbA : ¬ (fun q : Nat => s.heap.size ≤ q) b := Nat.not_le.mpr hbl
  intro f g en rn kn pn cnt cng pnd msk sr sav tkn hI H locs ls hP hD hS hl
  obtain ⟨h32, hrl, hpl, hs, hc⟩ := id hI
  refine lv_aload_n hx hb dL_law_156 rfl (lv_at hl 1 rfl) ?_
  have hPc := hP.sub (ws' := rt_xw q0 q1 q2 k1 k2 f g (nI en) (nI rn) cnt (nI pn) cng pnd msk sr sav tkn) [0, 1, 2] rfl
  have hDc := hD.sub (ws' := rt_xw q0 q1 q2 k1 k2 f g (nI en) (nI rn) cnt (nI pn) cng pnd msk sr sav tkn) [0, 1, 2] (by decide) rfl
  have hKc := hK.sub (tys' := [(k1, .int), (k2, .int)]) [0, 1] rfl
  have hFc := va_free (wc := rt_xw q0 q1 q2 k1 k2 f g (nI en) (nI rn) cnt (nI pn) cng pnd msk sr sav tkn) hD hS hA [0, 1, 2] rfl
  refine va_calli (va_runV (As := []) (rest := []) ⟨hx, hb, hml, hown, hts⟩ (c_X_take l dC dI q0 q1 q2 H.size k1 k2 f g (nI en) (nI rn) cnt (nI pn) cng pnd msk sr sav tkn en rfl h32) (cwV 0 hts gL_law_X0_take rfl rfl rfl (by decide +kernel) ⟨Nat.le_of_ble_eq_true rfl, Nat.le_of_ble_eq_true rfl⟩) ⟨fun a U g mk q => by obtain ⟨q0, q1, qP, qK, qD⟩ := q; exact ⟨q0, q1, qP, va_K.moved (u := U) (U := U.calling g mk a) (Vm.Alike.refl U.vm) qK, qD⟩, va_recv hKc hPc (ci := 0) (q0 := 0) rfl rfl, fun U hU hW => ⟨rfl, by rw [hU], by rw [hU]; exact hPc, va_K.moved hW.alike hKc, hDc.weaken (fun _ _ _ _ => trivial)⟩⟩ rfl rfl hl.1 rfl (lv_room (Nat.le_of_ble_eq_true rfl)) dL_law_157 ⟨Nat.le_of_ble_eq_true rfl, Nat.le_of_ble_eq_true rfl⟩) hS (fun q _ h => hFc q h) hFc (fun r_157 u t H1 locs ht hvm hw_157 hB hz1 hk1 hS => ?_)
  obtain ⟨sr_157, sav_157, tkn_157⟩ := u
  obtain ⟨hP1, hK1, hD1⟩ := hB
  rw [ht] at hP1
  try dsimp only at hw_157 hP1 hD1
  obtain ⟨hP, hD⟩ := va_join (wr := rt_mw q3 q4 q5 k3 k4 f g (nI en) (nI rn) cnt (nI pn) cng pnd msk sr sav tkn (nI kn)) (w1 := rt_xw q0 q1 q2 k1 k2 f g (nI en) (nI rn) cnt (nI pn) cng pnd msk sr_157 sav_157 tkn_157) hP hD [0, 1, 2] [3, 4, 5] rfl rfl (by decide) (by decide) hk1 hFc hP1 hD1
  have hP := hP.sub (ws' := rt_xw q0 q1 q2 k1 k2 f g (nI en) (nI rn) cnt (nI pn) cng pnd msk sr_157 sav_157 tkn_157 ++ rt_mw q3 q4 q5 k3 k4 f g (nI en) (nI rn) cnt (nI pn) cng pnd msk sr sav tkn (nI kn)) [3, 4, 5, 0, 1, 2] rfl
  have hD := hD.sub (ws' := rt_xw q0 q1 q2 k1 k2 f g (nI en) (nI rn) cnt (nI pn) cng pnd msk sr_157 sav_157 tkn_157 ++ rt_mw q3 q4 q5 k3 k4 f g (nI en) (nI rn) cnt (nI pn) cng pnd msk sr sav tkn (nI kn)) [3, 4, 5, 0, 1, 2] (by decide) rfl
  generalize H1 = H at hP hS ⊢
  have hP : va_P (dC, dI) vwCl (rt_xw q0 q1 q2 k1 k2 f g (nI en) (nI rn) cnt (nI pn) cng pnd msk sr_157 sav_157 tkn_157 ++ rt_mw q3 q4 q5 k3 k4 f g (nI en) (nI rn) cnt (nI pn) cng pnd msk sr sav tkn (nI kn)) H := hP
  have hD : va_D (fun q : Nat => s.heap.size ≤ q) (rt_xw q0 q1 q2 k1 k2 f g (nI en) (nI rn) cnt (nI pn) cng pnd msk sr_157 sav_157 tkn_157 ++ rt_mw q3 q4 q5 k3 k4 f g (nI en) (nI rn) cnt (nI pn) cng pnd msk sr sav tkn (nI kn)) := hD
  refine lv_aload_n hx hb dL_law_160 rfl (lv_at hl 2 rfl) ?_
  have hPc := hP.sub (ws' := rt_mw q3 q4 q5 k3 k4 f g (nI en) (nI rn) cnt (nI pn) cng pnd msk sr sav tkn (nI kn)) [3, 4, 5] rfl
  have hDc := hD.sub (ws' := rt_mw q3 q4 q5 k3 k4 f g (nI en) (nI rn) cnt (nI pn) cng pnd msk sr sav tkn (nI kn)) [3, 4, 5] (by decide) rfl
  have hKc := hK.sub (tys' := [(k3, .int), (k4, .int)]) [2, 3] rfl
  have hFc := va_free (wc := rt_mw q3 q4 q5 k3 k4 f g (nI en) (nI rn) cnt (nI pn) cng pnd msk sr sav tkn (nI kn)) hD hS hA [3, 4, 5] rfl
  refine va_calli (va_runV (As := []) (rest := [.int r_157]) ⟨hx, hb, hml, hown, hts⟩ (c_M_take l dC dI q3 q4 q5 H.size k3 k4 f g (nI en) (nI rn) cnt (nI pn) cng pnd msk sr sav tkn (nI kn) kn rfl (by have := hc.1; omega)) (cwV 0 hts gL_law_X1_take rfl rfl rfl (by decide +kernel) ⟨Nat.le_of_ble_eq_true rfl, Nat.le_of_ble_eq_true rfl⟩) ⟨fun a U g mk q => by obtain ⟨q0, q1, qP, qK, qD⟩ := q; exact ⟨q0, q1, qP, va_K.moved (u := U) (U := U.calling g mk a) (Vm.Alike.refl U.vm) qK, qD⟩, va_recv hKc hPc (ci := 1) (q0 := 0) rfl rfl, fun U hU hW => ⟨rfl, by rw [hU], by rw [hU]; exact hPc, va_K.moved hW.alike hKc, hDc.weaken (fun _ _ _ _ => trivial)⟩⟩ rfl rfl hl.1 rfl (lv_room (Nat.le_of_ble_eq_true rfl)) dL_law_161 ⟨Nat.le_of_ble_eq_true rfl, Nat.le_of_ble_eq_true rfl⟩) hS (fun q _ h => hFc q h) hFc (fun r_161 u t H1 locs ht hvm hw_161 hB hz1 hk1 hS => ?_)
  obtain ⟨sr_161, sav_161, tkn_161⟩ := u
  obtain ⟨hP1, hK1, hD1⟩ := hB
  rw [ht] at hP1
  try dsimp only at hw_161 hP1 hD1
  obtain ⟨hP, hD⟩ := va_join (wr := rt_xw q0 q1 q2 k1 k2 f g (nI en) (nI rn) cnt (nI pn) cng pnd msk sr_157 sav_157 tkn_157) (w1 := rt_mw q3 q4 q5 k3 k4 f g (nI en) (nI rn) cnt (nI pn) cng pnd msk sr_161 sav_161 tkn_161 (nI kn)) hP hD [3, 4, 5] [0, 1, 2] rfl rfl (by decide) (by decide) hk1 hFc hP1 hD1
  generalize H1 = H at hP hS ⊢
  have hP : va_P (dC, dI) vwCl (rt_xw q0 q1 q2 k1 k2 f g (nI en) (nI rn) cnt (nI pn) cng pnd msk sr_157 sav_157 tkn_157 ++ rt_mw q3 q4 q5 k3 k4 f g (nI en) (nI rn) cnt (nI pn) cng pnd msk sr_161 sav_161 tkn_161 (nI kn)) H := hP
  have hD : va_D (fun q : Nat => s.heap.size ≤ q) (rt_xw q0 q1 q2 k1 k2 f g (nI en) (nI rn) cnt (nI pn) cng pnd msk sr_157 sav_157 tkn_157 ++ rt_mw q3 q4 q5 k3 k4 f g (nI en) (nI rn) cnt (nI pn) cng pnd msk sr_161 sav_161 tkn_161 (nI kn)) := hD
  rw [rt_pl_now hc] at hw_157
  obtain ⟨x1, x2, x3, x4⟩ := hw_157
  obtain ⟨y1, y2, y3, y4⟩ := hw_161
  have hz9 := x1.symm
  subst hz9
  have hz9 := x2.symm
  subst hz9
  have hz9 := x3.symm
  subst hz9
  have hz9 := x4.symm
  subst hz9
  have hz9 := y1.symm
  subst hz9
  have hz9 := y2.symm
  subst hz9
  have hz9 := y3.symm
  subst hz9
  have hz9 := y4.symm
  subst hz9
  refine lv_icmp_eq (tgt := 435) hx hb dL_law_164 (by decide) (fun c_164 => ?_) (fun c_164 => absurd (rfl) c_164)
  exact kk f g en rn kn pn cnt cng pnd msk (if rt_due sr pnd (rt_now g kn) msk = 0 then sr else (sr &&& 32) ||| 1) (if rt_due sr pnd (rt_now g kn) msk = 0 then sav else sr) (if rt_due sr pnd (rt_now g kn) msk = 0 then tkn else tkn + 1) (hI) H locs ls hP hD hS hl
end
section
set_option maxHeartbeats 4000000 in
set_option maxRecDepth 100000 in
theorem law_c3 {p : Program} {l : Launch} {e0 : Env} {s : State} {m : MethodId} {below : List Frame} {meth : Method} {c : Code} {dC : Nat → ClassId} {dI : Nat → Nat → Nat} {b L : Nat} {xs : Nat → Int32} (hL : L ≤ 2048) (C0 : lw_At p s m meth c b L xs) {q0 q1 q2 q3 q4 q5 : Nat} {k1 k2 k3 k4 : ClassId} (hK : va_K (dC, dI) vwCl [(k1, .int), (k2, .int), (k3, .int), (k4, .int)] s) {i : Nat} (hi : i + 4 ≤ L) (kk : ∀ (f g : Nat → Int32) (en rn kn pn : Nat) (cnt cng pnd msk sr sav tkn : Int32), rt_Inv f en rn kn pn → ∀ (H : Heap) (locs : List Loc) (ls : Array Slot), va_P (dC, dI) vwCl (rt_xw q0 q1 q2 k1 k2 f g (nI en) (nI rn) cnt (nI pn) cng pnd msk sr sav tkn ++ rt_mw q3 q4 q5 k3 k4 f g (nI en) (nI rn) cnt (nI pn) cng pnd msk sr sav tkn (nI kn)) H → va_D (fun q : Nat => s.heap.size ≤ q) (rt_xw q0 q1 q2 k1 k2 f g (nI en) (nI rn) cnt (nI pn) cng pnd msk sr sav tkn ++ rt_mw q3 q4 q5 k3 k4 f g (nI en) (nI rn) cnt (nI pn) cng pnd msk sr sav tkn (nI kn)) → va_S (fun q : Nat => s.heap.size ≤ q) s.heap H locs → lv_has ls 4 [(0, .ref b), (1, .ref q0), (2, .ref q3), (3, .int (nI i))] → W p l e0 room_1 s m #[Value.ref b] below meth c H locs 6 154 (lw_Z below #[Value.ref b] s) (F0 m 435 ls [])) :
    ∀ (f g : Nat → Int32) (en rn kn pn : Nat) (cnt cng pnd msk sr sav tkn : Int32), rt_Inv f en rn kn pn → ∀ (H : Heap) (locs : List Loc) (ls : Array Slot), va_P (dC, dI) vwCl (rt_xw q0 q1 q2 k1 k2 f g (nI en) (nI rn) cnt (nI pn) cng pnd msk sr sav tkn ++ rt_mw q3 q4 q5 k3 k4 f g (nI en) (nI rn) cnt (nI pn) cng pnd msk sr sav tkn (nI kn)) H → va_D (fun q : Nat => s.heap.size ≤ q) (rt_xw q0 q1 q2 k1 k2 f g (nI en) (nI rn) cnt (nI pn) cng pnd msk sr sav tkn ++ rt_mw q3 q4 q5 k3 k4 f g (nI en) (nI rn) cnt (nI pn) cng pnd msk sr sav tkn (nI kn)) → va_S (fun q : Nat => s.heap.size ≤ q) s.heap H locs → lv_has ls 4 [(0, .ref b), (1, .ref q0), (2, .ref q3), (3, .int (nI i))] → W p l e0 room_1 s m #[Value.ref b] below meth c H locs 6 154 (lw_Z below #[Value.ref b] s) (F0 m 169 ls []) := by
  obtain ⟨hx, hb, hr, hml, hown, htb, hX, hbl, hlocks, hgv⟩ := C0
  have hts := fun w h => htb w (wsL_law_in w h)
  have hA : ∀ q : Nat, s.heap.size ≤ q → (fun q : Nat => s.heap.size ≤ q) q := fun _ h => h
  have hbA : ¬ (fun q : Nat => s.heap.size ≤ q) b := Nat.not_le.mpr hbl
  intro f g en rn kn pn cnt cng pnd msk sr sav tkn hI H locs ls hP hD hS hl
  obtain ⟨h32, hrl, hpl, hs, hc⟩ := id hI
  refine lv_aload_n hx hb dL_law_169 rfl (lv_at hl 1 rfl) ?_
  have hPc := hP.sub (ws' := rt_xw q0 q1 q2 k1 k2 f g (nI en) (nI rn) cnt (nI pn) cng pnd msk sr sav tkn) [0, 1, 2] rfl
  have hDc := hD.sub (ws' := rt_xw q0 q1 q2 k1 k2 f g (nI en) (nI rn) cnt (nI pn) cng pnd msk sr sav tkn) [0, 1, 2] (by decide) rfl
  have hKc := hK.sub (tys' := [(k1, .int), (k2, .int)]) [0, 1] rfl
  have hFc := va_free (wc := rt_xw q0 q1 q2 k1 k2 f g (nI en) (nI rn) cnt (nI pn) cng pnd msk sr sav tkn) hD hS hA [0, 1, 2] rfl
  refine va_callv (va_runV (As := []) (rest := []) ⟨hx, hb, hml, hown, hts⟩ (c_X_back l dC dI q0 q1 q2 H.size k1 k2 f g (nI en) (nI rn) cnt (nI pn) cng pnd msk sr sav tkn) (cwV 0 hts gL_law_X0_back rfl rfl rfl (by decide +kernel) ⟨Nat.le_of_ble_eq_true rfl, Nat.le_of_ble_eq_true rfl⟩) ⟨fun a U g mk q => by obtain ⟨q0, q1, qP, qK, qD⟩ := q; exact ⟨q0, q1, qP, va_K.moved (u := U) (U := U.calling g mk a) (Vm.Alike.refl U.vm) qK, qD⟩, va_recv hKc hPc (ci := 0) (q0 := 0) rfl rfl, fun U hU hW => ⟨rfl, by rw [hU], by rw [hU]; exact hPc, va_K.moved hW.alike hKc, hDc.weaken (fun _ _ _ _ => trivial)⟩⟩ rfl rfl hl.1 rfl (lv_room (Nat.le_of_ble_eq_true rfl)) dL_law_170 ⟨Nat.le_of_ble_eq_true rfl, Nat.le_of_ble_eq_true rfl⟩) hS (fun q _ h => hFc q h) hFc (fun u t H1 locs ht hvm hw_170 hB hz1 hk1 hS => ?_)
  obtain ⟨hP1, hK1, hD1⟩ := hB
  rw [ht] at hP1
  try dsimp only at hw_170 hP1 hD1
  obtain ⟨hP, hD⟩ := va_join (wr := rt_mw q3 q4 q5 k3 k4 f g (nI en) (nI rn) cnt (nI pn) cng pnd msk sr sav tkn (nI kn)) (w1 := rt_xw q0 q1 q2 k1 k2 f g (nI en) (nI rn) cnt (nI pn) cng pnd msk sav sav tkn) hP hD [0, 1, 2] [3, 4, 5] rfl rfl (by decide) (by decide) hk1 hFc hP1 hD1
  have hP := hP.sub (ws' := rt_xw q0 q1 q2 k1 k2 f g (nI en) (nI rn) cnt (nI pn) cng pnd msk sav sav tkn ++ rt_mw q3 q4 q5 k3 k4 f g (nI en) (nI rn) cnt (nI pn) cng pnd msk sr sav tkn (nI kn)) [3, 4, 5, 0, 1, 2] rfl
  have hD := hD.sub (ws' := rt_xw q0 q1 q2 k1 k2 f g (nI en) (nI rn) cnt (nI pn) cng pnd msk sav sav tkn ++ rt_mw q3 q4 q5 k3 k4 f g (nI en) (nI rn) cnt (nI pn) cng pnd msk sr sav tkn (nI kn)) [3, 4, 5, 0, 1, 2] (by decide) rfl
  generalize H1 = H at hP hS ⊢
  have hP : va_P (dC, dI) vwCl (rt_xw q0 q1 q2 k1 k2 f g (nI en) (nI rn) cnt (nI pn) cng pnd msk sav sav tkn ++ rt_mw q3 q4 q5 k3 k4 f g (nI en) (nI rn) cnt (nI pn) cng pnd msk sr sav tkn (nI kn)) H := hP
  have hD : va_D (fun q : Nat => s.heap.size ≤ q) (rt_xw q0 q1 q2 k1 k2 f g (nI en) (nI rn) cnt (nI pn) cng pnd msk sav sav tkn ++ rt_mw q3 q4 q5 k3 k4 f g (nI en) (nI rn) cnt (nI pn) cng pnd msk sr sav tkn (nI kn)) := hD
  refine lv_aload_n hx hb dL_law_173 rfl (lv_at hl 2 rfl) ?_
  have hPc := hP.sub (ws' := rt_mw q3 q4 q5 k3 k4 f g (nI en) (nI rn) cnt (nI pn) cng pnd msk sr sav tkn (nI kn)) [3, 4, 5] rfl
  have hDc := hD.sub (ws' := rt_mw q3 q4 q5 k3 k4 f g (nI en) (nI rn) cnt (nI pn) cng pnd msk sr sav tkn (nI kn)) [3, 4, 5] (by decide) rfl
  have hKc := hK.sub (tys' := [(k3, .int), (k4, .int)]) [2, 3] rfl
  have hFc := va_free (wc := rt_mw q3 q4 q5 k3 k4 f g (nI en) (nI rn) cnt (nI pn) cng pnd msk sr sav tkn (nI kn)) hD hS hA [3, 4, 5] rfl
  refine va_callv (va_runV (As := []) (rest := []) ⟨hx, hb, hml, hown, hts⟩ (c_M_back l dC dI q3 q4 q5 H.size k3 k4 f g (nI en) (nI rn) cnt (nI pn) cng pnd msk sr sav tkn (nI kn)) (cwV 0 hts gL_law_X1_back rfl rfl rfl (by decide +kernel) ⟨Nat.le_of_ble_eq_true rfl, Nat.le_of_ble_eq_true rfl⟩) ⟨fun a U g mk q => by obtain ⟨q0, q1, qP, qK, qD⟩ := q; exact ⟨q0, q1, qP, va_K.moved (u := U) (U := U.calling g mk a) (Vm.Alike.refl U.vm) qK, qD⟩, va_recv hKc hPc (ci := 1) (q0 := 0) rfl rfl, fun U hU hW => ⟨rfl, by rw [hU], by rw [hU]; exact hPc, va_K.moved hW.alike hKc, hDc.weaken (fun _ _ _ _ => trivial)⟩⟩ rfl rfl hl.1 rfl (lv_room (Nat.le_of_ble_eq_true rfl)) dL_law_174 ⟨Nat.le_of_ble_eq_true rfl, Nat.le_of_ble_eq_true rfl⟩) hS (fun q _ h => hFc q h) hFc (fun u t H1 locs ht hvm hw_174 hB hz1 hk1 hS => ?_)
  obtain ⟨hP1, hK1, hD1⟩ := hB
  rw [ht] at hP1
  try dsimp only at hw_174 hP1 hD1
  obtain ⟨hP, hD⟩ := va_join (wr := rt_xw q0 q1 q2 k1 k2 f g (nI en) (nI rn) cnt (nI pn) cng pnd msk sav sav tkn) (w1 := rt_mw q3 q4 q5 k3 k4 f g (nI en) (nI rn) cnt (nI pn) cng pnd msk sav sav tkn (nI kn)) hP hD [3, 4, 5] [0, 1, 2] rfl rfl (by decide) (by decide) hk1 hFc hP1 hD1
  generalize H1 = H at hP hS ⊢
  have hP : va_P (dC, dI) vwCl (rt_xw q0 q1 q2 k1 k2 f g (nI en) (nI rn) cnt (nI pn) cng pnd msk sav sav tkn ++ rt_mw q3 q4 q5 k3 k4 f g (nI en) (nI rn) cnt (nI pn) cng pnd msk sav sav tkn (nI kn)) H := hP
  have hD : va_D (fun q : Nat => s.heap.size ≤ q) (rt_xw q0 q1 q2 k1 k2 f g (nI en) (nI rn) cnt (nI pn) cng pnd msk sav sav tkn ++ rt_mw q3 q4 q5 k3 k4 f g (nI en) (nI rn) cnt (nI pn) cng pnd msk sav sav tkn (nI kn)) := hD
  refine lv_goto (tgt := 435) hx hb dL_law_177 (by decide) ?_
  exact kk f g en rn kn pn cnt cng pnd msk sav sav tkn (hI) H locs ls hP hD hS hl
set_option maxHeartbeats 4000000 in
set_option maxRecDepth 100000 in
theorem law_c4 {p : Program} {l : Launch} {e0 : Env} {s : State} {m : MethodId} {below : List Frame} {meth : Method} {c : Code} {dC : Nat → ClassId} {dI : Nat → Nat → Nat} {b L : Nat} {xs : Nat → Int32} (hL : L ≤ 2048) (C0 : lw_At p s m meth c b L xs) {q0 q1 q2 q3 q4 q5 : Nat} {k1 k2 k3 k4 : ClassId} (hK : va_K (dC, dI) vwCl [(k1, .int), (k2, .int), (k3, .int), (k4, .int)] s) {i : Nat} (hi : i + 4 ≤ L) (kk : ∀ (f g : Nat → Int32) (en rn kn pn : Nat) (cnt cng pnd msk sr sav tkn : Int32), rt_Inv f en rn kn pn → ∀ (H : Heap) (locs : List Loc) (ls : Array Slot), va_P (dC, dI) vwCl (rt_xw q0 q1 q2 k1 k2 f g (nI en) (nI rn) cnt (nI pn) cng pnd msk sr sav tkn ++ rt_mw q3 q4 q5 k3 k4 f g (nI en) (nI rn) cnt (nI pn) cng pnd msk sr sav tkn (nI kn)) H → va_D (fun q : Nat => s.heap.size ≤ q) (rt_xw q0 q1 q2 k1 k2 f g (nI en) (nI rn) cnt (nI pn) cng pnd msk sr sav tkn ++ rt_mw q3 q4 q5 k3 k4 f g (nI en) (nI rn) cnt (nI pn) cng pnd msk sr sav tkn (nI kn)) → va_S (fun q : Nat => s.heap.size ≤ q) s.heap H locs → lv_has ls 4 [(0, .ref b), (1, .ref q0), (2, .ref q3), (3, .int (nI i))] → W p l e0 room_1 s m #[Value.ref b] below meth c H locs 6 154 (lw_Z below #[Value.ref b] s) (F0 m 435 ls [])) :
    ∀ (f g : Nat → Int32) (en rn kn pn : Nat) (cnt cng pnd msk sr sav tkn : Int32), rt_Inv f en rn kn pn → ∀ (H : Heap) (locs : List Loc) (ls : Array Slot), va_P (dC, dI) vwCl (rt_xw q0 q1 q2 k1 k2 f g (nI en) (nI rn) cnt (nI pn) cng pnd msk sr sav tkn ++ rt_mw q3 q4 q5 k3 k4 f g (nI en) (nI rn) cnt (nI pn) cng pnd msk sr sav tkn (nI kn)) H → va_D (fun q : Nat => s.heap.size ≤ q) (rt_xw q0 q1 q2 k1 k2 f g (nI en) (nI rn) cnt (nI pn) cng pnd msk sr sav tkn ++ rt_mw q3 q4 q5 k3 k4 f g (nI en) (nI rn) cnt (nI pn) cng pnd msk sr sav tkn (nI kn)) → va_S (fun q : Nat => s.heap.size ≤ q) s.heap H locs → lv_has ls 4 [(0, .ref b), (1, .ref q0), (2, .ref q3), (3, .int (nI i))] → W p l e0 room_1 s m #[Value.ref b] below meth c H locs 6 154 (lw_Z below #[Value.ref b] s) (F0 m 180 ls []) := by
  obtain ⟨hx, hb, hr, hml, hown, htb, hX, hbl, hlocks, hgv⟩ := C0
  have hts := fun w h => htb w (wsL_law_in w h)
  have hA : ∀ q : Nat, s.heap.size ≤ q → (fun q : Nat => s.heap.size ≤ q) q := fun _ h => h
  have hbA : ¬ (fun q : Nat => s.heap.size ≤ q) b := Nat.not_le.mpr hbl
  intro f g en rn kn pn cnt cng pnd msk sr sav tkn hI H locs ls hP hD hS hl
  obtain ⟨h32, hrl, hpl, hs, hc⟩ := id hI
  refine lv_aload_n hx hb dL_law_180 rfl (lv_at hl 1 rfl) ?_
  refine lv_aload_n hx hb dL_law_181 rfl (lv_at hl 0 rfl) ?_
  refine lv_iload_n hx hb dL_law_182 rfl (lv_at hl 3 rfl) ?_
  refine lv_iconst (v := 1) hx hb dL_law_183 (by decide) ?_
  refine lv_iadd hx hb dL_law_184 ?_
  refine va_sld hx hb hX hbl hbA hS (rt_in1 hi hL) dL_law_185 ?_
  have hPc := hP.sub (ws' := rt_xw q0 q1 q2 k1 k2 f g (nI en) (nI rn) cnt (nI pn) cng pnd msk sr sav tkn) [0, 1, 2] rfl
  have hDc := hD.sub (ws' := rt_xw q0 q1 q2 k1 k2 f g (nI en) (nI rn) cnt (nI pn) cng pnd msk sr sav tkn) [0, 1, 2] (by decide) rfl
  have hKc := hK.sub (tys' := [(k1, .int), (k2, .int)]) [0, 1] rfl
  have hFc := va_free (wc := rt_xw q0 q1 q2 k1 k2 f g (nI en) (nI rn) cnt (nI pn) cng pnd msk sr sav tkn) hD hS hA [0, 1, 2] rfl
  refine va_callv (va_runV (As := [.int (xs ((nI i) + 1).toNatClampNeg)]) (rest := []) ⟨hx, hb, hml, hown, hts⟩ (c_X_mode l dC dI q0 q1 q2 H.size k1 k2 f g (nI en) (nI rn) cnt (nI pn) cng pnd msk sr sav tkn (xs ((nI i) + 1).toNatClampNeg)) (cwV 1 hts gL_law_X0_mode rfl rfl rfl (by decide +kernel) ⟨Nat.le_of_ble_eq_true rfl, Nat.le_of_ble_eq_true rfl⟩) ⟨fun a U g mk q => by obtain ⟨q0, q1, qP, qK, qD⟩ := q; exact ⟨q0, q1, qP, va_K.moved (u := U) (U := U.calling g mk a) (Vm.Alike.refl U.vm) qK, qD⟩, va_recv hKc hPc (ci := 0) (q0 := 0) rfl rfl, fun U hU hW => ⟨rfl, by rw [hU], by rw [hU]; exact hPc, va_K.moved hW.alike hKc, hDc.weaken (fun _ _ _ _ => trivial)⟩⟩ rfl rfl hl.1 rfl (lv_room (Nat.le_of_ble_eq_true rfl)) dL_law_186 ⟨Nat.le_of_ble_eq_true rfl, Nat.le_of_ble_eq_true rfl⟩) hS (fun q _ h => hFc q h) hFc (fun u t H1 locs ht hvm hw_186 hB hz1 hk1 hS => ?_)
  obtain ⟨hP1, hK1, hD1⟩ := hB
  rw [ht] at hP1
  try dsimp only at hw_186 hP1 hD1
  obtain ⟨hP, hD⟩ := va_join (wr := rt_mw q3 q4 q5 k3 k4 f g (nI en) (nI rn) cnt (nI pn) cng pnd msk sr sav tkn (nI kn)) (w1 := rt_xw q0 q1 q2 k1 k2 f g (nI en) (nI rn) cnt (nI pn) cng pnd msk ((xs ((nI i) + 1).toNatClampNeg) &&& 39) sav tkn) hP hD [0, 1, 2] [3, 4, 5] rfl rfl (by decide) (by decide) hk1 hFc hP1 hD1
  have hP := hP.sub (ws' := rt_xw q0 q1 q2 k1 k2 f g (nI en) (nI rn) cnt (nI pn) cng pnd msk ((xs ((nI i) + 1).toNatClampNeg) &&& 39) sav tkn ++ rt_mw q3 q4 q5 k3 k4 f g (nI en) (nI rn) cnt (nI pn) cng pnd msk sr sav tkn (nI kn)) [3, 4, 5, 0, 1, 2] rfl
  have hD := hD.sub (ws' := rt_xw q0 q1 q2 k1 k2 f g (nI en) (nI rn) cnt (nI pn) cng pnd msk ((xs ((nI i) + 1).toNatClampNeg) &&& 39) sav tkn ++ rt_mw q3 q4 q5 k3 k4 f g (nI en) (nI rn) cnt (nI pn) cng pnd msk sr sav tkn (nI kn)) [3, 4, 5, 0, 1, 2] (by decide) rfl
  generalize H1 = H at hP hS ⊢
  have hP : va_P (dC, dI) vwCl (rt_xw q0 q1 q2 k1 k2 f g (nI en) (nI rn) cnt (nI pn) cng pnd msk ((xs ((nI i) + 1).toNatClampNeg) &&& 39) sav tkn ++ rt_mw q3 q4 q5 k3 k4 f g (nI en) (nI rn) cnt (nI pn) cng pnd msk sr sav tkn (nI kn)) H := hP
  have hD : va_D (fun q : Nat => s.heap.size ≤ q) (rt_xw q0 q1 q2 k1 k2 f g (nI en) (nI rn) cnt (nI pn) cng pnd msk ((xs ((nI i) + 1).toNatClampNeg) &&& 39) sav tkn ++ rt_mw q3 q4 q5 k3 k4 f g (nI en) (nI rn) cnt (nI pn) cng pnd msk sr sav tkn (nI kn)) := hD
  refine lv_aload_n hx hb dL_law_189 rfl (lv_at hl 2 rfl) ?_
  refine lv_aload_n hx hb dL_law_190 rfl (lv_at hl 0 rfl) ?_
  refine lv_iload_n hx hb dL_law_191 rfl (lv_at hl 3 rfl) ?_
  refine lv_iconst (v := 1) hx hb dL_law_192 (by decide) ?_
  refine lv_iadd hx hb dL_law_193 ?_
  refine va_sld hx hb hX hbl hbA hS (rt_in1 hi hL) dL_law_194 ?_
  have hPc := hP.sub (ws' := rt_mw q3 q4 q5 k3 k4 f g (nI en) (nI rn) cnt (nI pn) cng pnd msk sr sav tkn (nI kn)) [3, 4, 5] rfl
  have hDc := hD.sub (ws' := rt_mw q3 q4 q5 k3 k4 f g (nI en) (nI rn) cnt (nI pn) cng pnd msk sr sav tkn (nI kn)) [3, 4, 5] (by decide) rfl
  have hKc := hK.sub (tys' := [(k3, .int), (k4, .int)]) [2, 3] rfl
  have hFc := va_free (wc := rt_mw q3 q4 q5 k3 k4 f g (nI en) (nI rn) cnt (nI pn) cng pnd msk sr sav tkn (nI kn)) hD hS hA [3, 4, 5] rfl
  refine va_callv (va_runV (As := [.int (xs ((nI i) + 1).toNatClampNeg)]) (rest := []) ⟨hx, hb, hml, hown, hts⟩ (c_M_mode l dC dI q3 q4 q5 H.size k3 k4 f g (nI en) (nI rn) cnt (nI pn) cng pnd msk sr sav tkn (nI kn) (xs ((nI i) + 1).toNatClampNeg)) (cwV 1 htb gL_law_X1_mode rfl rfl rfl (by decide +kernel) ⟨Nat.le_of_ble_eq_true rfl, Nat.le_of_ble_eq_true rfl⟩) ⟨fun a U g mk q => by obtain ⟨q0, q1, qP, qK, qD⟩ := q; exact ⟨q0, q1, qP, va_K.moved (u := U) (U := U.calling g mk a) (Vm.Alike.refl U.vm) qK, qD⟩, va_recv hKc hPc (ci := 1) (q0 := 0) rfl rfl, fun U hU hW => ⟨rfl, by rw [hU], by rw [hU]; exact hPc, va_K.moved hW.alike hKc, hDc.weaken (fun _ _ _ _ => trivial)⟩⟩ rfl rfl hl.1 rfl (lv_room (Nat.le_of_ble_eq_true rfl)) dL_law_195 ⟨Nat.le_of_ble_eq_true rfl, Nat.le_of_ble_eq_true rfl⟩) hS (fun q _ h => hFc q h) hFc (fun u t H1 locs ht hvm hw_195 hB hz1 hk1 hS => ?_)
  obtain ⟨hP1, hK1, hD1⟩ := hB
  rw [ht] at hP1
  try dsimp only at hw_195 hP1 hD1
  obtain ⟨hP, hD⟩ := va_join (wr := rt_xw q0 q1 q2 k1 k2 f g (nI en) (nI rn) cnt (nI pn) cng pnd msk ((xs ((nI i) + 1).toNatClampNeg) &&& 39) sav tkn) (w1 := rt_mw q3 q4 q5 k3 k4 f g (nI en) (nI rn) cnt (nI pn) cng pnd msk ((xs ((nI i) + 1).toNatClampNeg) &&& 39) sav tkn (nI kn)) hP hD [3, 4, 5] [0, 1, 2] rfl rfl (by decide) (by decide) hk1 hFc hP1 hD1
  generalize H1 = H at hP hS ⊢
  have hP : va_P (dC, dI) vwCl (rt_xw q0 q1 q2 k1 k2 f g (nI en) (nI rn) cnt (nI pn) cng pnd msk ((xs ((nI i) + 1).toNatClampNeg) &&& 39) sav tkn ++ rt_mw q3 q4 q5 k3 k4 f g (nI en) (nI rn) cnt (nI pn) cng pnd msk ((xs ((nI i) + 1).toNatClampNeg) &&& 39) sav tkn (nI kn)) H := hP
  have hD : va_D (fun q : Nat => s.heap.size ≤ q) (rt_xw q0 q1 q2 k1 k2 f g (nI en) (nI rn) cnt (nI pn) cng pnd msk ((xs ((nI i) + 1).toNatClampNeg) &&& 39) sav tkn ++ rt_mw q3 q4 q5 k3 k4 f g (nI en) (nI rn) cnt (nI pn) cng pnd msk ((xs ((nI i) + 1).toNatClampNeg) &&& 39) sav tkn (nI kn)) := hD
  refine lv_goto (tgt := 435) hx hb dL_law_198 (by decide) ?_
  exact kk f g en rn kn pn cnt cng pnd msk ((xs (nI i + 1).toNatClampNeg) &&& 39) sav tkn (hI) H locs ls hP hD hS hl
set_option maxHeartbeats 4000000 in
set_option maxRecDepth 100000 in
theorem law_c5 {p : Program} {l : Launch} {e0 : Env} {s : State} {m : MethodId} {below : List Frame} {meth : Method} {c : Code} {dC : Nat → ClassId} {dI : Nat → Nat → Nat} {b L : Nat} {xs : Nat → Int32} (hL : L ≤ 2048) (C0 : lw_At p s m meth c b L xs) {q0 q1 q2 q3 q4 q5 : Nat} {k1 k2 k3 k4 : ClassId} (hK : va_K (dC, dI) vwCl [(k1, .int), (k2, .int), (k3, .int), (k4, .int)] s) {i : Nat} (hi : i + 4 ≤ L) (kk : ∀ (f g : Nat → Int32) (en rn kn pn : Nat) (cnt cng pnd msk sr sav tkn : Int32), rt_Inv f en rn kn pn → ∀ (H : Heap) (locs : List Loc) (ls : Array Slot), va_P (dC, dI) vwCl (rt_xw q0 q1 q2 k1 k2 f g (nI en) (nI rn) cnt (nI pn) cng pnd msk sr sav tkn ++ rt_mw q3 q4 q5 k3 k4 f g (nI en) (nI rn) cnt (nI pn) cng pnd msk sr sav tkn (nI kn)) H → va_D (fun q : Nat => s.heap.size ≤ q) (rt_xw q0 q1 q2 k1 k2 f g (nI en) (nI rn) cnt (nI pn) cng pnd msk sr sav tkn ++ rt_mw q3 q4 q5 k3 k4 f g (nI en) (nI rn) cnt (nI pn) cng pnd msk sr sav tkn (nI kn)) → va_S (fun q : Nat => s.heap.size ≤ q) s.heap H locs → lv_has ls 4 [(0, .ref b), (1, .ref q0), (2, .ref q3), (3, .int (nI i))] → W p l e0 room_1 s m #[Value.ref b] below meth c H locs 6 154 (lw_Z below #[Value.ref b] s) (F0 m 435 ls [])) :
    ∀ (f g : Nat → Int32) (en rn kn pn : Nat) (cnt cng pnd msk sr sav tkn : Int32), rt_Inv f en rn kn pn → ∀ (H : Heap) (locs : List Loc) (ls : Array Slot), va_P (dC, dI) vwCl (rt_xw q0 q1 q2 k1 k2 f g (nI en) (nI rn) cnt (nI pn) cng pnd msk sr sav tkn ++ rt_mw q3 q4 q5 k3 k4 f g (nI en) (nI rn) cnt (nI pn) cng pnd msk sr sav tkn (nI kn)) H → va_D (fun q : Nat => s.heap.size ≤ q) (rt_xw q0 q1 q2 k1 k2 f g (nI en) (nI rn) cnt (nI pn) cng pnd msk sr sav tkn ++ rt_mw q3 q4 q5 k3 k4 f g (nI en) (nI rn) cnt (nI pn) cng pnd msk sr sav tkn (nI kn)) → va_S (fun q : Nat => s.heap.size ≤ q) s.heap H locs → lv_has ls 4 [(0, .ref b), (1, .ref q0), (2, .ref q3), (3, .int (nI i))] → W p l e0 room_1 s m #[Value.ref b] below meth c H locs 6 154 (lw_Z below #[Value.ref b] s) (F0 m 201 ls []) := by
  obtain ⟨hx, hb, hr, hml, hown, htb, hX, hbl, hlocks, hgv⟩ := C0
  have hts := fun w h => htb w (wsL_law_in w h)
  have hA : ∀ q : Nat, s.heap.size ≤ q → (fun q : Nat => s.heap.size ≤ q) q := fun _ h => h
  have hbA : ¬ (fun q : Nat => s.heap.size ≤ q) b := Nat.not_le.mpr hbl
  intro f g en rn kn pn cnt cng pnd msk sr sav tkn hI H locs ls hP hD hS hl
  obtain ⟨h32, hrl, hpl, hs, hc⟩ := id hI
  refine lv_aload_n hx hb dL_law_201 rfl (lv_at hl 1 rfl) ?_
  refine lv_aload_n hx hb dL_law_202 rfl (lv_at hl 0 rfl) ?_
  refine lv_iload_n hx hb dL_law_203 rfl (lv_at hl 3 rfl) ?_
  refine lv_iconst (v := 1) hx hb dL_law_204 (by decide) ?_
  refine lv_iadd hx hb dL_law_205 ?_
  refine va_sld hx hb hX hbl hbA hS (rt_in1 hi hL) dL_law_206 ?_
  have hPc := hP.sub (ws' := rt_xw q0 q1 q2 k1 k2 f g (nI en) (nI rn) cnt (nI pn) cng pnd msk sr sav tkn) [0, 1, 2] rfl
  have hDc := hD.sub (ws' := rt_xw q0 q1 q2 k1 k2 f g (nI en) (nI rn) cnt (nI pn) cng pnd msk sr sav tkn) [0, 1, 2] (by decide) rfl
  have hKc := hK.sub (tys' := [(k1, .int), (k2, .int)]) [0, 1] rfl
  have hFc := va_free (wc := rt_xw q0 q1 q2 k1 k2 f g (nI en) (nI rn) cnt (nI pn) cng pnd msk sr sav tkn) hD hS hA [0, 1, 2] rfl
  refine va_callv (va_runV (As := [.int (xs ((nI i) + 1).toNatClampNeg)]) (rest := []) ⟨hx, hb, hml, hown, hts⟩ (c_X_mask l dC dI q0 q1 q2 H.size k1 k2 f g (nI en) (nI rn) cnt (nI pn) cng pnd msk sr sav tkn (xs ((nI i) + 1).toNatClampNeg)) (cwV 1 hts gL_law_X0_mask rfl rfl rfl (by decide +kernel) ⟨Nat.le_of_ble_eq_true rfl, Nat.le_of_ble_eq_true rfl⟩) ⟨fun a U g mk q => by obtain ⟨q0, q1, qP, qK, qD⟩ := q; exact ⟨q0, q1, qP, va_K.moved (u := U) (U := U.calling g mk a) (Vm.Alike.refl U.vm) qK, qD⟩, va_recv hKc hPc (ci := 0) (q0 := 0) rfl rfl, fun U hU hW => ⟨rfl, by rw [hU], by rw [hU]; exact hPc, va_K.moved hW.alike hKc, hDc.weaken (fun _ _ _ _ => trivial)⟩⟩ rfl rfl hl.1 rfl (lv_room (Nat.le_of_ble_eq_true rfl)) dL_law_207 ⟨Nat.le_of_ble_eq_true rfl, Nat.le_of_ble_eq_true rfl⟩) hS (fun q _ h => hFc q h) hFc (fun u t H1 locs ht hvm hw_207 hB hz1 hk1 hS => ?_)
  obtain ⟨hP1, hK1, hD1⟩ := hB
  rw [ht] at hP1
  try dsimp only at hw_207 hP1 hD1
  obtain ⟨hP, hD⟩ := va_join (wr := rt_mw q3 q4 q5 k3 k4 f g (nI en) (nI rn) cnt (nI pn) cng pnd msk sr sav tkn (nI kn)) (w1 := rt_xw q0 q1 q2 k1 k2 f g (nI en) (nI rn) cnt (nI pn) cng pnd (xs ((nI i) + 1).toNatClampNeg) sr sav tkn) hP hD [0, 1, 2] [3, 4, 5] rfl rfl (by decide) (by decide) hk1 hFc hP1 hD1
  have hP := hP.sub (ws' := rt_xw q0 q1 q2 k1 k2 f g (nI en) (nI rn) cnt (nI pn) cng pnd (xs ((nI i) + 1).toNatClampNeg) sr sav tkn ++ rt_mw q3 q4 q5 k3 k4 f g (nI en) (nI rn) cnt (nI pn) cng pnd msk sr sav tkn (nI kn)) [3, 4, 5, 0, 1, 2] rfl
  have hD := hD.sub (ws' := rt_xw q0 q1 q2 k1 k2 f g (nI en) (nI rn) cnt (nI pn) cng pnd (xs ((nI i) + 1).toNatClampNeg) sr sav tkn ++ rt_mw q3 q4 q5 k3 k4 f g (nI en) (nI rn) cnt (nI pn) cng pnd msk sr sav tkn (nI kn)) [3, 4, 5, 0, 1, 2] (by decide) rfl
  generalize H1 = H at hP hS ⊢
  have hP : va_P (dC, dI) vwCl (rt_xw q0 q1 q2 k1 k2 f g (nI en) (nI rn) cnt (nI pn) cng pnd (xs ((nI i) + 1).toNatClampNeg) sr sav tkn ++ rt_mw q3 q4 q5 k3 k4 f g (nI en) (nI rn) cnt (nI pn) cng pnd msk sr sav tkn (nI kn)) H := hP
  have hD : va_D (fun q : Nat => s.heap.size ≤ q) (rt_xw q0 q1 q2 k1 k2 f g (nI en) (nI rn) cnt (nI pn) cng pnd (xs ((nI i) + 1).toNatClampNeg) sr sav tkn ++ rt_mw q3 q4 q5 k3 k4 f g (nI en) (nI rn) cnt (nI pn) cng pnd msk sr sav tkn (nI kn)) := hD
  refine lv_aload_n hx hb dL_law_210 rfl (lv_at hl 2 rfl) ?_
  refine lv_aload_n hx hb dL_law_211 rfl (lv_at hl 0 rfl) ?_
  refine lv_iload_n hx hb dL_law_212 rfl (lv_at hl 3 rfl) ?_
  refine lv_iconst (v := 1) hx hb dL_law_213 (by decide) ?_
  refine lv_iadd hx hb dL_law_214 ?_
  refine va_sld hx hb hX hbl hbA hS (rt_in1 hi hL) dL_law_215 ?_
  have hPc := hP.sub (ws' := rt_mw q3 q4 q5 k3 k4 f g (nI en) (nI rn) cnt (nI pn) cng pnd msk sr sav tkn (nI kn)) [3, 4, 5] rfl
  have hDc := hD.sub (ws' := rt_mw q3 q4 q5 k3 k4 f g (nI en) (nI rn) cnt (nI pn) cng pnd msk sr sav tkn (nI kn)) [3, 4, 5] (by decide) rfl
  have hKc := hK.sub (tys' := [(k3, .int), (k4, .int)]) [2, 3] rfl
  have hFc := va_free (wc := rt_mw q3 q4 q5 k3 k4 f g (nI en) (nI rn) cnt (nI pn) cng pnd msk sr sav tkn (nI kn)) hD hS hA [3, 4, 5] rfl
  refine va_callv (va_runV (As := [.int (xs ((nI i) + 1).toNatClampNeg)]) (rest := []) ⟨hx, hb, hml, hown, hts⟩ (c_M_mask l dC dI q3 q4 q5 H.size k3 k4 f g (nI en) (nI rn) cnt (nI pn) cng pnd msk sr sav tkn (nI kn) (xs ((nI i) + 1).toNatClampNeg)) (cwV 1 htb gL_law_X1_mask rfl rfl rfl (by decide +kernel) ⟨Nat.le_of_ble_eq_true rfl, Nat.le_of_ble_eq_true rfl⟩) ⟨fun a U g mk q => by obtain ⟨q0, q1, qP, qK, qD⟩ := q; exact ⟨q0, q1, qP, va_K.moved (u := U) (U := U.calling g mk a) (Vm.Alike.refl U.vm) qK, qD⟩, va_recv hKc hPc (ci := 1) (q0 := 0) rfl rfl, fun U hU hW => ⟨rfl, by rw [hU], by rw [hU]; exact hPc, va_K.moved hW.alike hKc, hDc.weaken (fun _ _ _ _ => trivial)⟩⟩ rfl rfl hl.1 rfl (lv_room (Nat.le_of_ble_eq_true rfl)) dL_law_216 ⟨Nat.le_of_ble_eq_true rfl, Nat.le_of_ble_eq_true rfl⟩) hS (fun q _ h => hFc q h) hFc (fun u t H1 locs ht hvm hw_216 hB hz1 hk1 hS => ?_)
  obtain ⟨hP1, hK1, hD1⟩ := hB
  rw [ht] at hP1
  try dsimp only at hw_216 hP1 hD1
  obtain ⟨hP, hD⟩ := va_join (wr := rt_xw q0 q1 q2 k1 k2 f g (nI en) (nI rn) cnt (nI pn) cng pnd (xs ((nI i) + 1).toNatClampNeg) sr sav tkn) (w1 := rt_mw q3 q4 q5 k3 k4 f g (nI en) (nI rn) cnt (nI pn) cng pnd (xs ((nI i) + 1).toNatClampNeg) sr sav tkn (nI kn)) hP hD [3, 4, 5] [0, 1, 2] rfl rfl (by decide) (by decide) hk1 hFc hP1 hD1
  generalize H1 = H at hP hS ⊢
  have hP : va_P (dC, dI) vwCl (rt_xw q0 q1 q2 k1 k2 f g (nI en) (nI rn) cnt (nI pn) cng pnd (xs ((nI i) + 1).toNatClampNeg) sr sav tkn ++ rt_mw q3 q4 q5 k3 k4 f g (nI en) (nI rn) cnt (nI pn) cng pnd (xs ((nI i) + 1).toNatClampNeg) sr sav tkn (nI kn)) H := hP
  have hD : va_D (fun q : Nat => s.heap.size ≤ q) (rt_xw q0 q1 q2 k1 k2 f g (nI en) (nI rn) cnt (nI pn) cng pnd (xs ((nI i) + 1).toNatClampNeg) sr sav tkn ++ rt_mw q3 q4 q5 k3 k4 f g (nI en) (nI rn) cnt (nI pn) cng pnd (xs ((nI i) + 1).toNatClampNeg) sr sav tkn (nI kn)) := hD
  refine lv_goto (tgt := 435) hx hb dL_law_219 (by decide) ?_
  exact kk f g en rn kn pn cnt cng pnd (xs (nI i + 1).toNatClampNeg) sr sav tkn (hI) H locs ls hP hD hS hl
set_option maxHeartbeats 4000000 in
set_option maxRecDepth 100000 in
theorem law_c6 {p : Program} {l : Launch} {e0 : Env} {s : State} {m : MethodId} {below : List Frame} {meth : Method} {c : Code} {dC : Nat → ClassId} {dI : Nat → Nat → Nat} {b L : Nat} {xs : Nat → Int32} (hL : L ≤ 2048) (C0 : lw_At p s m meth c b L xs) {q0 q1 q2 q3 q4 q5 : Nat} {k1 k2 k3 k4 : ClassId} (hK : va_K (dC, dI) vwCl [(k1, .int), (k2, .int), (k3, .int), (k4, .int)] s) {i : Nat} (hi : i + 4 ≤ L) (kk : ∀ (f g : Nat → Int32) (en rn kn pn : Nat) (cnt cng pnd msk sr sav tkn : Int32), rt_Inv f en rn kn pn → ∀ (H : Heap) (locs : List Loc) (ls : Array Slot), va_P (dC, dI) vwCl (rt_xw q0 q1 q2 k1 k2 f g (nI en) (nI rn) cnt (nI pn) cng pnd msk sr sav tkn ++ rt_mw q3 q4 q5 k3 k4 f g (nI en) (nI rn) cnt (nI pn) cng pnd msk sr sav tkn (nI kn)) H → va_D (fun q : Nat => s.heap.size ≤ q) (rt_xw q0 q1 q2 k1 k2 f g (nI en) (nI rn) cnt (nI pn) cng pnd msk sr sav tkn ++ rt_mw q3 q4 q5 k3 k4 f g (nI en) (nI rn) cnt (nI pn) cng pnd msk sr sav tkn (nI kn)) → va_S (fun q : Nat => s.heap.size ≤ q) s.heap H locs → lv_has ls 4 [(0, .ref b), (1, .ref q0), (2, .ref q3), (3, .int (nI i))] → W p l e0 room_1 s m #[Value.ref b] below meth c H locs 6 154 (lw_Z below #[Value.ref b] s) (F0 m 435 ls [])) :
    ∀ (f g : Nat → Int32) (en rn kn pn : Nat) (cnt cng pnd msk sr sav tkn : Int32), rt_Inv f en rn kn pn → ∀ (H : Heap) (locs : List Loc) (ls : Array Slot), va_P (dC, dI) vwCl (rt_xw q0 q1 q2 k1 k2 f g (nI en) (nI rn) cnt (nI pn) cng pnd msk sr sav tkn ++ rt_mw q3 q4 q5 k3 k4 f g (nI en) (nI rn) cnt (nI pn) cng pnd msk sr sav tkn (nI kn)) H → va_D (fun q : Nat => s.heap.size ≤ q) (rt_xw q0 q1 q2 k1 k2 f g (nI en) (nI rn) cnt (nI pn) cng pnd msk sr sav tkn ++ rt_mw q3 q4 q5 k3 k4 f g (nI en) (nI rn) cnt (nI pn) cng pnd msk sr sav tkn (nI kn)) → va_S (fun q : Nat => s.heap.size ≤ q) s.heap H locs → lv_has ls 4 [(0, .ref b), (1, .ref q0), (2, .ref q3), (3, .int (nI i))] → W p l e0 room_1 s m #[Value.ref b] below meth c H locs 6 154 (lw_Z below #[Value.ref b] s) (F0 m 222 ls []) := by
  obtain ⟨hx, hb, hr, hml, hown, htb, hX, hbl, hlocks, hgv⟩ := C0
  have hts := fun w h => htb w (wsL_law_in w h)
  have hA : ∀ q : Nat, s.heap.size ≤ q → (fun q : Nat => s.heap.size ≤ q) q := fun _ h => h
  have hbA : ¬ (fun q : Nat => s.heap.size ≤ q) b := Nat.not_le.mpr hbl
  intro f g en rn kn pn cnt cng pnd msk sr sav tkn hI H locs ls hP hD hS hl
  obtain ⟨h32, hrl, hpl, hs, hc⟩ := id hI
  refine lv_aload_n hx hb dL_law_222 rfl (lv_at hl 1 rfl) ?_
  refine lv_aload_n hx hb dL_law_223 rfl (lv_at hl 0 rfl) ?_
  refine lv_iload_n hx hb dL_law_224 rfl (lv_at hl 3 rfl) ?_
  refine lv_iconst (v := 1) hx hb dL_law_225 (by decide) ?_
  refine lv_iadd hx hb dL_law_226 ?_
  refine va_sld hx hb hX hbl hbA hS (rt_in1 hi hL) dL_law_227 ?_
  refine lv_aload_n hx hb dL_law_228 rfl (lv_at hl 0 rfl) ?_
  refine lv_iload_n hx hb dL_law_229 rfl (lv_at hl 3 rfl) ?_
  refine lv_iconst (v := 2) hx hb dL_law_230 (by decide) ?_
  refine lv_iadd hx hb dL_law_231 ?_
  refine va_sld hx hb hX hbl hbA hS (rt_in2 hi hL) dL_law_232 ?_
  refine lv_if_eq (tgt := 240) hx hb dL_law_233 (by decide) (fun c_233 => ?_) (fun c_233 => ?_)
  · refine lv_iconst (v := 0) hx hb dL_law_240 (by decide) ?_
    refine lv_aload_n hx hb dL_law_241 rfl (lv_at hl 0 rfl) ?_
    refine lv_iload_n hx hb dL_law_242 rfl (lv_at hl 3 rfl) ?_
    refine lv_iconst (v := 3) hx hb dL_law_243 (by decide) ?_
    refine lv_iadd hx hb dL_law_244 ?_
    refine va_sld hx hb hX hbl hbA hS (rt_in3 hi hL) dL_law_245 ?_
    refine lv_if_eq (tgt := 253) hx hb dL_law_246 (by decide) (fun c_246 => ?_) (fun c_246 => ?_)
    · refine lv_iconst (v := 0) hx hb dL_law_253 (by decide) ?_
      have hPc := hP.sub (ws' := rt_xw q0 q1 q2 k1 k2 f g (nI en) (nI rn) cnt (nI pn) cng pnd msk sr sav tkn) [0, 1, 2] rfl
      have hDc := hD.sub (ws' := rt_xw q0 q1 q2 k1 k2 f g (nI en) (nI rn) cnt (nI pn) cng pnd msk sr sav tkn) [0, 1, 2] (by decide) rfl
      have hKc := hK.sub (tys' := [(k1, .int), (k2, .int)]) [0, 1] rfl
      have hFc := va_free (wc := rt_xw q0 q1 q2 k1 k2 f g (nI en) (nI rn) cnt (nI pn) cng pnd msk sr sav tkn) hD hS hA [0, 1, 2] rfl
      refine va_callv (va_runV (As := [.int (xs ((nI i) + 1).toNatClampNeg), .int 0, .int 0]) (rest := []) ⟨hx, hb, hml, hown, hts⟩ (c_X_timer l dC dI q0 q1 q2 H.size k1 k2 f g (nI en) (nI rn) cnt (nI pn) cng pnd msk sr sav tkn (xs ((nI i) + 1).toNatClampNeg) 0 0 (Or.inl rfl) (Or.inl rfl)) (cwV 3 hts gL_law_X0_timer rfl rfl rfl (by decide +kernel) ⟨Nat.le_of_ble_eq_true rfl, Nat.le_of_ble_eq_true rfl⟩) ⟨fun a U g mk q => by obtain ⟨q0, q1, qP, qK, qD⟩ := q; exact ⟨q0, q1, qP, va_K.moved (u := U) (U := U.calling g mk a) (Vm.Alike.refl U.vm) qK, qD⟩, va_recv hKc hPc (ci := 0) (q0 := 0) rfl rfl, fun U hU hW => ⟨rfl, by rw [hU], by rw [hU]; exact hPc, va_K.moved hW.alike hKc, hDc.weaken (fun _ _ _ _ => trivial)⟩⟩ rfl rfl hl.1 rfl (lv_room (Nat.le_of_ble_eq_true rfl)) dL_law_254 ⟨Nat.le_of_ble_eq_true rfl, Nat.le_of_ble_eq_true rfl⟩) hS (fun q _ h => hFc q h) hFc (fun u t H1 locs ht hvm hw_254 hB hz1 hk1 hS => ?_)
      obtain ⟨hP1, hK1, hD1⟩ := hB
      rw [ht] at hP1
      try dsimp only at hw_254 hP1 hD1
      obtain ⟨hP, hD⟩ := va_join (wr := rt_mw q3 q4 q5 k3 k4 f g (nI en) (nI rn) cnt (nI pn) cng pnd msk sr sav tkn (nI kn)) (w1 := rt_xw q0 q1 q2 k1 k2 f g (nI en) (nI rn) cnt ((xs ((nI i) + 1).toNatClampNeg) &&& 268435455) 0 0 msk sr sav tkn) hP hD [0, 1, 2] [3, 4, 5] rfl rfl (by decide) (by decide) hk1 hFc hP1 hD1
      have hP := hP.sub (ws' := rt_xw q0 q1 q2 k1 k2 f g (nI en) (nI rn) cnt ((xs ((nI i) + 1).toNatClampNeg) &&& 268435455) 0 0 msk sr sav tkn ++ rt_mw q3 q4 q5 k3 k4 f g (nI en) (nI rn) cnt (nI pn) cng pnd msk sr sav tkn (nI kn)) [3, 4, 5, 0, 1, 2] rfl
      have hD := hD.sub (ws' := rt_xw q0 q1 q2 k1 k2 f g (nI en) (nI rn) cnt ((xs ((nI i) + 1).toNatClampNeg) &&& 268435455) 0 0 msk sr sav tkn ++ rt_mw q3 q4 q5 k3 k4 f g (nI en) (nI rn) cnt (nI pn) cng pnd msk sr sav tkn (nI kn)) [3, 4, 5, 0, 1, 2] (by decide) rfl
      generalize H1 = H at hP hS ⊢
      have hP : va_P (dC, dI) vwCl (rt_xw q0 q1 q2 k1 k2 f g (nI en) (nI rn) cnt ((xs ((nI i) + 1).toNatClampNeg) &&& 268435455) 0 0 msk sr sav tkn ++ rt_mw q3 q4 q5 k3 k4 f g (nI en) (nI rn) cnt (nI pn) cng pnd msk sr sav tkn (nI kn)) H := hP
      have hD : va_D (fun q : Nat => s.heap.size ≤ q) (rt_xw q0 q1 q2 k1 k2 f g (nI en) (nI rn) cnt ((xs ((nI i) + 1).toNatClampNeg) &&& 268435455) 0 0 msk sr sav tkn ++ rt_mw q3 q4 q5 k3 k4 f g (nI en) (nI rn) cnt (nI pn) cng pnd msk sr sav tkn (nI kn)) := hD
      refine lv_aload_n hx hb dL_law_257 rfl (lv_at hl 2 rfl) ?_
      refine lv_aload_n hx hb dL_law_258 rfl (lv_at hl 0 rfl) ?_
      refine lv_iload_n hx hb dL_law_259 rfl (lv_at hl 3 rfl) ?_
      refine lv_iconst (v := 1) hx hb dL_law_260 (by decide) ?_
      refine lv_iadd hx hb dL_law_261 ?_
      refine va_sld hx hb hX hbl hbA hS (rt_in1 hi hL) dL_law_262 ?_
      refine lv_aload_n hx hb dL_law_263 rfl (lv_at hl 0 rfl) ?_
      refine lv_iload_n hx hb dL_law_264 rfl (lv_at hl 3 rfl) ?_
      refine lv_iconst (v := 2) hx hb dL_law_265 (by decide) ?_
      refine lv_iadd hx hb dL_law_266 ?_
      refine va_sld hx hb hX hbl hbA hS (rt_in2 hi hL) dL_law_267 ?_
      refine lv_if_eq (tgt := 275) hx hb dL_law_268 (by decide) (fun c_268 => ?_) (fun c_268 => absurd c_233 c_268)
      refine lv_iconst (v := 0) hx hb dL_law_275 (by decide) ?_
      refine lv_aload_n hx hb dL_law_276 rfl (lv_at hl 0 rfl) ?_
      refine lv_iload_n hx hb dL_law_277 rfl (lv_at hl 3 rfl) ?_
      refine lv_iconst (v := 3) hx hb dL_law_278 (by decide) ?_
      refine lv_iadd hx hb dL_law_279 ?_
      refine va_sld hx hb hX hbl hbA hS (rt_in3 hi hL) dL_law_280 ?_
      refine lv_if_eq (tgt := 288) hx hb dL_law_281 (by decide) (fun c_281 => ?_) (fun c_281 => absurd c_246 c_281)
      refine lv_iconst (v := 0) hx hb dL_law_288 (by decide) ?_
      have hPc := hP.sub (ws' := rt_mw q3 q4 q5 k3 k4 f g (nI en) (nI rn) cnt (nI pn) cng pnd msk sr sav tkn (nI kn)) [3, 4, 5] rfl
      have hDc := hD.sub (ws' := rt_mw q3 q4 q5 k3 k4 f g (nI en) (nI rn) cnt (nI pn) cng pnd msk sr sav tkn (nI kn)) [3, 4, 5] (by decide) rfl
      have hKc := hK.sub (tys' := [(k3, .int), (k4, .int)]) [2, 3] rfl
      have hFc := va_free (wc := rt_mw q3 q4 q5 k3 k4 f g (nI en) (nI rn) cnt (nI pn) cng pnd msk sr sav tkn (nI kn)) hD hS hA [3, 4, 5] rfl
      refine va_callv (va_runV (As := [.int (xs ((nI i) + 1).toNatClampNeg), .int 0, .int 0]) (rest := []) ⟨hx, hb, hml, hown, hts⟩ (c_M_timer l dC dI q3 q4 q5 H.size k3 k4 f g (nI en) (nI rn) cnt (nI pn) cng pnd msk sr sav tkn (nI kn) (xs ((nI i) + 1).toNatClampNeg) 0 0 (Or.inl rfl) (Or.inl rfl)) (cwV 3 htb gL_law_X1_timer rfl rfl rfl (by decide +kernel) ⟨Nat.le_of_ble_eq_true rfl, Nat.le_of_ble_eq_true rfl⟩) ⟨fun a U g mk q => by obtain ⟨q0, q1, qP, qK, qD⟩ := q; exact ⟨q0, q1, qP, va_K.moved (u := U) (U := U.calling g mk a) (Vm.Alike.refl U.vm) qK, qD⟩, va_recv hKc hPc (ci := 1) (q0 := 0) rfl rfl, fun U hU hW => ⟨rfl, by rw [hU], by rw [hU]; exact hPc, va_K.moved hW.alike hKc, hDc.weaken (fun _ _ _ _ => trivial)⟩⟩ rfl rfl hl.1 rfl (lv_room (Nat.le_of_ble_eq_true rfl)) dL_law_289 ⟨Nat.le_of_ble_eq_true rfl, Nat.le_of_ble_eq_true rfl⟩) hS (fun q _ h => hFc q h) hFc (fun u t H1 locs ht hvm hw_289 hB hz1 hk1 hS => ?_)
      obtain ⟨hP1, hK1, hD1⟩ := hB
      rw [ht] at hP1
      try dsimp only at hw_289 hP1 hD1
      obtain ⟨hP, hD⟩ := va_join (wr := rt_xw q0 q1 q2 k1 k2 f g (nI en) (nI rn) cnt ((xs ((nI i) + 1).toNatClampNeg) &&& 268435455) 0 0 msk sr sav tkn) (w1 := rt_mw q3 q4 q5 k3 k4 f g (nI en) (nI rn) cnt ((xs ((nI i) + 1).toNatClampNeg) &&& 268435455) 0 0 msk sr sav tkn (nI kn)) hP hD [3, 4, 5] [0, 1, 2] rfl rfl (by decide) (by decide) hk1 hFc hP1 hD1
      generalize H1 = H at hP hS ⊢
      have hP : va_P (dC, dI) vwCl (rt_xw q0 q1 q2 k1 k2 f g (nI en) (nI rn) cnt ((xs ((nI i) + 1).toNatClampNeg) &&& 268435455) 0 0 msk sr sav tkn ++ rt_mw q3 q4 q5 k3 k4 f g (nI en) (nI rn) cnt ((xs ((nI i) + 1).toNatClampNeg) &&& 268435455) 0 0 msk sr sav tkn (nI kn)) H := hP
      have hD : va_D (fun q : Nat => s.heap.size ≤ q) (rt_xw q0 q1 q2 k1 k2 f g (nI en) (nI rn) cnt ((xs ((nI i) + 1).toNatClampNeg) &&& 268435455) 0 0 msk sr sav tkn ++ rt_mw q3 q4 q5 k3 k4 f g (nI en) (nI rn) cnt ((xs ((nI i) + 1).toNatClampNeg) &&& 268435455) 0 0 msk sr sav tkn (nI kn)) := hD
      refine lv_goto (tgt := 435) hx hb dL_law_292 (by decide) ?_
      obtain ⟨pj, hpj, ej⟩ := pk_andE (xs (nI i + 1).toNatClampNeg) (m := 268435455) 28 (by decide)
      rw [ej] at hP hD
      exact kk f g en rn kn pj cnt 0 0 msk sr sav tkn (⟨h32, hrl, hpj, hs, hc⟩) H locs ls hP hD hS hl
    · refine lv_iconst (v := 1) hx hb dL_law_249 (by decide) ?_
      refine lv_goto (tgt := 254) hx hb dL_law_250 (by decide) ?_
      have hPc := hP.sub (ws' := rt_xw q0 q1 q2 k1 k2 f g (nI en) (nI rn) cnt (nI pn) cng pnd msk sr sav tkn) [0, 1, 2] rfl
      have hDc := hD.sub (ws' := rt_xw q0 q1 q2 k1 k2 f g (nI en) (nI rn) cnt (nI pn) cng pnd msk sr sav tkn) [0, 1, 2] (by decide) rfl
      have hKc := hK.sub (tys' := [(k1, .int), (k2, .int)]) [0, 1] rfl
      have hFc := va_free (wc := rt_xw q0 q1 q2 k1 k2 f g (nI en) (nI rn) cnt (nI pn) cng pnd msk sr sav tkn) hD hS hA [0, 1, 2] rfl
      refine va_callv (va_runV (As := [.int (xs ((nI i) + 1).toNatClampNeg), .int 0, .int 1]) (rest := []) ⟨hx, hb, hml, hown, hts⟩ (c_X_timer l dC dI q0 q1 q2 H.size k1 k2 f g (nI en) (nI rn) cnt (nI pn) cng pnd msk sr sav tkn (xs ((nI i) + 1).toNatClampNeg) 0 1 (Or.inl rfl) (Or.inr rfl)) (cwV 3 hts gL_law_X0_timer rfl rfl rfl (by decide +kernel) ⟨Nat.le_of_ble_eq_true rfl, Nat.le_of_ble_eq_true rfl⟩) ⟨fun a U g mk q => by obtain ⟨q0, q1, qP, qK, qD⟩ := q; exact ⟨q0, q1, qP, va_K.moved (u := U) (U := U.calling g mk a) (Vm.Alike.refl U.vm) qK, qD⟩, va_recv hKc hPc (ci := 0) (q0 := 0) rfl rfl, fun U hU hW => ⟨rfl, by rw [hU], by rw [hU]; exact hPc, va_K.moved hW.alike hKc, hDc.weaken (fun _ _ _ _ => trivial)⟩⟩ rfl rfl hl.1 rfl (lv_room (Nat.le_of_ble_eq_true rfl)) dL_law_254 ⟨Nat.le_of_ble_eq_true rfl, Nat.le_of_ble_eq_true rfl⟩) hS (fun q _ h => hFc q h) hFc (fun u t H1 locs ht hvm hw_254 hB hz1 hk1 hS => ?_)
      obtain ⟨hP1, hK1, hD1⟩ := hB
      rw [ht] at hP1
      try dsimp only at hw_254 hP1 hD1
      obtain ⟨hP, hD⟩ := va_join (wr := rt_mw q3 q4 q5 k3 k4 f g (nI en) (nI rn) cnt (nI pn) cng pnd msk sr sav tkn (nI kn)) (w1 := rt_xw q0 q1 q2 k1 k2 f g (nI en) (nI rn) cnt ((xs ((nI i) + 1).toNatClampNeg) &&& 268435455) 0 1 msk sr sav tkn) hP hD [0, 1, 2] [3, 4, 5] rfl rfl (by decide) (by decide) hk1 hFc hP1 hD1
      have hP := hP.sub (ws' := rt_xw q0 q1 q2 k1 k2 f g (nI en) (nI rn) cnt ((xs ((nI i) + 1).toNatClampNeg) &&& 268435455) 0 1 msk sr sav tkn ++ rt_mw q3 q4 q5 k3 k4 f g (nI en) (nI rn) cnt (nI pn) cng pnd msk sr sav tkn (nI kn)) [3, 4, 5, 0, 1, 2] rfl
      have hD := hD.sub (ws' := rt_xw q0 q1 q2 k1 k2 f g (nI en) (nI rn) cnt ((xs ((nI i) + 1).toNatClampNeg) &&& 268435455) 0 1 msk sr sav tkn ++ rt_mw q3 q4 q5 k3 k4 f g (nI en) (nI rn) cnt (nI pn) cng pnd msk sr sav tkn (nI kn)) [3, 4, 5, 0, 1, 2] (by decide) rfl
      generalize H1 = H at hP hS ⊢
      have hP : va_P (dC, dI) vwCl (rt_xw q0 q1 q2 k1 k2 f g (nI en) (nI rn) cnt ((xs ((nI i) + 1).toNatClampNeg) &&& 268435455) 0 1 msk sr sav tkn ++ rt_mw q3 q4 q5 k3 k4 f g (nI en) (nI rn) cnt (nI pn) cng pnd msk sr sav tkn (nI kn)) H := hP
      have hD : va_D (fun q : Nat => s.heap.size ≤ q) (rt_xw q0 q1 q2 k1 k2 f g (nI en) (nI rn) cnt ((xs ((nI i) + 1).toNatClampNeg) &&& 268435455) 0 1 msk sr sav tkn ++ rt_mw q3 q4 q5 k3 k4 f g (nI en) (nI rn) cnt (nI pn) cng pnd msk sr sav tkn (nI kn)) := hD
      refine lv_aload_n hx hb dL_law_257 rfl (lv_at hl 2 rfl) ?_
      refine lv_aload_n hx hb dL_law_258 rfl (lv_at hl 0 rfl) ?_
      refine lv_iload_n hx hb dL_law_259 rfl (lv_at hl 3 rfl) ?_
      refine lv_iconst (v := 1) hx hb dL_law_260 (by decide) ?_
      refine lv_iadd hx hb dL_law_261 ?_
      refine va_sld hx hb hX hbl hbA hS (rt_in1 hi hL) dL_law_262 ?_
      refine lv_aload_n hx hb dL_law_263 rfl (lv_at hl 0 rfl) ?_
      refine lv_iload_n hx hb dL_law_264 rfl (lv_at hl 3 rfl) ?_
      refine lv_iconst (v := 2) hx hb dL_law_265 (by decide) ?_
      refine lv_iadd hx hb dL_law_266 ?_
      refine va_sld hx hb hX hbl hbA hS (rt_in2 hi hL) dL_law_267 ?_
      refine lv_if_eq (tgt := 275) hx hb dL_law_268 (by decide) (fun c_268 => ?_) (fun c_268 => absurd c_233 c_268)
      refine lv_iconst (v := 0) hx hb dL_law_275 (by decide) ?_
      refine lv_aload_n hx hb dL_law_276 rfl (lv_at hl 0 rfl) ?_
      refine lv_iload_n hx hb dL_law_277 rfl (lv_at hl 3 rfl) ?_
      refine lv_iconst (v := 3) hx hb dL_law_278 (by decide) ?_
      refine lv_iadd hx hb dL_law_279 ?_
      refine va_sld hx hb hX hbl hbA hS (rt_in3 hi hL) dL_law_280 ?_
      refine lv_if_eq (tgt := 288) hx hb dL_law_281 (by decide) (fun c_281 => absurd c_281 c_246) (fun c_281 => ?_)
      refine lv_iconst (v := 1) hx hb dL_law_284 (by decide) ?_
      refine lv_goto (tgt := 289) hx hb dL_law_285 (by decide) ?_
      have hPc := hP.sub (ws' := rt_mw q3 q4 q5 k3 k4 f g (nI en) (nI rn) cnt (nI pn) cng pnd msk sr sav tkn (nI kn)) [3, 4, 5] rfl
      have hDc := hD.sub (ws' := rt_mw q3 q4 q5 k3 k4 f g (nI en) (nI rn) cnt (nI pn) cng pnd msk sr sav tkn (nI kn)) [3, 4, 5] (by decide) rfl
      have hKc := hK.sub (tys' := [(k3, .int), (k4, .int)]) [2, 3] rfl
      have hFc := va_free (wc := rt_mw q3 q4 q5 k3 k4 f g (nI en) (nI rn) cnt (nI pn) cng pnd msk sr sav tkn (nI kn)) hD hS hA [3, 4, 5] rfl
      refine va_callv (va_runV (As := [.int (xs ((nI i) + 1).toNatClampNeg), .int 0, .int 1]) (rest := []) ⟨hx, hb, hml, hown, hts⟩ (c_M_timer l dC dI q3 q4 q5 H.size k3 k4 f g (nI en) (nI rn) cnt (nI pn) cng pnd msk sr sav tkn (nI kn) (xs ((nI i) + 1).toNatClampNeg) 0 1 (Or.inl rfl) (Or.inr rfl)) (cwV 3 htb gL_law_X1_timer rfl rfl rfl (by decide +kernel) ⟨Nat.le_of_ble_eq_true rfl, Nat.le_of_ble_eq_true rfl⟩) ⟨fun a U g mk q => by obtain ⟨q0, q1, qP, qK, qD⟩ := q; exact ⟨q0, q1, qP, va_K.moved (u := U) (U := U.calling g mk a) (Vm.Alike.refl U.vm) qK, qD⟩, va_recv hKc hPc (ci := 1) (q0 := 0) rfl rfl, fun U hU hW => ⟨rfl, by rw [hU], by rw [hU]; exact hPc, va_K.moved hW.alike hKc, hDc.weaken (fun _ _ _ _ => trivial)⟩⟩ rfl rfl hl.1 rfl (lv_room (Nat.le_of_ble_eq_true rfl)) dL_law_289 ⟨Nat.le_of_ble_eq_true rfl, Nat.le_of_ble_eq_true rfl⟩) hS (fun q _ h => hFc q h) hFc (fun u t H1 locs ht hvm hw_289 hB hz1 hk1 hS => ?_)
      obtain ⟨hP1, hK1, hD1⟩ := hB
      rw [ht] at hP1
      try dsimp only at hw_289 hP1 hD1
      obtain ⟨hP, hD⟩ := va_join (wr := rt_xw q0 q1 q2 k1 k2 f g (nI en) (nI rn) cnt ((xs ((nI i) + 1).toNatClampNeg) &&& 268435455) 0 1 msk sr sav tkn) (w1 := rt_mw q3 q4 q5 k3 k4 f g (nI en) (nI rn) cnt ((xs ((nI i) + 1).toNatClampNeg) &&& 268435455) 0 1 msk sr sav tkn (nI kn)) hP hD [3, 4, 5] [0, 1, 2] rfl rfl (by decide) (by decide) hk1 hFc hP1 hD1
      generalize H1 = H at hP hS ⊢
      have hP : va_P (dC, dI) vwCl (rt_xw q0 q1 q2 k1 k2 f g (nI en) (nI rn) cnt ((xs ((nI i) + 1).toNatClampNeg) &&& 268435455) 0 1 msk sr sav tkn ++ rt_mw q3 q4 q5 k3 k4 f g (nI en) (nI rn) cnt ((xs ((nI i) + 1).toNatClampNeg) &&& 268435455) 0 1 msk sr sav tkn (nI kn)) H := hP
      have hD : va_D (fun q : Nat => s.heap.size ≤ q) (rt_xw q0 q1 q2 k1 k2 f g (nI en) (nI rn) cnt ((xs ((nI i) + 1).toNatClampNeg) &&& 268435455) 0 1 msk sr sav tkn ++ rt_mw q3 q4 q5 k3 k4 f g (nI en) (nI rn) cnt ((xs ((nI i) + 1).toNatClampNeg) &&& 268435455) 0 1 msk sr sav tkn (nI kn)) := hD
      refine lv_goto (tgt := 435) hx hb dL_law_292 (by decide) ?_
      obtain ⟨pj, hpj, ej⟩ := pk_andE (xs (nI i + 1).toNatClampNeg) (m := 268435455) 28 (by decide)
      rw [ej] at hP hD
      exact kk f g en rn kn pj cnt 0 1 msk sr sav tkn (⟨h32, hrl, hpj, hs, hc⟩) H locs ls hP hD hS hl
  · refine lv_iconst (v := 1) hx hb dL_law_236 (by decide) ?_
    refine lv_goto (tgt := 241) hx hb dL_law_237 (by decide) ?_
    refine lv_aload_n hx hb dL_law_241 rfl (lv_at hl 0 rfl) ?_
    refine lv_iload_n hx hb dL_law_242 rfl (lv_at hl 3 rfl) ?_
    refine lv_iconst (v := 3) hx hb dL_law_243 (by decide) ?_
    refine lv_iadd hx hb dL_law_244 ?_
    refine va_sld hx hb hX hbl hbA hS (rt_in3 hi hL) dL_law_245 ?_
    refine lv_if_eq (tgt := 253) hx hb dL_law_246 (by decide) (fun c_246 => ?_) (fun c_246 => ?_)
    · refine lv_iconst (v := 0) hx hb dL_law_253 (by decide) ?_
      have hPc := hP.sub (ws' := rt_xw q0 q1 q2 k1 k2 f g (nI en) (nI rn) cnt (nI pn) cng pnd msk sr sav tkn) [0, 1, 2] rfl
      have hDc := hD.sub (ws' := rt_xw q0 q1 q2 k1 k2 f g (nI en) (nI rn) cnt (nI pn) cng pnd msk sr sav tkn) [0, 1, 2] (by decide) rfl
      have hKc := hK.sub (tys' := [(k1, .int), (k2, .int)]) [0, 1] rfl
      have hFc := va_free (wc := rt_xw q0 q1 q2 k1 k2 f g (nI en) (nI rn) cnt (nI pn) cng pnd msk sr sav tkn) hD hS hA [0, 1, 2] rfl
      refine va_callv (va_runV (As := [.int (xs ((nI i) + 1).toNatClampNeg), .int 1, .int 0]) (rest := []) ⟨hx, hb, hml, hown, hts⟩ (c_X_timer l dC dI q0 q1 q2 H.size k1 k2 f g (nI en) (nI rn) cnt (nI pn) cng pnd msk sr sav tkn (xs ((nI i) + 1).toNatClampNeg) 1 0 (Or.inr rfl) (Or.inl rfl)) (cwV 3 hts gL_law_X0_timer rfl rfl rfl (by decide +kernel) ⟨Nat.le_of_ble_eq_true rfl, Nat.le_of_ble_eq_true rfl⟩) ⟨fun a U g mk q => by obtain ⟨q0, q1, qP, qK, qD⟩ := q; exact ⟨q0, q1, qP, va_K.moved (u := U) (U := U.calling g mk a) (Vm.Alike.refl U.vm) qK, qD⟩, va_recv hKc hPc (ci := 0) (q0 := 0) rfl rfl, fun U hU hW => ⟨rfl, by rw [hU], by rw [hU]; exact hPc, va_K.moved hW.alike hKc, hDc.weaken (fun _ _ _ _ => trivial)⟩⟩ rfl rfl hl.1 rfl (lv_room (Nat.le_of_ble_eq_true rfl)) dL_law_254 ⟨Nat.le_of_ble_eq_true rfl, Nat.le_of_ble_eq_true rfl⟩) hS (fun q _ h => hFc q h) hFc (fun u t H1 locs ht hvm hw_254 hB hz1 hk1 hS => ?_)
      obtain ⟨hP1, hK1, hD1⟩ := hB
      rw [ht] at hP1
      try dsimp only at hw_254 hP1 hD1
      obtain ⟨hP, hD⟩ := va_join (wr := rt_mw q3 q4 q5 k3 k4 f g (nI en) (nI rn) cnt (nI pn) cng pnd msk sr sav tkn (nI kn)) (w1 := rt_xw q0 q1 q2 k1 k2 f g (nI en) (nI rn) cnt ((xs ((nI i) + 1).toNatClampNeg) &&& 268435455) 1 0 msk sr sav tkn) hP hD [0, 1, 2] [3, 4, 5] rfl rfl (by decide) (by decide) hk1 hFc hP1 hD1
      have hP := hP.sub (ws' := rt_xw q0 q1 q2 k1 k2 f g (nI en) (nI rn) cnt ((xs ((nI i) + 1).toNatClampNeg) &&& 268435455) 1 0 msk sr sav tkn ++ rt_mw q3 q4 q5 k3 k4 f g (nI en) (nI rn) cnt (nI pn) cng pnd msk sr sav tkn (nI kn)) [3, 4, 5, 0, 1, 2] rfl
      have hD := hD.sub (ws' := rt_xw q0 q1 q2 k1 k2 f g (nI en) (nI rn) cnt ((xs ((nI i) + 1).toNatClampNeg) &&& 268435455) 1 0 msk sr sav tkn ++ rt_mw q3 q4 q5 k3 k4 f g (nI en) (nI rn) cnt (nI pn) cng pnd msk sr sav tkn (nI kn)) [3, 4, 5, 0, 1, 2] (by decide) rfl
      generalize H1 = H at hP hS ⊢
      have hP : va_P (dC, dI) vwCl (rt_xw q0 q1 q2 k1 k2 f g (nI en) (nI rn) cnt ((xs ((nI i) + 1).toNatClampNeg) &&& 268435455) 1 0 msk sr sav tkn ++ rt_mw q3 q4 q5 k3 k4 f g (nI en) (nI rn) cnt (nI pn) cng pnd msk sr sav tkn (nI kn)) H := hP
      have hD : va_D (fun q : Nat => s.heap.size ≤ q) (rt_xw q0 q1 q2 k1 k2 f g (nI en) (nI rn) cnt ((xs ((nI i) + 1).toNatClampNeg) &&& 268435455) 1 0 msk sr sav tkn ++ rt_mw q3 q4 q5 k3 k4 f g (nI en) (nI rn) cnt (nI pn) cng pnd msk sr sav tkn (nI kn)) := hD
      refine lv_aload_n hx hb dL_law_257 rfl (lv_at hl 2 rfl) ?_
      refine lv_aload_n hx hb dL_law_258 rfl (lv_at hl 0 rfl) ?_
      refine lv_iload_n hx hb dL_law_259 rfl (lv_at hl 3 rfl) ?_
      refine lv_iconst (v := 1) hx hb dL_law_260 (by decide) ?_
      refine lv_iadd hx hb dL_law_261 ?_
      refine va_sld hx hb hX hbl hbA hS (rt_in1 hi hL) dL_law_262 ?_
      refine lv_aload_n hx hb dL_law_263 rfl (lv_at hl 0 rfl) ?_
      refine lv_iload_n hx hb dL_law_264 rfl (lv_at hl 3 rfl) ?_
      refine lv_iconst (v := 2) hx hb dL_law_265 (by decide) ?_
      refine lv_iadd hx hb dL_law_266 ?_
      refine va_sld hx hb hX hbl hbA hS (rt_in2 hi hL) dL_law_267 ?_
      refine lv_if_eq (tgt := 275) hx hb dL_law_268 (by decide) (fun c_268 => absurd c_268 c_233) (fun c_268 => ?_)
      refine lv_iconst (v := 1) hx hb dL_law_271 (by decide) ?_
      refine lv_goto (tgt := 276) hx hb dL_law_272 (by decide) ?_
      refine lv_aload_n hx hb dL_law_276 rfl (lv_at hl 0 rfl) ?_
      refine lv_iload_n hx hb dL_law_277 rfl (lv_at hl 3 rfl) ?_
      refine lv_iconst (v := 3) hx hb dL_law_278 (by decide) ?_
      refine lv_iadd hx hb dL_law_279 ?_
      refine va_sld hx hb hX hbl hbA hS (rt_in3 hi hL) dL_law_280 ?_
      refine lv_if_eq (tgt := 288) hx hb dL_law_281 (by decide) (fun c_281 => ?_) (fun c_281 => absurd c_246 c_281)
      refine lv_iconst (v := 0) hx hb dL_law_288 (by decide) ?_
      have hPc := hP.sub (ws' := rt_mw q3 q4 q5 k3 k4 f g (nI en) (nI rn) cnt (nI pn) cng pnd msk sr sav tkn (nI kn)) [3, 4, 5] rfl
      have hDc := hD.sub (ws' := rt_mw q3 q4 q5 k3 k4 f g (nI en) (nI rn) cnt (nI pn) cng pnd msk sr sav tkn (nI kn)) [3, 4, 5] (by decide) rfl
      have hKc := hK.sub (tys' := [(k3, .int), (k4, .int)]) [2, 3] rfl
      have hFc := va_free (wc := rt_mw q3 q4 q5 k3 k4 f g (nI en) (nI rn) cnt (nI pn) cng pnd msk sr sav tkn (nI kn)) hD hS hA [3, 4, 5] rfl
      refine va_callv (va_runV (As := [.int (xs ((nI i) + 1).toNatClampNeg), .int 1, .int 0]) (rest := []) ⟨hx, hb, hml, hown, hts⟩ (c_M_timer l dC dI q3 q4 q5 H.size k3 k4 f g (nI en) (nI rn) cnt (nI pn) cng pnd msk sr sav tkn (nI kn) (xs ((nI i) + 1).toNatClampNeg) 1 0 (Or.inr rfl) (Or.inl rfl)) (cwV 3 htb gL_law_X1_timer rfl rfl rfl (by decide +kernel) ⟨Nat.le_of_ble_eq_true rfl, Nat.le_of_ble_eq_true rfl⟩) ⟨fun a U g mk q => by obtain ⟨q0, q1, qP, qK, qD⟩ := q; exact ⟨q0, q1, qP, va_K.moved (u := U) (U := U.calling g mk a) (Vm.Alike.refl U.vm) qK, qD⟩, va_recv hKc hPc (ci := 1) (q0 := 0) rfl rfl, fun U hU hW => ⟨rfl, by rw [hU], by rw [hU]; exact hPc, va_K.moved hW.alike hKc, hDc.weaken (fun _ _ _ _ => trivial)⟩⟩ rfl rfl hl.1 rfl (lv_room (Nat.le_of_ble_eq_true rfl)) dL_law_289 ⟨Nat.le_of_ble_eq_true rfl, Nat.le_of_ble_eq_true rfl⟩) hS (fun q _ h => hFc q h) hFc (fun u t H1 locs ht hvm hw_289 hB hz1 hk1 hS => ?_)
      obtain ⟨hP1, hK1, hD1⟩ := hB
      rw [ht] at hP1
      try dsimp only at hw_289 hP1 hD1
      obtain ⟨hP, hD⟩ := va_join (wr := rt_xw q0 q1 q2 k1 k2 f g (nI en) (nI rn) cnt ((xs ((nI i) + 1).toNatClampNeg) &&& 268435455) 1 0 msk sr sav tkn) (w1 := rt_mw q3 q4 q5 k3 k4 f g (nI en) (nI rn) cnt ((xs ((nI i) + 1).toNatClampNeg) &&& 268435455) 1 0 msk sr sav tkn (nI kn)) hP hD [3, 4, 5] [0, 1, 2] rfl rfl (by decide) (by decide) hk1 hFc hP1 hD1
      generalize H1 = H at hP hS ⊢
      have hP : va_P (dC, dI) vwCl (rt_xw q0 q1 q2 k1 k2 f g (nI en) (nI rn) cnt ((xs ((nI i) + 1).toNatClampNeg) &&& 268435455) 1 0 msk sr sav tkn ++ rt_mw q3 q4 q5 k3 k4 f g (nI en) (nI rn) cnt ((xs ((nI i) + 1).toNatClampNeg) &&& 268435455) 1 0 msk sr sav tkn (nI kn)) H := hP
      have hD : va_D (fun q : Nat => s.heap.size ≤ q) (rt_xw q0 q1 q2 k1 k2 f g (nI en) (nI rn) cnt ((xs ((nI i) + 1).toNatClampNeg) &&& 268435455) 1 0 msk sr sav tkn ++ rt_mw q3 q4 q5 k3 k4 f g (nI en) (nI rn) cnt ((xs ((nI i) + 1).toNatClampNeg) &&& 268435455) 1 0 msk sr sav tkn (nI kn)) := hD
      refine lv_goto (tgt := 435) hx hb dL_law_292 (by decide) ?_
      obtain ⟨pj, hpj, ej⟩ := pk_andE (xs (nI i + 1).toNatClampNeg) (m := 268435455) 28 (by decide)
      rw [ej] at hP hD
      exact kk f g en rn kn pj cnt 1 0 msk sr sav tkn (⟨h32, hrl, hpj, hs, hc⟩) H locs ls hP hD hS hl
    · refine lv_iconst (v := 1) hx hb dL_law_249 (by decide) ?_
      refine lv_goto (tgt := 254) hx hb dL_law_250 (by decide) ?_
      have hPc := hP.sub (ws' := rt_xw q0 q1 q2 k1 k2 f g (nI en) (nI rn) cnt (nI pn) cng pnd msk sr sav tkn) [0, 1, 2] rfl
      have hDc := hD.sub (ws' := rt_xw q0 q1 q2 k1 k2 f g (nI en) (nI rn) cnt (nI pn) cng pnd msk sr sav tkn) [0, 1, 2] (by decide) rfl
      have hKc := hK.sub (tys' := [(k1, .int), (k2, .int)]) [0, 1] rfl
      have hFc := va_free (wc := rt_xw q0 q1 q2 k1 k2 f g (nI en) (nI rn) cnt (nI pn) cng pnd msk sr sav tkn) hD hS hA [0, 1, 2] rfl
      refine va_callv (va_runV (As := [.int (xs ((nI i) + 1).toNatClampNeg), .int 1, .int 1]) (rest := []) ⟨hx, hb, hml, hown, hts⟩ (c_X_timer l dC dI q0 q1 q2 H.size k1 k2 f g (nI en) (nI rn) cnt (nI pn) cng pnd msk sr sav tkn (xs ((nI i) + 1).toNatClampNeg) 1 1 (Or.inr rfl) (Or.inr rfl)) (cwV 3 hts gL_law_X0_timer rfl rfl rfl (by decide +kernel) ⟨Nat.le_of_ble_eq_true rfl, Nat.le_of_ble_eq_true rfl⟩) ⟨fun a U g mk q => by obtain ⟨q0, q1, qP, qK, qD⟩ := q; exact ⟨q0, q1, qP, va_K.moved (u := U) (U := U.calling g mk a) (Vm.Alike.refl U.vm) qK, qD⟩, va_recv hKc hPc (ci := 0) (q0 := 0) rfl rfl, fun U hU hW => ⟨rfl, by rw [hU], by rw [hU]; exact hPc, va_K.moved hW.alike hKc, hDc.weaken (fun _ _ _ _ => trivial)⟩⟩ rfl rfl hl.1 rfl (lv_room (Nat.le_of_ble_eq_true rfl)) dL_law_254 ⟨Nat.le_of_ble_eq_true rfl, Nat.le_of_ble_eq_true rfl⟩) hS (fun q _ h => hFc q h) hFc (fun u t H1 locs ht hvm hw_254 hB hz1 hk1 hS => ?_)
      obtain ⟨hP1, hK1, hD1⟩ := hB
      rw [ht] at hP1
      try dsimp only at hw_254 hP1 hD1
      obtain ⟨hP, hD⟩ := va_join (wr := rt_mw q3 q4 q5 k3 k4 f g (nI en) (nI rn) cnt (nI pn) cng pnd msk sr sav tkn (nI kn)) (w1 := rt_xw q0 q1 q2 k1 k2 f g (nI en) (nI rn) cnt ((xs ((nI i) + 1).toNatClampNeg) &&& 268435455) 1 1 msk sr sav tkn) hP hD [0, 1, 2] [3, 4, 5] rfl rfl (by decide) (by decide) hk1 hFc hP1 hD1
      have hP := hP.sub (ws' := rt_xw q0 q1 q2 k1 k2 f g (nI en) (nI rn) cnt ((xs ((nI i) + 1).toNatClampNeg) &&& 268435455) 1 1 msk sr sav tkn ++ rt_mw q3 q4 q5 k3 k4 f g (nI en) (nI rn) cnt (nI pn) cng pnd msk sr sav tkn (nI kn)) [3, 4, 5, 0, 1, 2] rfl
      have hD := hD.sub (ws' := rt_xw q0 q1 q2 k1 k2 f g (nI en) (nI rn) cnt ((xs ((nI i) + 1).toNatClampNeg) &&& 268435455) 1 1 msk sr sav tkn ++ rt_mw q3 q4 q5 k3 k4 f g (nI en) (nI rn) cnt (nI pn) cng pnd msk sr sav tkn (nI kn)) [3, 4, 5, 0, 1, 2] (by decide) rfl
      generalize H1 = H at hP hS ⊢
      have hP : va_P (dC, dI) vwCl (rt_xw q0 q1 q2 k1 k2 f g (nI en) (nI rn) cnt ((xs ((nI i) + 1).toNatClampNeg) &&& 268435455) 1 1 msk sr sav tkn ++ rt_mw q3 q4 q5 k3 k4 f g (nI en) (nI rn) cnt (nI pn) cng pnd msk sr sav tkn (nI kn)) H := hP
      have hD : va_D (fun q : Nat => s.heap.size ≤ q) (rt_xw q0 q1 q2 k1 k2 f g (nI en) (nI rn) cnt ((xs ((nI i) + 1).toNatClampNeg) &&& 268435455) 1 1 msk sr sav tkn ++ rt_mw q3 q4 q5 k3 k4 f g (nI en) (nI rn) cnt (nI pn) cng pnd msk sr sav tkn (nI kn)) := hD
      refine lv_aload_n hx hb dL_law_257 rfl (lv_at hl 2 rfl) ?_
      refine lv_aload_n hx hb dL_law_258 rfl (lv_at hl 0 rfl) ?_
      refine lv_iload_n hx hb dL_law_259 rfl (lv_at hl 3 rfl) ?_
      refine lv_iconst (v := 1) hx hb dL_law_260 (by decide) ?_
      refine lv_iadd hx hb dL_law_261 ?_
      refine va_sld hx hb hX hbl hbA hS (rt_in1 hi hL) dL_law_262 ?_
      refine lv_aload_n hx hb dL_law_263 rfl (lv_at hl 0 rfl) ?_
      refine lv_iload_n hx hb dL_law_264 rfl (lv_at hl 3 rfl) ?_
      refine lv_iconst (v := 2) hx hb dL_law_265 (by decide) ?_
      refine lv_iadd hx hb dL_law_266 ?_
      refine va_sld hx hb hX hbl hbA hS (rt_in2 hi hL) dL_law_267 ?_
      refine lv_if_eq (tgt := 275) hx hb dL_law_268 (by decide) (fun c_268 => absurd c_268 c_233) (fun c_268 => ?_)
      refine lv_iconst (v := 1) hx hb dL_law_271 (by decide) ?_
      refine lv_goto (tgt := 276) hx hb dL_law_272 (by decide) ?_
      refine lv_aload_n hx hb dL_law_276 rfl (lv_at hl 0 rfl) ?_
      refine lv_iload_n hx hb dL_law_277 rfl (lv_at hl 3 rfl) ?_
      refine lv_iconst (v := 3) hx hb dL_law_278 (by decide) ?_
      refine lv_iadd hx hb dL_law_279 ?_
      refine va_sld hx hb hX hbl hbA hS (rt_in3 hi hL) dL_law_280 ?_
      refine lv_if_eq (tgt := 288) hx hb dL_law_281 (by decide) (fun c_281 => absurd c_281 c_246) (fun c_281 => ?_)
      refine lv_iconst (v := 1) hx hb dL_law_284 (by decide) ?_
      refine lv_goto (tgt := 289) hx hb dL_law_285 (by decide) ?_
      have hPc := hP.sub (ws' := rt_mw q3 q4 q5 k3 k4 f g (nI en) (nI rn) cnt (nI pn) cng pnd msk sr sav tkn (nI kn)) [3, 4, 5] rfl
      have hDc := hD.sub (ws' := rt_mw q3 q4 q5 k3 k4 f g (nI en) (nI rn) cnt (nI pn) cng pnd msk sr sav tkn (nI kn)) [3, 4, 5] (by decide) rfl
      have hKc := hK.sub (tys' := [(k3, .int), (k4, .int)]) [2, 3] rfl
      have hFc := va_free (wc := rt_mw q3 q4 q5 k3 k4 f g (nI en) (nI rn) cnt (nI pn) cng pnd msk sr sav tkn (nI kn)) hD hS hA [3, 4, 5] rfl
      refine va_callv (va_runV (As := [.int (xs ((nI i) + 1).toNatClampNeg), .int 1, .int 1]) (rest := []) ⟨hx, hb, hml, hown, hts⟩ (c_M_timer l dC dI q3 q4 q5 H.size k3 k4 f g (nI en) (nI rn) cnt (nI pn) cng pnd msk sr sav tkn (nI kn) (xs ((nI i) + 1).toNatClampNeg) 1 1 (Or.inr rfl) (Or.inr rfl)) (cwV 3 htb gL_law_X1_timer rfl rfl rfl (by decide +kernel) ⟨Nat.le_of_ble_eq_true rfl, Nat.le_of_ble_eq_true rfl⟩) ⟨fun a U g mk q => by obtain ⟨q0, q1, qP, qK, qD⟩ := q; exact ⟨q0, q1, qP, va_K.moved (u := U) (U := U.calling g mk a) (Vm.Alike.refl U.vm) qK, qD⟩, va_recv hKc hPc (ci := 1) (q0 := 0) rfl rfl, fun U hU hW => ⟨rfl, by rw [hU], by rw [hU]; exact hPc, va_K.moved hW.alike hKc, hDc.weaken (fun _ _ _ _ => trivial)⟩⟩ rfl rfl hl.1 rfl (lv_room (Nat.le_of_ble_eq_true rfl)) dL_law_289 ⟨Nat.le_of_ble_eq_true rfl, Nat.le_of_ble_eq_true rfl⟩) hS (fun q _ h => hFc q h) hFc (fun u t H1 locs ht hvm hw_289 hB hz1 hk1 hS => ?_)
      obtain ⟨hP1, hK1, hD1⟩ := hB
      rw [ht] at hP1
      try dsimp only at hw_289 hP1 hD1
      obtain ⟨hP, hD⟩ := va_join (wr := rt_xw q0 q1 q2 k1 k2 f g (nI en) (nI rn) cnt ((xs ((nI i) + 1).toNatClampNeg) &&& 268435455) 1 1 msk sr sav tkn) (w1 := rt_mw q3 q4 q5 k3 k4 f g (nI en) (nI rn) cnt ((xs ((nI i) + 1).toNatClampNeg) &&& 268435455) 1 1 msk sr sav tkn (nI kn)) hP hD [3, 4, 5] [0, 1, 2] rfl rfl (by decide) (by decide) hk1 hFc hP1 hD1
      generalize H1 = H at hP hS ⊢
      have hP : va_P (dC, dI) vwCl (rt_xw q0 q1 q2 k1 k2 f g (nI en) (nI rn) cnt ((xs ((nI i) + 1).toNatClampNeg) &&& 268435455) 1 1 msk sr sav tkn ++ rt_mw q3 q4 q5 k3 k4 f g (nI en) (nI rn) cnt ((xs ((nI i) + 1).toNatClampNeg) &&& 268435455) 1 1 msk sr sav tkn (nI kn)) H := hP
      have hD : va_D (fun q : Nat => s.heap.size ≤ q) (rt_xw q0 q1 q2 k1 k2 f g (nI en) (nI rn) cnt ((xs ((nI i) + 1).toNatClampNeg) &&& 268435455) 1 1 msk sr sav tkn ++ rt_mw q3 q4 q5 k3 k4 f g (nI en) (nI rn) cnt ((xs ((nI i) + 1).toNatClampNeg) &&& 268435455) 1 1 msk sr sav tkn (nI kn)) := hD
      refine lv_goto (tgt := 435) hx hb dL_law_292 (by decide) ?_
      obtain ⟨pj, hpj, ej⟩ := pk_andE (xs (nI i + 1).toNatClampNeg) (m := 268435455) 28 (by decide)
      rw [ej] at hP hD
      exact kk f g en rn kn pj cnt 1 1 msk sr sav tkn (⟨h32, hrl, hpj, hs, hc⟩) H locs ls hP hD hS hl
set_option maxHeartbeats 4000000 in
set_option maxRecDepth 100000 in
theorem law_c7 {p : Program} {l : Launch} {e0 : Env} {s : State} {m : MethodId} {below : List Frame} {meth : Method} {c : Code} {dC : Nat → ClassId} {dI : Nat → Nat → Nat} {b L : Nat} {xs : Nat → Int32} (hL : L ≤ 2048) (C0 : lw_At p s m meth c b L xs) {q0 q1 q2 q3 q4 q5 : Nat} {k1 k2 k3 k4 : ClassId} (hK : va_K (dC, dI) vwCl [(k1, .int), (k2, .int), (k3, .int), (k4, .int)] s) {i : Nat} (hi : i + 4 ≤ L) (kk : ∀ (f g : Nat → Int32) (en rn kn pn : Nat) (cnt cng pnd msk sr sav tkn : Int32), rt_Inv f en rn kn pn → ∀ (H : Heap) (locs : List Loc) (ls : Array Slot), va_P (dC, dI) vwCl (rt_xw q0 q1 q2 k1 k2 f g (nI en) (nI rn) cnt (nI pn) cng pnd msk sr sav tkn ++ rt_mw q3 q4 q5 k3 k4 f g (nI en) (nI rn) cnt (nI pn) cng pnd msk sr sav tkn (nI kn)) H → va_D (fun q : Nat => s.heap.size ≤ q) (rt_xw q0 q1 q2 k1 k2 f g (nI en) (nI rn) cnt (nI pn) cng pnd msk sr sav tkn ++ rt_mw q3 q4 q5 k3 k4 f g (nI en) (nI rn) cnt (nI pn) cng pnd msk sr sav tkn (nI kn)) → va_S (fun q : Nat => s.heap.size ≤ q) s.heap H locs → lv_has ls 4 [(0, .ref b), (1, .ref q0), (2, .ref q3), (3, .int (nI i))] → W p l e0 room_1 s m #[Value.ref b] below meth c H locs 6 154 (lw_Z below #[Value.ref b] s) (F0 m 435 ls [])) :
    ∀ (f g : Nat → Int32) (en rn kn pn : Nat) (cnt cng pnd msk sr sav tkn : Int32), rt_Inv f en rn kn pn → ∀ (H : Heap) (locs : List Loc) (ls : Array Slot), va_P (dC, dI) vwCl (rt_xw q0 q1 q2 k1 k2 f g (nI en) (nI rn) cnt (nI pn) cng pnd msk sr sav tkn ++ rt_mw q3 q4 q5 k3 k4 f g (nI en) (nI rn) cnt (nI pn) cng pnd msk sr sav tkn (nI kn)) H → va_D (fun q : Nat => s.heap.size ≤ q) (rt_xw q0 q1 q2 k1 k2 f g (nI en) (nI rn) cnt (nI pn) cng pnd msk sr sav tkn ++ rt_mw q3 q4 q5 k3 k4 f g (nI en) (nI rn) cnt (nI pn) cng pnd msk sr sav tkn (nI kn)) → va_S (fun q : Nat => s.heap.size ≤ q) s.heap H locs → lv_has ls 4 [(0, .ref b), (1, .ref q0), (2, .ref q3), (3, .int (nI i))] → W p l e0 room_1 s m #[Value.ref b] below meth c H locs 6 154 (lw_Z below #[Value.ref b] s) (F0 m 295 ls []) := by
  obtain ⟨hx, hb, hr, hml, hown, htb, hX, hbl, hlocks, hgv⟩ := C0
  have hts := fun w h => htb w (wsL_law_in w h)
  have hA : ∀ q : Nat, s.heap.size ≤ q → (fun q : Nat => s.heap.size ≤ q) q := fun _ h => h
  have hbA : ¬ (fun q : Nat => s.heap.size ≤ q) b := Nat.not_le.mpr hbl
  intro f g en rn kn pn cnt cng pnd msk sr sav tkn hI H locs ls hP hD hS hl
  obtain ⟨h32, hrl, hpl, hs, hc⟩ := id hI
  refine lv_aload_n hx hb dL_law_295 rfl (lv_at hl 1 rfl) ?_
  refine lv_aload_n hx hb dL_law_296 rfl (lv_at hl 0 rfl) ?_
  refine lv_iload_n hx hb dL_law_297 rfl (lv_at hl 3 rfl) ?_
  refine lv_iconst (v := 1) hx hb dL_law_298 (by decide) ?_
  refine lv_iadd hx hb dL_law_299 ?_
  refine va_sld hx hb hX hbl hbA hS (rt_in1 hi hL) dL_law_300 ?_
  have hPc := hP.sub (ws' := rt_xw q0 q1 q2 k1 k2 f g (nI en) (nI rn) cnt (nI pn) cng pnd msk sr sav tkn) [0, 1, 2] rfl
  have hDc := hD.sub (ws' := rt_xw q0 q1 q2 k1 k2 f g (nI en) (nI rn) cnt (nI pn) cng pnd msk sr sav tkn) [0, 1, 2] (by decide) rfl
  have hKc := hK.sub (tys' := [(k1, .int), (k2, .int)]) [0, 1] rfl
  have hFc := va_free (wc := rt_xw q0 q1 q2 k1 k2 f g (nI en) (nI rn) cnt (nI pn) cng pnd msk sr sav tkn) hD hS hA [0, 1, 2] rfl
  refine va_callv (va_runV (As := [.int (xs ((nI i) + 1).toNatClampNeg)]) (rest := []) ⟨hx, hb, hml, hown, hts⟩ (c_X_count l dC dI q0 q1 q2 H.size k1 k2 f g (nI en) (nI rn) cnt (nI pn) cng pnd msk sr sav tkn (xs ((nI i) + 1).toNatClampNeg)) (cwV 1 hts gL_law_X0_count rfl rfl rfl (by decide +kernel) ⟨Nat.le_of_ble_eq_true rfl, Nat.le_of_ble_eq_true rfl⟩) ⟨fun a U g mk q => by obtain ⟨q0, q1, qP, qK, qD⟩ := q; exact ⟨q0, q1, qP, va_K.moved (u := U) (U := U.calling g mk a) (Vm.Alike.refl U.vm) qK, qD⟩, va_recv hKc hPc (ci := 0) (q0 := 0) rfl rfl, fun U hU hW => ⟨rfl, by rw [hU], by rw [hU]; exact hPc, va_K.moved hW.alike hKc, hDc.weaken (fun _ _ _ _ => trivial)⟩⟩ rfl rfl hl.1 rfl (lv_room (Nat.le_of_ble_eq_true rfl)) dL_law_301 ⟨Nat.le_of_ble_eq_true rfl, Nat.le_of_ble_eq_true rfl⟩) hS (fun q _ h => hFc q h) hFc (fun u t H1 locs ht hvm hw_301 hB hz1 hk1 hS => ?_)
  obtain ⟨hP1, hK1, hD1⟩ := hB
  rw [ht] at hP1
  try dsimp only at hw_301 hP1 hD1
  obtain ⟨hP, hD⟩ := va_join (wr := rt_mw q3 q4 q5 k3 k4 f g (nI en) (nI rn) cnt (nI pn) cng pnd msk sr sav tkn (nI kn)) (w1 := rt_xw q0 q1 q2 k1 k2 f g (nI en) (nI rn) (xs ((nI i) + 1).toNatClampNeg) (nI pn) cng pnd msk sr sav tkn) hP hD [0, 1, 2] [3, 4, 5] rfl rfl (by decide) (by decide) hk1 hFc hP1 hD1
  have hP := hP.sub (ws' := rt_xw q0 q1 q2 k1 k2 f g (nI en) (nI rn) (xs ((nI i) + 1).toNatClampNeg) (nI pn) cng pnd msk sr sav tkn ++ rt_mw q3 q4 q5 k3 k4 f g (nI en) (nI rn) cnt (nI pn) cng pnd msk sr sav tkn (nI kn)) [3, 4, 5, 0, 1, 2] rfl
  have hD := hD.sub (ws' := rt_xw q0 q1 q2 k1 k2 f g (nI en) (nI rn) (xs ((nI i) + 1).toNatClampNeg) (nI pn) cng pnd msk sr sav tkn ++ rt_mw q3 q4 q5 k3 k4 f g (nI en) (nI rn) cnt (nI pn) cng pnd msk sr sav tkn (nI kn)) [3, 4, 5, 0, 1, 2] (by decide) rfl
  generalize H1 = H at hP hS ⊢
  have hP : va_P (dC, dI) vwCl (rt_xw q0 q1 q2 k1 k2 f g (nI en) (nI rn) (xs ((nI i) + 1).toNatClampNeg) (nI pn) cng pnd msk sr sav tkn ++ rt_mw q3 q4 q5 k3 k4 f g (nI en) (nI rn) cnt (nI pn) cng pnd msk sr sav tkn (nI kn)) H := hP
  have hD : va_D (fun q : Nat => s.heap.size ≤ q) (rt_xw q0 q1 q2 k1 k2 f g (nI en) (nI rn) (xs ((nI i) + 1).toNatClampNeg) (nI pn) cng pnd msk sr sav tkn ++ rt_mw q3 q4 q5 k3 k4 f g (nI en) (nI rn) cnt (nI pn) cng pnd msk sr sav tkn (nI kn)) := hD
  refine lv_aload_n hx hb dL_law_304 rfl (lv_at hl 2 rfl) ?_
  refine lv_aload_n hx hb dL_law_305 rfl (lv_at hl 0 rfl) ?_
  refine lv_iload_n hx hb dL_law_306 rfl (lv_at hl 3 rfl) ?_
  refine lv_iconst (v := 1) hx hb dL_law_307 (by decide) ?_
  refine lv_iadd hx hb dL_law_308 ?_
  refine va_sld hx hb hX hbl hbA hS (rt_in1 hi hL) dL_law_309 ?_
  have hPc := hP.sub (ws' := rt_mw q3 q4 q5 k3 k4 f g (nI en) (nI rn) cnt (nI pn) cng pnd msk sr sav tkn (nI kn)) [3, 4, 5] rfl
  have hDc := hD.sub (ws' := rt_mw q3 q4 q5 k3 k4 f g (nI en) (nI rn) cnt (nI pn) cng pnd msk sr sav tkn (nI kn)) [3, 4, 5] (by decide) rfl
  have hKc := hK.sub (tys' := [(k3, .int), (k4, .int)]) [2, 3] rfl
  have hFc := va_free (wc := rt_mw q3 q4 q5 k3 k4 f g (nI en) (nI rn) cnt (nI pn) cng pnd msk sr sav tkn (nI kn)) hD hS hA [3, 4, 5] rfl
  refine va_callv (va_runV (As := [.int (xs ((nI i) + 1).toNatClampNeg)]) (rest := []) ⟨hx, hb, hml, hown, hts⟩ (c_M_count l dC dI q3 q4 q5 H.size k3 k4 f g (nI en) (nI rn) cnt (nI pn) cng pnd msk sr sav tkn (nI kn) (xs ((nI i) + 1).toNatClampNeg)) (cwV 1 htb gL_law_X1_count rfl rfl rfl (by decide +kernel) ⟨Nat.le_of_ble_eq_true rfl, Nat.le_of_ble_eq_true rfl⟩) ⟨fun a U g mk q => by obtain ⟨q0, q1, qP, qK, qD⟩ := q; exact ⟨q0, q1, qP, va_K.moved (u := U) (U := U.calling g mk a) (Vm.Alike.refl U.vm) qK, qD⟩, va_recv hKc hPc (ci := 1) (q0 := 0) rfl rfl, fun U hU hW => ⟨rfl, by rw [hU], by rw [hU]; exact hPc, va_K.moved hW.alike hKc, hDc.weaken (fun _ _ _ _ => trivial)⟩⟩ rfl rfl hl.1 rfl (lv_room (Nat.le_of_ble_eq_true rfl)) dL_law_310 ⟨Nat.le_of_ble_eq_true rfl, Nat.le_of_ble_eq_true rfl⟩) hS (fun q _ h => hFc q h) hFc (fun u t H1 locs ht hvm hw_310 hB hz1 hk1 hS => ?_)
  obtain ⟨hP1, hK1, hD1⟩ := hB
  rw [ht] at hP1
  try dsimp only at hw_310 hP1 hD1
  obtain ⟨hP, hD⟩ := va_join (wr := rt_xw q0 q1 q2 k1 k2 f g (nI en) (nI rn) (xs ((nI i) + 1).toNatClampNeg) (nI pn) cng pnd msk sr sav tkn) (w1 := rt_mw q3 q4 q5 k3 k4 f g (nI en) (nI rn) (xs ((nI i) + 1).toNatClampNeg) (nI pn) cng pnd msk sr sav tkn (nI kn)) hP hD [3, 4, 5] [0, 1, 2] rfl rfl (by decide) (by decide) hk1 hFc hP1 hD1
  generalize H1 = H at hP hS ⊢
  have hP : va_P (dC, dI) vwCl (rt_xw q0 q1 q2 k1 k2 f g (nI en) (nI rn) (xs ((nI i) + 1).toNatClampNeg) (nI pn) cng pnd msk sr sav tkn ++ rt_mw q3 q4 q5 k3 k4 f g (nI en) (nI rn) (xs ((nI i) + 1).toNatClampNeg) (nI pn) cng pnd msk sr sav tkn (nI kn)) H := hP
  have hD : va_D (fun q : Nat => s.heap.size ≤ q) (rt_xw q0 q1 q2 k1 k2 f g (nI en) (nI rn) (xs ((nI i) + 1).toNatClampNeg) (nI pn) cng pnd msk sr sav tkn ++ rt_mw q3 q4 q5 k3 k4 f g (nI en) (nI rn) (xs ((nI i) + 1).toNatClampNeg) (nI pn) cng pnd msk sr sav tkn (nI kn)) := hD
  refine lv_goto (tgt := 435) hx hb dL_law_313 (by decide) ?_
  exact kk f g en rn kn pn (xs (nI i + 1).toNatClampNeg) cng pnd msk sr sav tkn (hI) H locs ls hP hD hS hl
set_option maxHeartbeats 4000000 in
set_option maxRecDepth 100000 in
theorem law_c8 {p : Program} {l : Launch} {e0 : Env} {s : State} {m : MethodId} {below : List Frame} {meth : Method} {c : Code} {dC : Nat → ClassId} {dI : Nat → Nat → Nat} {b L : Nat} {xs : Nat → Int32} (hL : L ≤ 2048) (C0 : lw_At p s m meth c b L xs) {q0 q1 q2 q3 q4 q5 : Nat} {k1 k2 k3 k4 : ClassId} (hK : va_K (dC, dI) vwCl [(k1, .int), (k2, .int), (k3, .int), (k4, .int)] s) {i : Nat} (hi : i + 4 ≤ L) (kk : ∀ (f g : Nat → Int32) (en rn kn pn : Nat) (cnt cng pnd msk sr sav tkn : Int32), rt_Inv f en rn kn pn → ∀ (H : Heap) (locs : List Loc) (ls : Array Slot), va_P (dC, dI) vwCl (rt_xw q0 q1 q2 k1 k2 f g (nI en) (nI rn) cnt (nI pn) cng pnd msk sr sav tkn ++ rt_mw q3 q4 q5 k3 k4 f g (nI en) (nI rn) cnt (nI pn) cng pnd msk sr sav tkn (nI kn)) H → va_D (fun q : Nat => s.heap.size ≤ q) (rt_xw q0 q1 q2 k1 k2 f g (nI en) (nI rn) cnt (nI pn) cng pnd msk sr sav tkn ++ rt_mw q3 q4 q5 k3 k4 f g (nI en) (nI rn) cnt (nI pn) cng pnd msk sr sav tkn (nI kn)) → va_S (fun q : Nat => s.heap.size ≤ q) s.heap H locs → lv_has ls 4 [(0, .ref b), (1, .ref q0), (2, .ref q3), (3, .int (nI i))] → W p l e0 room_1 s m #[Value.ref b] below meth c H locs 6 154 (lw_Z below #[Value.ref b] s) (F0 m 435 ls [])) :
    ∀ (f g : Nat → Int32) (en rn kn pn : Nat) (cnt cng pnd msk sr sav tkn : Int32), rt_Inv f en rn kn pn → ∀ (H : Heap) (locs : List Loc) (ls : Array Slot), va_P (dC, dI) vwCl (rt_xw q0 q1 q2 k1 k2 f g (nI en) (nI rn) cnt (nI pn) cng pnd msk sr sav tkn ++ rt_mw q3 q4 q5 k3 k4 f g (nI en) (nI rn) cnt (nI pn) cng pnd msk sr sav tkn (nI kn)) H → va_D (fun q : Nat => s.heap.size ≤ q) (rt_xw q0 q1 q2 k1 k2 f g (nI en) (nI rn) cnt (nI pn) cng pnd msk sr sav tkn ++ rt_mw q3 q4 q5 k3 k4 f g (nI en) (nI rn) cnt (nI pn) cng pnd msk sr sav tkn (nI kn)) → va_S (fun q : Nat => s.heap.size ≤ q) s.heap H locs → lv_has ls 4 [(0, .ref b), (1, .ref q0), (2, .ref q3), (3, .int (nI i))] → W p l e0 room_1 s m #[Value.ref b] below meth c H locs 6 154 (lw_Z below #[Value.ref b] s) (F0 m 316 ls []) := by
  obtain ⟨hx, hb, hr, hml, hown, htb, hX, hbl, hlocks, hgv⟩ := C0
  have hts := fun w h => htb w (wsL_law_in w h)
  have hA : ∀ q : Nat, s.heap.size ≤ q → (fun q : Nat => s.heap.size ≤ q) q := fun _ h => h
  have hbA : ¬ (fun q : Nat => s.heap.size ≤ q) b := Nat.not_le.mpr hbl
  intro f g en rn kn pn cnt cng pnd msk sr sav tkn hI H locs ls hP hD hS hl
  obtain ⟨h32, hrl, hpl, hs, hc⟩ := id hI
  refine lv_aload_n hx hb dL_law_316 rfl (lv_at hl 1 rfl) ?_
  have hPc := hP.sub (ws' := rt_xw q0 q1 q2 k1 k2 f g (nI en) (nI rn) cnt (nI pn) cng pnd msk sr sav tkn) [0, 1, 2] rfl
  have hDc := hD.sub (ws' := rt_xw q0 q1 q2 k1 k2 f g (nI en) (nI rn) cnt (nI pn) cng pnd msk sr sav tkn) [0, 1, 2] (by decide) rfl
  have hKc := hK.sub (tys' := [(k1, .int), (k2, .int)]) [0, 1] rfl
  have hFc := va_free (wc := rt_xw q0 q1 q2 k1 k2 f g (nI en) (nI rn) cnt (nI pn) cng pnd msk sr sav tkn) hD hS hA [0, 1, 2] rfl
  refine va_callv (va_runV (As := []) (rest := []) ⟨hx, hb, hml, hown, hts⟩ (c_X_reset l dC dI q0 q1 q2 H.size k1 k2 f g (nI en) (nI rn) cnt (nI pn) cng pnd msk sr sav tkn) (cwV 0 hts gL_law_X0_reset rfl rfl rfl (by decide +kernel) ⟨Nat.le_of_ble_eq_true rfl, Nat.le_of_ble_eq_true rfl⟩) ⟨fun a U g mk q => by obtain ⟨q0, q1, qP, qK, qD⟩ := q; exact ⟨q0, q1, qP, va_K.moved (u := U) (U := U.calling g mk a) (Vm.Alike.refl U.vm) qK, qD⟩, va_recv hKc hPc (ci := 0) (q0 := 0) rfl rfl, fun U hU hW => ⟨rfl, by rw [hU], by rw [hU]; exact hPc, va_K.moved hW.alike hKc, hDc.weaken (fun _ _ _ _ => trivial)⟩⟩ rfl rfl hl.1 rfl (lv_room (Nat.le_of_ble_eq_true rfl)) dL_law_317 ⟨Nat.le_of_ble_eq_true rfl, Nat.le_of_ble_eq_true rfl⟩) hS (fun q _ h => hFc q h) hFc (fun u t H1 locs ht hvm hw_317 hB hz1 hk1 hS => ?_)
  obtain ⟨hP1, hK1, hD1⟩ := hB
  rw [ht] at hP1
  try dsimp only at hw_317 hP1 hD1
  obtain ⟨hP, hD⟩ := va_join (wr := rt_mw q3 q4 q5 k3 k4 f g (nI en) (nI rn) cnt (nI pn) cng pnd msk sr sav tkn (nI kn)) (w1 := rt_xw q0 q1 q2 k1 k2 f g 0 0 0 0 0 0 0 1 0 0) hP hD [0, 1, 2] [3, 4, 5] rfl rfl (by decide) (by decide) hk1 hFc hP1 hD1
  have hP := hP.sub (ws' := rt_xw q0 q1 q2 k1 k2 f g 0 0 0 0 0 0 0 1 0 0 ++ rt_mw q3 q4 q5 k3 k4 f g (nI en) (nI rn) cnt (nI pn) cng pnd msk sr sav tkn (nI kn)) [3, 4, 5, 0, 1, 2] rfl
  have hD := hD.sub (ws' := rt_xw q0 q1 q2 k1 k2 f g 0 0 0 0 0 0 0 1 0 0 ++ rt_mw q3 q4 q5 k3 k4 f g (nI en) (nI rn) cnt (nI pn) cng pnd msk sr sav tkn (nI kn)) [3, 4, 5, 0, 1, 2] (by decide) rfl
  generalize H1 = H at hP hS ⊢
  have hP : va_P (dC, dI) vwCl (rt_xw q0 q1 q2 k1 k2 f g 0 0 0 0 0 0 0 1 0 0 ++ rt_mw q3 q4 q5 k3 k4 f g (nI en) (nI rn) cnt (nI pn) cng pnd msk sr sav tkn (nI kn)) H := hP
  have hD : va_D (fun q : Nat => s.heap.size ≤ q) (rt_xw q0 q1 q2 k1 k2 f g 0 0 0 0 0 0 0 1 0 0 ++ rt_mw q3 q4 q5 k3 k4 f g (nI en) (nI rn) cnt (nI pn) cng pnd msk sr sav tkn (nI kn)) := hD
  refine lv_aload_n hx hb dL_law_320 rfl (lv_at hl 2 rfl) ?_
  have hPc := hP.sub (ws' := rt_mw q3 q4 q5 k3 k4 f g (nI en) (nI rn) cnt (nI pn) cng pnd msk sr sav tkn (nI kn)) [3, 4, 5] rfl
  have hDc := hD.sub (ws' := rt_mw q3 q4 q5 k3 k4 f g (nI en) (nI rn) cnt (nI pn) cng pnd msk sr sav tkn (nI kn)) [3, 4, 5] (by decide) rfl
  have hKc := hK.sub (tys' := [(k3, .int), (k4, .int)]) [2, 3] rfl
  have hFc := va_free (wc := rt_mw q3 q4 q5 k3 k4 f g (nI en) (nI rn) cnt (nI pn) cng pnd msk sr sav tkn (nI kn)) hD hS hA [3, 4, 5] rfl
  refine va_callv (va_runV (As := []) (rest := []) ⟨hx, hb, hml, hown, hts⟩ (c_M_reset l dC dI q3 q4 q5 H.size k3 k4 f g (nI en) (nI rn) cnt (nI pn) cng pnd msk sr sav tkn (nI kn)) (cwV 0 htb gL_law_X1_reset rfl rfl rfl (by decide +kernel) ⟨Nat.le_of_ble_eq_true rfl, Nat.le_of_ble_eq_true rfl⟩) ⟨fun a U g mk q => by obtain ⟨q0, q1, qP, qK, qD⟩ := q; exact ⟨q0, q1, qP, va_K.moved (u := U) (U := U.calling g mk a) (Vm.Alike.refl U.vm) qK, qD⟩, va_recv hKc hPc (ci := 1) (q0 := 0) rfl rfl, fun U hU hW => ⟨rfl, by rw [hU], by rw [hU]; exact hPc, va_K.moved hW.alike hKc, hDc.weaken (fun _ _ _ _ => trivial)⟩⟩ rfl rfl hl.1 rfl (lv_room (Nat.le_of_ble_eq_true rfl)) dL_law_321 ⟨Nat.le_of_ble_eq_true rfl, Nat.le_of_ble_eq_true rfl⟩) hS (fun q _ h => hFc q h) hFc (fun u t H1 locs ht hvm hw_321 hB hz1 hk1 hS => ?_)
  obtain ⟨hP1, hK1, hD1⟩ := hB
  rw [ht] at hP1
  try dsimp only at hw_321 hP1 hD1
  obtain ⟨hP, hD⟩ := va_join (wr := rt_xw q0 q1 q2 k1 k2 f g 0 0 0 0 0 0 0 1 0 0) (w1 := rt_mw q3 q4 q5 k3 k4 f g 0 0 0 0 0 0 0 1 0 0 0) hP hD [3, 4, 5] [0, 1, 2] rfl rfl (by decide) (by decide) hk1 hFc hP1 hD1
  generalize H1 = H at hP hS ⊢
  have hP : va_P (dC, dI) vwCl (rt_xw q0 q1 q2 k1 k2 f g 0 0 0 0 0 0 0 1 0 0 ++ rt_mw q3 q4 q5 k3 k4 f g 0 0 0 0 0 0 0 1 0 0 0) H := hP
  have hD : va_D (fun q : Nat => s.heap.size ≤ q) (rt_xw q0 q1 q2 k1 k2 f g 0 0 0 0 0 0 0 1 0 0 ++ rt_mw q3 q4 q5 k3 k4 f g 0 0 0 0 0 0 0 1 0 0 0) := hD
  refine lv_goto (tgt := 435) hx hb dL_law_324 (by decide) ?_
  exact kk f g 0 0 0 0 0 0 0 0 1 0 0 (rt_inv0 f) H locs ls hP hD hS hl
end
section
set_option maxHeartbeats 4000000 in
set_option maxRecDepth 100000 in
theorem law_c9 {p : Program} {l : Launch} {e0 : Env} {s : State} {m : MethodId} {below : List Frame} {meth : Method} {c : Code} {dC : Nat → ClassId} {dI : Nat → Nat → Nat} {b L : Nat} {xs : Nat → Int32} (hL : L ≤ 2048) (C0 : lw_At p s m meth c b L xs) {q0 q1 q2 q3 q4 q5 : Nat} {k1 k2 k3 k4 : ClassId} (hK : va_K (dC, dI) vwCl [(k1, .int), (k2, .int), (k3, .int), (k4, .int)] s) {i : Nat} (hi : i + 4 ≤ L) (kk : ∀ (f g : Nat → Int32) (en rn kn pn : Nat) (cnt cng pnd msk sr sav tkn : Int32), rt_Inv f en rn kn pn → ∀ (H : Heap) (locs : List Loc) (ls : Array Slot), va_P (dC, dI) vwCl (rt_xw q0 q1 q2 k1 k2 f g (nI en) (nI rn) cnt (nI pn) cng pnd msk sr sav tkn ++ rt_mw q3 q4 q5 k3 k4 f g (nI en) (nI rn) cnt (nI pn) cng pnd msk sr sav tkn (nI kn)) H → va_D (fun q : Nat => s.heap.size ≤ q) (rt_xw q0 q1 q2 k1 k2 f g (nI en) (nI rn) cnt (nI pn) cng pnd msk sr sav tkn ++ rt_mw q3 q4 q5 k3 k4 f g (nI en) (nI rn) cnt (nI pn) cng pnd msk sr sav tkn (nI kn)) → va_S (fun q : Nat => s.heap.size ≤ q) s.heap H locs → lv_has ls 4 [(0, .ref b), (1, .ref q0), (2, .ref q3), (3, .int (nI i))] → W p l e0 room_1 s m #[Value.ref b] below meth c H locs 6 154 (lw_Z below #[Value.ref b] s) (F0 m 435 ls [])) :
    ∀ (f g : Nat → Int32) (en rn kn pn : Nat) (cnt cng pnd msk sr sav tkn : Int32), rt_Inv f en rn kn pn → ∀ (H : Heap) (locs : List Loc) (ls : Array Slot), va_P (dC, dI) vwCl (rt_xw q0 q1 q2 k1 k2 f g (nI en) (nI rn) cnt (nI pn) cng pnd msk sr sav tkn ++ rt_mw q3 q4 q5 k3 k4 f g (nI en) (nI rn) cnt (nI pn) cng pnd msk sr sav tkn (nI kn)) H → va_D (fun q : Nat => s.heap.size ≤ q) (rt_xw q0 q1 q2 k1 k2 f g (nI en) (nI rn) cnt (nI pn) cng pnd msk sr sav tkn ++ rt_mw q3 q4 q5 k3 k4 f g (nI en) (nI rn) cnt (nI pn) cng pnd msk sr sav tkn (nI kn)) → va_S (fun q : Nat => s.heap.size ≤ q) s.heap H locs → lv_has ls 4 [(0, .ref b), (1, .ref q0), (2, .ref q3), (3, .int (nI i))] → W p l e0 room_1 s m #[Value.ref b] below meth c H locs 6 154 (lw_Z below #[Value.ref b] s) (F0 m 327 ls []) := by
  obtain ⟨hx, hb, hr, hml, hown, htb, hX, hbl, hlocks, hgv⟩ := C0
  have hts := fun w h => htb w (wsL_law_in w h)
  have hA : ∀ q : Nat, s.heap.size ≤ q → (fun q : Nat => s.heap.size ≤ q) q := fun _ h => h
  have hbA : ¬ (fun q : Nat => s.heap.size ≤ q) b := Nat.not_le.mpr hbl
  intro f g en rn kn pn cnt cng pnd msk sr sav tkn hI H locs ls hP hD hS hl
  obtain ⟨h32, hrl, hpl, hs, hc⟩ := id hI
  refine lv_aload_n hx hb dL_law_327 rfl (lv_at hl 1 rfl) ?_
  have hPc := hP.sub (ws' := rt_xw q0 q1 q2 k1 k2 f g (nI en) (nI rn) cnt (nI pn) cng pnd msk sr sav tkn) [0, 1, 2] rfl
  have hDc := hD.sub (ws' := rt_xw q0 q1 q2 k1 k2 f g (nI en) (nI rn) cnt (nI pn) cng pnd msk sr sav tkn) [0, 1, 2] (by decide) rfl
  have hKc := hK.sub (tys' := [(k1, .int), (k2, .int)]) [0, 1] rfl
  have hFc := va_free (wc := rt_xw q0 q1 q2 k1 k2 f g (nI en) (nI rn) cnt (nI pn) cng pnd msk sr sav tkn) hD hS hA [0, 1, 2] rfl
  refine va_calli (va_runV (As := []) (rest := []) ⟨hx, hb, hml, hown, hts⟩ (c_X_until l dC dI q0 q1 q2 H.size k1 k2 f g (nI en) (nI rn) cnt (nI pn) cng pnd msk sr sav tkn en rn rfl h32 rfl) (cwV 0 hts gL_law_X0_until rfl rfl rfl (by decide +kernel) ⟨Nat.le_of_ble_eq_true rfl, Nat.le_of_ble_eq_true rfl⟩) ⟨fun a U g mk q => by obtain ⟨q0, q1, qP, qK, qD⟩ := q; exact ⟨q0, q1, qP, va_K.moved (u := U) (U := U.calling g mk a) (Vm.Alike.refl U.vm) qK, qD⟩, va_recv hKc hPc (ci := 0) (q0 := 0) rfl rfl, fun U hU hW => ⟨rfl, by rw [hU], by rw [hU]; exact hPc, va_K.moved hW.alike hKc, hDc.weaken (fun _ _ _ _ => trivial)⟩⟩ rfl rfl hl.1 rfl (lv_room (Nat.le_of_ble_eq_true rfl)) dL_law_328 ⟨Nat.le_of_ble_eq_true rfl, Nat.le_of_ble_eq_true rfl⟩) hS (fun q _ h => hFc q h) hFc (fun r_328 u t H1 locs ht hvm hw_328 hB hz1 hk1 hS => ?_)
  obtain ⟨hP1, hK1, hD1⟩ := hB
  rw [ht] at hP1
  try dsimp only at hw_328 hP1 hD1
  obtain ⟨hP, hD⟩ := va_join (wr := rt_mw q3 q4 q5 k3 k4 f g (nI en) (nI rn) cnt (nI pn) cng pnd msk sr sav tkn (nI kn)) (w1 := rt_xw q0 q1 q2 k1 k2 f g (nI en) (nI rn) cnt (nI pn) cng pnd msk sr sav tkn) hP hD [0, 1, 2] [3, 4, 5] rfl rfl (by decide) (by decide) hk1 hFc hP1 hD1
  have hP := hP.sub (ws' := rt_xw q0 q1 q2 k1 k2 f g (nI en) (nI rn) cnt (nI pn) cng pnd msk sr sav tkn ++ rt_mw q3 q4 q5 k3 k4 f g (nI en) (nI rn) cnt (nI pn) cng pnd msk sr sav tkn (nI kn)) [3, 4, 5, 0, 1, 2] rfl
  have hD := hD.sub (ws' := rt_xw q0 q1 q2 k1 k2 f g (nI en) (nI rn) cnt (nI pn) cng pnd msk sr sav tkn ++ rt_mw q3 q4 q5 k3 k4 f g (nI en) (nI rn) cnt (nI pn) cng pnd msk sr sav tkn (nI kn)) [3, 4, 5, 0, 1, 2] (by decide) rfl
  generalize H1 = H at hP hS ⊢
  have hP : va_P (dC, dI) vwCl (rt_xw q0 q1 q2 k1 k2 f g (nI en) (nI rn) cnt (nI pn) cng pnd msk sr sav tkn ++ rt_mw q3 q4 q5 k3 k4 f g (nI en) (nI rn) cnt (nI pn) cng pnd msk sr sav tkn (nI kn)) H := hP
  have hD : va_D (fun q : Nat => s.heap.size ≤ q) (rt_xw q0 q1 q2 k1 k2 f g (nI en) (nI rn) cnt (nI pn) cng pnd msk sr sav tkn ++ rt_mw q3 q4 q5 k3 k4 f g (nI en) (nI rn) cnt (nI pn) cng pnd msk sr sav tkn (nI kn)) := hD
  refine lv_aload_n hx hb dL_law_331 rfl (lv_at hl 2 rfl) ?_
  have hPc := hP.sub (ws' := rt_mw q3 q4 q5 k3 k4 f g (nI en) (nI rn) cnt (nI pn) cng pnd msk sr sav tkn (nI kn)) [3, 4, 5] rfl
  have hDc := hD.sub (ws' := rt_mw q3 q4 q5 k3 k4 f g (nI en) (nI rn) cnt (nI pn) cng pnd msk sr sav tkn (nI kn)) [3, 4, 5] (by decide) rfl
  have hKc := hK.sub (tys' := [(k3, .int), (k4, .int)]) [2, 3] rfl
  have hFc := va_free (wc := rt_mw q3 q4 q5 k3 k4 f g (nI en) (nI rn) cnt (nI pn) cng pnd msk sr sav tkn (nI kn)) hD hS hA [3, 4, 5] rfl
  refine va_calli (va_runV (As := []) (rest := [.int r_328]) ⟨hx, hb, hml, hown, hts⟩ (c_M_until l dC dI q3 q4 q5 H.size k3 k4 f g (nI en) (nI rn) cnt (nI pn) cng pnd msk sr sav tkn (nI kn) en rn kn pn rfl h32 rfl rfl rfl hrl hpl hs hc) (cwV 0 htb gL_law_X1_until rfl rfl rfl (by decide +kernel) ⟨Nat.le_of_ble_eq_true rfl, Nat.le_of_ble_eq_true rfl⟩) ⟨fun a U g mk q => by obtain ⟨q0, q1, qP, qK, qD⟩ := q; exact ⟨q0, q1, qP, va_K.moved (u := U) (U := U.calling g mk a) (Vm.Alike.refl U.vm) qK, qD⟩, va_recv hKc hPc (ci := 1) (q0 := 0) rfl rfl, fun U hU hW => ⟨rfl, by rw [hU], by rw [hU]; exact hPc, va_K.moved hW.alike hKc, hDc.weaken (fun _ _ _ _ => trivial)⟩⟩ rfl rfl hl.1 rfl (lv_room (Nat.le_of_ble_eq_true rfl)) dL_law_332 ⟨Nat.le_of_ble_eq_true rfl, Nat.le_of_ble_eq_true rfl⟩) hS (fun q _ h => hFc q h) hFc (fun r_332 u t H1 locs ht hvm hw_332 hB hz1 hk1 hS => ?_)
  obtain ⟨hP1, hK1, hD1⟩ := hB
  rw [ht] at hP1
  try dsimp only at hw_332 hP1 hD1
  obtain ⟨hP, hD⟩ := va_join (wr := rt_xw q0 q1 q2 k1 k2 f g (nI en) (nI rn) cnt (nI pn) cng pnd msk sr sav tkn) (w1 := rt_mw q3 q4 q5 k3 k4 f g (nI en) (nI rn) cnt (nI pn) cng pnd msk sr sav tkn (nI kn)) hP hD [3, 4, 5] [0, 1, 2] rfl rfl (by decide) (by decide) hk1 hFc hP1 hD1
  generalize H1 = H at hP hS ⊢
  have hP : va_P (dC, dI) vwCl (rt_xw q0 q1 q2 k1 k2 f g (nI en) (nI rn) cnt (nI pn) cng pnd msk sr sav tkn ++ rt_mw q3 q4 q5 k3 k4 f g (nI en) (nI rn) cnt (nI pn) cng pnd msk sr sav tkn (nI kn)) H := hP
  have hD : va_D (fun q : Nat => s.heap.size ≤ q) (rt_xw q0 q1 q2 k1 k2 f g (nI en) (nI rn) cnt (nI pn) cng pnd msk sr sav tkn ++ rt_mw q3 q4 q5 k3 k4 f g (nI en) (nI rn) cnt (nI pn) cng pnd msk sr sav tkn (nI kn)) := hD
  refine lv_icmp_eq (tgt := 435) hx hb dL_law_335 (by decide) (fun c_335 => ?_) (fun c_335 => absurd (hw_328.trans hw_332.symm) c_335)
  exact kk f g en rn kn pn cnt cng pnd msk sr sav tkn (hI) H locs ls hP hD hS hl
set_option maxHeartbeats 4000000 in
set_option maxRecDepth 100000 in
theorem law_c10 {p : Program} {l : Launch} {e0 : Env} {s : State} {m : MethodId} {below : List Frame} {meth : Method} {c : Code} {dC : Nat → ClassId} {dI : Nat → Nat → Nat} {b L : Nat} {xs : Nat → Int32} (hL : L ≤ 2048) (C0 : lw_At p s m meth c b L xs) {q0 q1 q2 q3 q4 q5 : Nat} {k1 k2 k3 k4 : ClassId} (hK : va_K (dC, dI) vwCl [(k1, .int), (k2, .int), (k3, .int), (k4, .int)] s) {i : Nat} (hi : i + 4 ≤ L) (kk : ∀ (f g : Nat → Int32) (en rn kn pn : Nat) (cnt cng pnd msk sr sav tkn : Int32), rt_Inv f en rn kn pn → ∀ (H : Heap) (locs : List Loc) (ls : Array Slot), va_P (dC, dI) vwCl (rt_xw q0 q1 q2 k1 k2 f g (nI en) (nI rn) cnt (nI pn) cng pnd msk sr sav tkn ++ rt_mw q3 q4 q5 k3 k4 f g (nI en) (nI rn) cnt (nI pn) cng pnd msk sr sav tkn (nI kn)) H → va_D (fun q : Nat => s.heap.size ≤ q) (rt_xw q0 q1 q2 k1 k2 f g (nI en) (nI rn) cnt (nI pn) cng pnd msk sr sav tkn ++ rt_mw q3 q4 q5 k3 k4 f g (nI en) (nI rn) cnt (nI pn) cng pnd msk sr sav tkn (nI kn)) → va_S (fun q : Nat => s.heap.size ≤ q) s.heap H locs → lv_has ls 4 [(0, .ref b), (1, .ref q0), (2, .ref q3), (3, .int (nI i))] → W p l e0 room_1 s m #[Value.ref b] below meth c H locs 6 154 (lw_Z below #[Value.ref b] s) (F0 m 435 ls [])) :
    ∀ (f g : Nat → Int32) (en rn kn pn : Nat) (cnt cng pnd msk sr sav tkn : Int32), rt_Inv f en rn kn pn → ∀ (H : Heap) (locs : List Loc) (ls : Array Slot), va_P (dC, dI) vwCl (rt_xw q0 q1 q2 k1 k2 f g (nI en) (nI rn) cnt (nI pn) cng pnd msk sr sav tkn ++ rt_mw q3 q4 q5 k3 k4 f g (nI en) (nI rn) cnt (nI pn) cng pnd msk sr sav tkn (nI kn)) H → va_D (fun q : Nat => s.heap.size ≤ q) (rt_xw q0 q1 q2 k1 k2 f g (nI en) (nI rn) cnt (nI pn) cng pnd msk sr sav tkn ++ rt_mw q3 q4 q5 k3 k4 f g (nI en) (nI rn) cnt (nI pn) cng pnd msk sr sav tkn (nI kn)) → va_S (fun q : Nat => s.heap.size ≤ q) s.heap H locs → lv_has ls 4 [(0, .ref b), (1, .ref q0), (2, .ref q3), (3, .int (nI i))] → W p l e0 room_1 s m #[Value.ref b] below meth c H locs 6 154 (lw_Z below #[Value.ref b] s) (F0 m 340 ls []) := by
  obtain ⟨hx, hb, hr, hml, hown, htb, hX, hbl, hlocks, hgv⟩ := C0
  have hts := fun w h => htb w (wsL_law_in w h)
  have hA : ∀ q : Nat, s.heap.size ≤ q → (fun q : Nat => s.heap.size ≤ q) q := fun _ h => h
  have hbA : ¬ (fun q : Nat => s.heap.size ≤ q) b := Nat.not_le.mpr hbl
  intro f g en rn kn pn cnt cng pnd msk sr sav tkn hI H locs ls hP hD hS hl
  obtain ⟨h32, hrl, hpl, hs, hc⟩ := id hI
  refine lv_aload_n hx hb dL_law_340 rfl (lv_at hl 1 rfl) ?_
  refine lv_aload_n hx hb dL_law_341 rfl (lv_at hl 0 rfl) ?_
  refine lv_iload_n hx hb dL_law_342 rfl (lv_at hl 3 rfl) ?_
  refine lv_iconst (v := 1) hx hb dL_law_343 (by decide) ?_
  refine lv_iadd hx hb dL_law_344 ?_
  refine va_sld hx hb hX hbl hbA hS (rt_in1 hi hL) dL_law_345 ?_
  have hPc := hP.sub (ws' := rt_xw q0 q1 q2 k1 k2 f g (nI en) (nI rn) cnt (nI pn) cng pnd msk sr sav tkn) [0, 1, 2] rfl
  have hDc := hD.sub (ws' := rt_xw q0 q1 q2 k1 k2 f g (nI en) (nI rn) cnt (nI pn) cng pnd msk sr sav tkn) [0, 1, 2] (by decide) rfl
  have hKc := hK.sub (tys' := [(k1, .int), (k2, .int)]) [0, 1] rfl
  have hFc := va_free (wc := rt_xw q0 q1 q2 k1 k2 f g (nI en) (nI rn) cnt (nI pn) cng pnd msk sr sav tkn) hD hS hA [0, 1, 2] rfl
  refine va_calli (va_runV (As := [.int (xs ((nI i) + 1).toNatClampNeg)]) (rest := []) ⟨hx, hb, hml, hown, hts⟩ (c_X_linesAt l dC dI q0 q1 q2 H.size k1 k2 f g (nI en) (nI rn) cnt (nI pn) cng pnd msk sr sav tkn (xs ((nI i) + 1).toNatClampNeg) en rfl h32) (cwV 1 hts gL_law_X0_linesAt rfl rfl rfl (by decide +kernel) ⟨Nat.le_of_ble_eq_true rfl, Nat.le_of_ble_eq_true rfl⟩) ⟨fun a U g mk q => by obtain ⟨q0, q1, qP, qK, qD⟩ := q; exact ⟨q0, q1, qP, va_K.moved (u := U) (U := U.calling g mk a) (Vm.Alike.refl U.vm) qK, qD⟩, va_recv hKc hPc (ci := 0) (q0 := 0) rfl rfl, fun U hU hW => ⟨rfl, by rw [hU], by rw [hU]; exact hPc, va_K.moved hW.alike hKc, hDc.weaken (fun _ _ _ _ => trivial)⟩⟩ rfl rfl hl.1 rfl (lv_room (Nat.le_of_ble_eq_true rfl)) dL_law_346 ⟨Nat.le_of_ble_eq_true rfl, Nat.le_of_ble_eq_true rfl⟩) hS (fun q _ h => hFc q h) hFc (fun r_346 u t H1 locs ht hvm hw_346 hB hz1 hk1 hS => ?_)
  obtain ⟨hP1, hK1, hD1⟩ := hB
  rw [ht] at hP1
  try dsimp only at hw_346 hP1 hD1
  obtain ⟨hP, hD⟩ := va_join (wr := rt_mw q3 q4 q5 k3 k4 f g (nI en) (nI rn) cnt (nI pn) cng pnd msk sr sav tkn (nI kn)) (w1 := rt_xw q0 q1 q2 k1 k2 f g (nI en) (nI rn) cnt (nI pn) cng pnd msk sr sav tkn) hP hD [0, 1, 2] [3, 4, 5] rfl rfl (by decide) (by decide) hk1 hFc hP1 hD1
  have hP := hP.sub (ws' := rt_xw q0 q1 q2 k1 k2 f g (nI en) (nI rn) cnt (nI pn) cng pnd msk sr sav tkn ++ rt_mw q3 q4 q5 k3 k4 f g (nI en) (nI rn) cnt (nI pn) cng pnd msk sr sav tkn (nI kn)) [3, 4, 5, 0, 1, 2] rfl
  have hD := hD.sub (ws' := rt_xw q0 q1 q2 k1 k2 f g (nI en) (nI rn) cnt (nI pn) cng pnd msk sr sav tkn ++ rt_mw q3 q4 q5 k3 k4 f g (nI en) (nI rn) cnt (nI pn) cng pnd msk sr sav tkn (nI kn)) [3, 4, 5, 0, 1, 2] (by decide) rfl
  generalize H1 = H at hP hS ⊢
  have hP : va_P (dC, dI) vwCl (rt_xw q0 q1 q2 k1 k2 f g (nI en) (nI rn) cnt (nI pn) cng pnd msk sr sav tkn ++ rt_mw q3 q4 q5 k3 k4 f g (nI en) (nI rn) cnt (nI pn) cng pnd msk sr sav tkn (nI kn)) H := hP
  have hD : va_D (fun q : Nat => s.heap.size ≤ q) (rt_xw q0 q1 q2 k1 k2 f g (nI en) (nI rn) cnt (nI pn) cng pnd msk sr sav tkn ++ rt_mw q3 q4 q5 k3 k4 f g (nI en) (nI rn) cnt (nI pn) cng pnd msk sr sav tkn (nI kn)) := hD
  refine lv_aload_n hx hb dL_law_349 rfl (lv_at hl 2 rfl) ?_
  refine lv_aload_n hx hb dL_law_350 rfl (lv_at hl 0 rfl) ?_
  refine lv_iload_n hx hb dL_law_351 rfl (lv_at hl 3 rfl) ?_
  refine lv_iconst (v := 1) hx hb dL_law_352 (by decide) ?_
  refine lv_iadd hx hb dL_law_353 ?_
  refine va_sld hx hb hX hbl hbA hS (rt_in1 hi hL) dL_law_354 ?_
  have hPc := hP.sub (ws' := rt_mw q3 q4 q5 k3 k4 f g (nI en) (nI rn) cnt (nI pn) cng pnd msk sr sav tkn (nI kn)) [3, 4, 5] rfl
  have hDc := hD.sub (ws' := rt_mw q3 q4 q5 k3 k4 f g (nI en) (nI rn) cnt (nI pn) cng pnd msk sr sav tkn (nI kn)) [3, 4, 5] (by decide) rfl
  have hKc := hK.sub (tys' := [(k3, .int), (k4, .int)]) [2, 3] rfl
  have hFc := va_free (wc := rt_mw q3 q4 q5 k3 k4 f g (nI en) (nI rn) cnt (nI pn) cng pnd msk sr sav tkn (nI kn)) hD hS hA [3, 4, 5] rfl
  refine va_calli (va_runV (As := [.int (xs ((nI i) + 1).toNatClampNeg)]) (rest := [.int r_346]) ⟨hx, hb, hml, hown, hts⟩ (c_M_linesAt l dC dI q3 q4 q5 H.size k3 k4 f g (nI en) (nI rn) cnt (nI pn) cng pnd msk sr sav tkn (nI kn) (xs ((nI i) + 1).toNatClampNeg) en rfl h32 hs) (cwV 1 htb gL_law_X1_linesAt rfl rfl rfl (by decide +kernel) ⟨Nat.le_of_ble_eq_true rfl, Nat.le_of_ble_eq_true rfl⟩) ⟨fun a U g mk q => by obtain ⟨q0, q1, qP, qK, qD⟩ := q; exact ⟨q0, q1, qP, va_K.moved (u := U) (U := U.calling g mk a) (Vm.Alike.refl U.vm) qK, qD⟩, va_recv hKc hPc (ci := 1) (q0 := 0) rfl rfl, fun U hU hW => ⟨rfl, by rw [hU], by rw [hU]; exact hPc, va_K.moved hW.alike hKc, hDc.weaken (fun _ _ _ _ => trivial)⟩⟩ rfl rfl hl.1 rfl (lv_room (Nat.le_of_ble_eq_true rfl)) dL_law_355 ⟨Nat.le_of_ble_eq_true rfl, Nat.le_of_ble_eq_true rfl⟩) hS (fun q _ h => hFc q h) hFc (fun r_355 u t H1 locs ht hvm hw_355 hB hz1 hk1 hS => ?_)
  obtain ⟨hP1, hK1, hD1⟩ := hB
  rw [ht] at hP1
  try dsimp only at hw_355 hP1 hD1
  obtain ⟨hP, hD⟩ := va_join (wr := rt_xw q0 q1 q2 k1 k2 f g (nI en) (nI rn) cnt (nI pn) cng pnd msk sr sav tkn) (w1 := rt_mw q3 q4 q5 k3 k4 f g (nI en) (nI rn) cnt (nI pn) cng pnd msk sr sav tkn (nI kn)) hP hD [3, 4, 5] [0, 1, 2] rfl rfl (by decide) (by decide) hk1 hFc hP1 hD1
  generalize H1 = H at hP hS ⊢
  have hP : va_P (dC, dI) vwCl (rt_xw q0 q1 q2 k1 k2 f g (nI en) (nI rn) cnt (nI pn) cng pnd msk sr sav tkn ++ rt_mw q3 q4 q5 k3 k4 f g (nI en) (nI rn) cnt (nI pn) cng pnd msk sr sav tkn (nI kn)) H := hP
  have hD : va_D (fun q : Nat => s.heap.size ≤ q) (rt_xw q0 q1 q2 k1 k2 f g (nI en) (nI rn) cnt (nI pn) cng pnd msk sr sav tkn ++ rt_mw q3 q4 q5 k3 k4 f g (nI en) (nI rn) cnt (nI pn) cng pnd msk sr sav tkn (nI kn)) := hD
  refine lv_icmp_eq (tgt := 435) hx hb dL_law_358 (by decide) (fun c_358 => ?_) (fun c_358 => absurd (hw_346.trans hw_355.symm) c_358)
  exact kk f g en rn kn pn cnt cng pnd msk sr sav tkn (hI) H locs ls hP hD hS hl
set_option maxHeartbeats 4000000 in
set_option maxRecDepth 100000 in
theorem law_c11 {p : Program} {l : Launch} {e0 : Env} {s : State} {m : MethodId} {below : List Frame} {meth : Method} {c : Code} {dC : Nat → ClassId} {dI : Nat → Nat → Nat} {b L : Nat} {xs : Nat → Int32} (hL : L ≤ 2048) (C0 : lw_At p s m meth c b L xs) {q0 q1 q2 q3 q4 q5 : Nat} {k1 k2 k3 k4 : ClassId} (hK : va_K (dC, dI) vwCl [(k1, .int), (k2, .int), (k3, .int), (k4, .int)] s) {i : Nat} (hi : i + 4 ≤ L) (kk : ∀ (f g : Nat → Int32) (en rn kn pn : Nat) (cnt cng pnd msk sr sav tkn : Int32), rt_Inv f en rn kn pn → ∀ (H : Heap) (locs : List Loc) (ls : Array Slot), va_P (dC, dI) vwCl (rt_xw q0 q1 q2 k1 k2 f g (nI en) (nI rn) cnt (nI pn) cng pnd msk sr sav tkn ++ rt_mw q3 q4 q5 k3 k4 f g (nI en) (nI rn) cnt (nI pn) cng pnd msk sr sav tkn (nI kn)) H → va_D (fun q : Nat => s.heap.size ≤ q) (rt_xw q0 q1 q2 k1 k2 f g (nI en) (nI rn) cnt (nI pn) cng pnd msk sr sav tkn ++ rt_mw q3 q4 q5 k3 k4 f g (nI en) (nI rn) cnt (nI pn) cng pnd msk sr sav tkn (nI kn)) → va_S (fun q : Nat => s.heap.size ≤ q) s.heap H locs → lv_has ls 4 [(0, .ref b), (1, .ref q0), (2, .ref q3), (3, .int (nI i))] → W p l e0 room_1 s m #[Value.ref b] below meth c H locs 6 154 (lw_Z below #[Value.ref b] s) (F0 m 435 ls [])) :
    ∀ (f g : Nat → Int32) (en rn kn pn : Nat) (cnt cng pnd msk sr sav tkn : Int32), rt_Inv f en rn kn pn → ∀ (H : Heap) (locs : List Loc) (ls : Array Slot), va_P (dC, dI) vwCl (rt_xw q0 q1 q2 k1 k2 f g (nI en) (nI rn) cnt (nI pn) cng pnd msk sr sav tkn ++ rt_mw q3 q4 q5 k3 k4 f g (nI en) (nI rn) cnt (nI pn) cng pnd msk sr sav tkn (nI kn)) H → va_D (fun q : Nat => s.heap.size ≤ q) (rt_xw q0 q1 q2 k1 k2 f g (nI en) (nI rn) cnt (nI pn) cng pnd msk sr sav tkn ++ rt_mw q3 q4 q5 k3 k4 f g (nI en) (nI rn) cnt (nI pn) cng pnd msk sr sav tkn (nI kn)) → va_S (fun q : Nat => s.heap.size ≤ q) s.heap H locs → lv_has ls 4 [(0, .ref b), (1, .ref q0), (2, .ref q3), (3, .int (nI i))] → W p l e0 room_1 s m #[Value.ref b] below meth c H locs 6 154 (lw_Z below #[Value.ref b] s) (F0 m 363 ls []) := by
  obtain ⟨hx, hb, hr, hml, hown, htb, hX, hbl, hlocks, hgv⟩ := C0
  have hts := fun w h => htb w (wsL_law_in w h)
  have hA : ∀ q : Nat, s.heap.size ≤ q → (fun q : Nat => s.heap.size ≤ q) q := fun _ h => h
  have hbA : ¬ (fun q : Nat => s.heap.size ≤ q) b := Nat.not_le.mpr hbl
  intro f g en rn kn pn cnt cng pnd msk sr sav tkn hI H locs ls hP hD hS hl
  obtain ⟨h32, hrl, hpl, hs, hc⟩ := id hI
  refine lv_aload_n hx hb dL_law_363 rfl (lv_at hl 1 rfl) ?_
  refine lv_aload_n hx hb dL_law_364 rfl (lv_at hl 0 rfl) ?_
  refine lv_iload_n hx hb dL_law_365 rfl (lv_at hl 3 rfl) ?_
  refine lv_iconst (v := 1) hx hb dL_law_366 (by decide) ?_
  refine lv_iadd hx hb dL_law_367 ?_
  refine va_sld hx hb hX hbl hbA hS (rt_in1 hi hL) dL_law_368 ?_
  refine lv_aload_n hx hb dL_law_369 rfl (lv_at hl 0 rfl) ?_
  refine lv_iload_n hx hb dL_law_370 rfl (lv_at hl 3 rfl) ?_
  refine lv_iconst (v := 2) hx hb dL_law_371 (by decide) ?_
  refine lv_iadd hx hb dL_law_372 ?_
  refine va_sld hx hb hX hbl hbA hS (rt_in2 hi hL) dL_law_373 ?_
  refine lv_if_eq (tgt := 381) hx hb dL_law_374 (by decide) (fun c_374 => ?_) (fun c_374 => ?_)
  · refine lv_iconst (v := 0) hx hb dL_law_381 (by decide) ?_
    have hPc := hP.sub (ws' := rt_xw q0 q1 q2 k1 k2 f g (nI en) (nI rn) cnt (nI pn) cng pnd msk sr sav tkn) [0, 1, 2] rfl
    have hDc := hD.sub (ws' := rt_xw q0 q1 q2 k1 k2 f g (nI en) (nI rn) cnt (nI pn) cng pnd msk sr sav tkn) [0, 1, 2] (by decide) rfl
    have hKc := hK.sub (tys' := [(k1, .int), (k2, .int)]) [0, 1] rfl
    have hFc := va_free (wc := rt_xw q0 q1 q2 k1 k2 f g (nI en) (nI rn) cnt (nI pn) cng pnd msk sr sav tkn) hD hS hA [0, 1, 2] rfl
    refine va_calli (va_runV (As := [.int (xs ((nI i) + 1).toNatClampNeg), .int 0]) (rest := []) ⟨hx, hb, hml, hown, hts⟩ (c_X_entryOf l dC dI q0 q1 q2 H.size k1 k2 f g (nI en) (nI rn) cnt (nI pn) cng pnd msk sr sav tkn (xs ((nI i) + 1).toNatClampNeg) 0 en rfl h32) (cwV 2 hts gL_law_X0_entryOf rfl rfl rfl (by decide +kernel) ⟨Nat.le_of_ble_eq_true rfl, Nat.le_of_ble_eq_true rfl⟩) ⟨fun a U g mk q => by obtain ⟨q0, q1, qP, qK, qD⟩ := q; exact ⟨q0, q1, qP, va_K.moved (u := U) (U := U.calling g mk a) (Vm.Alike.refl U.vm) qK, qD⟩, va_recv hKc hPc (ci := 0) (q0 := 0) rfl rfl, fun U hU hW => ⟨rfl, by rw [hU], by rw [hU]; exact hPc, va_K.moved hW.alike hKc, hDc.weaken (fun _ _ _ _ => trivial)⟩⟩ rfl rfl hl.1 rfl (lv_room (Nat.le_of_ble_eq_true rfl)) dL_law_382 ⟨Nat.le_of_ble_eq_true rfl, Nat.le_of_ble_eq_true rfl⟩) hS (fun q _ h => hFc q h) hFc (fun r_382 u t H1 locs ht hvm hw_382 hB hz1 hk1 hS => ?_)
    obtain ⟨hP1, hK1, hD1⟩ := hB
    rw [ht] at hP1
    try dsimp only at hw_382 hP1 hD1
    obtain ⟨hP, hD⟩ := va_join (wr := rt_mw q3 q4 q5 k3 k4 f g (nI en) (nI rn) cnt (nI pn) cng pnd msk sr sav tkn (nI kn)) (w1 := rt_xw q0 q1 q2 k1 k2 f g (nI en) (nI rn) cnt (nI pn) cng pnd msk sr sav tkn) hP hD [0, 1, 2] [3, 4, 5] rfl rfl (by decide) (by decide) hk1 hFc hP1 hD1
    have hP := hP.sub (ws' := rt_xw q0 q1 q2 k1 k2 f g (nI en) (nI rn) cnt (nI pn) cng pnd msk sr sav tkn ++ rt_mw q3 q4 q5 k3 k4 f g (nI en) (nI rn) cnt (nI pn) cng pnd msk sr sav tkn (nI kn)) [3, 4, 5, 0, 1, 2] rfl
    have hD := hD.sub (ws' := rt_xw q0 q1 q2 k1 k2 f g (nI en) (nI rn) cnt (nI pn) cng pnd msk sr sav tkn ++ rt_mw q3 q4 q5 k3 k4 f g (nI en) (nI rn) cnt (nI pn) cng pnd msk sr sav tkn (nI kn)) [3, 4, 5, 0, 1, 2] (by decide) rfl
    generalize H1 = H at hP hS ⊢
    have hP : va_P (dC, dI) vwCl (rt_xw q0 q1 q2 k1 k2 f g (nI en) (nI rn) cnt (nI pn) cng pnd msk sr sav tkn ++ rt_mw q3 q4 q5 k3 k4 f g (nI en) (nI rn) cnt (nI pn) cng pnd msk sr sav tkn (nI kn)) H := hP
    have hD : va_D (fun q : Nat => s.heap.size ≤ q) (rt_xw q0 q1 q2 k1 k2 f g (nI en) (nI rn) cnt (nI pn) cng pnd msk sr sav tkn ++ rt_mw q3 q4 q5 k3 k4 f g (nI en) (nI rn) cnt (nI pn) cng pnd msk sr sav tkn (nI kn)) := hD
    refine lv_aload_n hx hb dL_law_385 rfl (lv_at hl 2 rfl) ?_
    refine lv_aload_n hx hb dL_law_386 rfl (lv_at hl 0 rfl) ?_
    refine lv_iload_n hx hb dL_law_387 rfl (lv_at hl 3 rfl) ?_
    refine lv_iconst (v := 1) hx hb dL_law_388 (by decide) ?_
    refine lv_iadd hx hb dL_law_389 ?_
    refine va_sld hx hb hX hbl hbA hS (rt_in1 hi hL) dL_law_390 ?_
    refine lv_aload_n hx hb dL_law_391 rfl (lv_at hl 0 rfl) ?_
    refine lv_iload_n hx hb dL_law_392 rfl (lv_at hl 3 rfl) ?_
    refine lv_iconst (v := 2) hx hb dL_law_393 (by decide) ?_
    refine lv_iadd hx hb dL_law_394 ?_
    refine va_sld hx hb hX hbl hbA hS (rt_in2 hi hL) dL_law_395 ?_
    refine lv_if_eq (tgt := 403) hx hb dL_law_396 (by decide) (fun c_396 => ?_) (fun c_396 => absurd c_374 c_396)
    refine lv_iconst (v := 0) hx hb dL_law_403 (by decide) ?_
    have hPc := hP.sub (ws' := rt_mw q3 q4 q5 k3 k4 f g (nI en) (nI rn) cnt (nI pn) cng pnd msk sr sav tkn (nI kn)) [3, 4, 5] rfl
    have hDc := hD.sub (ws' := rt_mw q3 q4 q5 k3 k4 f g (nI en) (nI rn) cnt (nI pn) cng pnd msk sr sav tkn (nI kn)) [3, 4, 5] (by decide) rfl
    have hKc := hK.sub (tys' := [(k3, .int), (k4, .int)]) [2, 3] rfl
    have hFc := va_free (wc := rt_mw q3 q4 q5 k3 k4 f g (nI en) (nI rn) cnt (nI pn) cng pnd msk sr sav tkn (nI kn)) hD hS hA [3, 4, 5] rfl
    refine va_calli (va_runV (As := [.int (xs ((nI i) + 1).toNatClampNeg), .int 0]) (rest := [.int r_382]) ⟨hx, hb, hml, hown, hts⟩ (c_M_entryOf l dC dI q3 q4 q5 H.size k3 k4 f g (nI en) (nI rn) cnt (nI pn) cng pnd msk sr sav tkn (nI kn) (xs ((nI i) + 1).toNatClampNeg) 0 en rfl h32) (cwV 2 htb gL_law_X1_entryOf rfl rfl rfl (by decide +kernel) ⟨Nat.le_of_ble_eq_true rfl, Nat.le_of_ble_eq_true rfl⟩) ⟨fun a U g mk q => by obtain ⟨q0, q1, qP, qK, qD⟩ := q; exact ⟨q0, q1, qP, va_K.moved (u := U) (U := U.calling g mk a) (Vm.Alike.refl U.vm) qK, qD⟩, va_recv hKc hPc (ci := 1) (q0 := 0) rfl rfl, fun U hU hW => ⟨rfl, by rw [hU], by rw [hU]; exact hPc, va_K.moved hW.alike hKc, hDc.weaken (fun _ _ _ _ => trivial)⟩⟩ rfl rfl hl.1 rfl (lv_room (Nat.le_of_ble_eq_true rfl)) dL_law_404 ⟨Nat.le_of_ble_eq_true rfl, Nat.le_of_ble_eq_true rfl⟩) hS (fun q _ h => hFc q h) hFc (fun r_404 u t H1 locs ht hvm hw_404 hB hz1 hk1 hS => ?_)
    obtain ⟨hP1, hK1, hD1⟩ := hB
    rw [ht] at hP1
    try dsimp only at hw_404 hP1 hD1
    obtain ⟨hP, hD⟩ := va_join (wr := rt_xw q0 q1 q2 k1 k2 f g (nI en) (nI rn) cnt (nI pn) cng pnd msk sr sav tkn) (w1 := rt_mw q3 q4 q5 k3 k4 f g (nI en) (nI rn) cnt (nI pn) cng pnd msk sr sav tkn (nI kn)) hP hD [3, 4, 5] [0, 1, 2] rfl rfl (by decide) (by decide) hk1 hFc hP1 hD1
    generalize H1 = H at hP hS ⊢
    have hP : va_P (dC, dI) vwCl (rt_xw q0 q1 q2 k1 k2 f g (nI en) (nI rn) cnt (nI pn) cng pnd msk sr sav tkn ++ rt_mw q3 q4 q5 k3 k4 f g (nI en) (nI rn) cnt (nI pn) cng pnd msk sr sav tkn (nI kn)) H := hP
    have hD : va_D (fun q : Nat => s.heap.size ≤ q) (rt_xw q0 q1 q2 k1 k2 f g (nI en) (nI rn) cnt (nI pn) cng pnd msk sr sav tkn ++ rt_mw q3 q4 q5 k3 k4 f g (nI en) (nI rn) cnt (nI pn) cng pnd msk sr sav tkn (nI kn)) := hD
    refine lv_icmp_eq (tgt := 435) hx hb dL_law_407 (by decide) (fun c_407 => ?_) (fun c_407 => absurd (hw_382.trans hw_404.symm) c_407)
    exact kk f g en rn kn pn cnt cng pnd msk sr sav tkn (hI) H locs ls hP hD hS hl
  · refine lv_iconst (v := 1) hx hb dL_law_377 (by decide) ?_
    refine lv_goto (tgt := 382) hx hb dL_law_378 (by decide) ?_
    have hPc := hP.sub (ws' := rt_xw q0 q1 q2 k1 k2 f g (nI en) (nI rn) cnt (nI pn) cng pnd msk sr sav tkn) [0, 1, 2] rfl
    have hDc := hD.sub (ws' := rt_xw q0 q1 q2 k1 k2 f g (nI en) (nI rn) cnt (nI pn) cng pnd msk sr sav tkn) [0, 1, 2] (by decide) rfl
    have hKc := hK.sub (tys' := [(k1, .int), (k2, .int)]) [0, 1] rfl
    have hFc := va_free (wc := rt_xw q0 q1 q2 k1 k2 f g (nI en) (nI rn) cnt (nI pn) cng pnd msk sr sav tkn) hD hS hA [0, 1, 2] rfl
    refine va_calli (va_runV (As := [.int (xs ((nI i) + 1).toNatClampNeg), .int 1]) (rest := []) ⟨hx, hb, hml, hown, hts⟩ (c_X_entryOf l dC dI q0 q1 q2 H.size k1 k2 f g (nI en) (nI rn) cnt (nI pn) cng pnd msk sr sav tkn (xs ((nI i) + 1).toNatClampNeg) 1 en rfl h32) (cwV 2 hts gL_law_X0_entryOf rfl rfl rfl (by decide +kernel) ⟨Nat.le_of_ble_eq_true rfl, Nat.le_of_ble_eq_true rfl⟩) ⟨fun a U g mk q => by obtain ⟨q0, q1, qP, qK, qD⟩ := q; exact ⟨q0, q1, qP, va_K.moved (u := U) (U := U.calling g mk a) (Vm.Alike.refl U.vm) qK, qD⟩, va_recv hKc hPc (ci := 0) (q0 := 0) rfl rfl, fun U hU hW => ⟨rfl, by rw [hU], by rw [hU]; exact hPc, va_K.moved hW.alike hKc, hDc.weaken (fun _ _ _ _ => trivial)⟩⟩ rfl rfl hl.1 rfl (lv_room (Nat.le_of_ble_eq_true rfl)) dL_law_382 ⟨Nat.le_of_ble_eq_true rfl, Nat.le_of_ble_eq_true rfl⟩) hS (fun q _ h => hFc q h) hFc (fun r_382 u t H1 locs ht hvm hw_382 hB hz1 hk1 hS => ?_)
    obtain ⟨hP1, hK1, hD1⟩ := hB
    rw [ht] at hP1
    try dsimp only at hw_382 hP1 hD1
    obtain ⟨hP, hD⟩ := va_join (wr := rt_mw q3 q4 q5 k3 k4 f g (nI en) (nI rn) cnt (nI pn) cng pnd msk sr sav tkn (nI kn)) (w1 := rt_xw q0 q1 q2 k1 k2 f g (nI en) (nI rn) cnt (nI pn) cng pnd msk sr sav tkn) hP hD [0, 1, 2] [3, 4, 5] rfl rfl (by decide) (by decide) hk1 hFc hP1 hD1
    have hP := hP.sub (ws' := rt_xw q0 q1 q2 k1 k2 f g (nI en) (nI rn) cnt (nI pn) cng pnd msk sr sav tkn ++ rt_mw q3 q4 q5 k3 k4 f g (nI en) (nI rn) cnt (nI pn) cng pnd msk sr sav tkn (nI kn)) [3, 4, 5, 0, 1, 2] rfl
    have hD := hD.sub (ws' := rt_xw q0 q1 q2 k1 k2 f g (nI en) (nI rn) cnt (nI pn) cng pnd msk sr sav tkn ++ rt_mw q3 q4 q5 k3 k4 f g (nI en) (nI rn) cnt (nI pn) cng pnd msk sr sav tkn (nI kn)) [3, 4, 5, 0, 1, 2] (by decide) rfl
    generalize H1 = H at hP hS ⊢
    have hP : va_P (dC, dI) vwCl (rt_xw q0 q1 q2 k1 k2 f g (nI en) (nI rn) cnt (nI pn) cng pnd msk sr sav tkn ++ rt_mw q3 q4 q5 k3 k4 f g (nI en) (nI rn) cnt (nI pn) cng pnd msk sr sav tkn (nI kn)) H := hP
    have hD : va_D (fun q : Nat => s.heap.size ≤ q) (rt_xw q0 q1 q2 k1 k2 f g (nI en) (nI rn) cnt (nI pn) cng pnd msk sr sav tkn ++ rt_mw q3 q4 q5 k3 k4 f g (nI en) (nI rn) cnt (nI pn) cng pnd msk sr sav tkn (nI kn)) := hD
    refine lv_aload_n hx hb dL_law_385 rfl (lv_at hl 2 rfl) ?_
    refine lv_aload_n hx hb dL_law_386 rfl (lv_at hl 0 rfl) ?_
    refine lv_iload_n hx hb dL_law_387 rfl (lv_at hl 3 rfl) ?_
    refine lv_iconst (v := 1) hx hb dL_law_388 (by decide) ?_
    refine lv_iadd hx hb dL_law_389 ?_
    refine va_sld hx hb hX hbl hbA hS (rt_in1 hi hL) dL_law_390 ?_
    refine lv_aload_n hx hb dL_law_391 rfl (lv_at hl 0 rfl) ?_
    refine lv_iload_n hx hb dL_law_392 rfl (lv_at hl 3 rfl) ?_
    refine lv_iconst (v := 2) hx hb dL_law_393 (by decide) ?_
    refine lv_iadd hx hb dL_law_394 ?_
    refine va_sld hx hb hX hbl hbA hS (rt_in2 hi hL) dL_law_395 ?_
    refine lv_if_eq (tgt := 403) hx hb dL_law_396 (by decide) (fun c_396 => absurd c_396 c_374) (fun c_396 => ?_)
    refine lv_iconst (v := 1) hx hb dL_law_399 (by decide) ?_
    refine lv_goto (tgt := 404) hx hb dL_law_400 (by decide) ?_
    have hPc := hP.sub (ws' := rt_mw q3 q4 q5 k3 k4 f g (nI en) (nI rn) cnt (nI pn) cng pnd msk sr sav tkn (nI kn)) [3, 4, 5] rfl
    have hDc := hD.sub (ws' := rt_mw q3 q4 q5 k3 k4 f g (nI en) (nI rn) cnt (nI pn) cng pnd msk sr sav tkn (nI kn)) [3, 4, 5] (by decide) rfl
    have hKc := hK.sub (tys' := [(k3, .int), (k4, .int)]) [2, 3] rfl
    have hFc := va_free (wc := rt_mw q3 q4 q5 k3 k4 f g (nI en) (nI rn) cnt (nI pn) cng pnd msk sr sav tkn (nI kn)) hD hS hA [3, 4, 5] rfl
    refine va_calli (va_runV (As := [.int (xs ((nI i) + 1).toNatClampNeg), .int 1]) (rest := [.int r_382]) ⟨hx, hb, hml, hown, hts⟩ (c_M_entryOf l dC dI q3 q4 q5 H.size k3 k4 f g (nI en) (nI rn) cnt (nI pn) cng pnd msk sr sav tkn (nI kn) (xs ((nI i) + 1).toNatClampNeg) 1 en rfl h32) (cwV 2 htb gL_law_X1_entryOf rfl rfl rfl (by decide +kernel) ⟨Nat.le_of_ble_eq_true rfl, Nat.le_of_ble_eq_true rfl⟩) ⟨fun a U g mk q => by obtain ⟨q0, q1, qP, qK, qD⟩ := q; exact ⟨q0, q1, qP, va_K.moved (u := U) (U := U.calling g mk a) (Vm.Alike.refl U.vm) qK, qD⟩, va_recv hKc hPc (ci := 1) (q0 := 0) rfl rfl, fun U hU hW => ⟨rfl, by rw [hU], by rw [hU]; exact hPc, va_K.moved hW.alike hKc, hDc.weaken (fun _ _ _ _ => trivial)⟩⟩ rfl rfl hl.1 rfl (lv_room (Nat.le_of_ble_eq_true rfl)) dL_law_404 ⟨Nat.le_of_ble_eq_true rfl, Nat.le_of_ble_eq_true rfl⟩) hS (fun q _ h => hFc q h) hFc (fun r_404 u t H1 locs ht hvm hw_404 hB hz1 hk1 hS => ?_)
    obtain ⟨hP1, hK1, hD1⟩ := hB
    rw [ht] at hP1
    try dsimp only at hw_404 hP1 hD1
    obtain ⟨hP, hD⟩ := va_join (wr := rt_xw q0 q1 q2 k1 k2 f g (nI en) (nI rn) cnt (nI pn) cng pnd msk sr sav tkn) (w1 := rt_mw q3 q4 q5 k3 k4 f g (nI en) (nI rn) cnt (nI pn) cng pnd msk sr sav tkn (nI kn)) hP hD [3, 4, 5] [0, 1, 2] rfl rfl (by decide) (by decide) hk1 hFc hP1 hD1
    generalize H1 = H at hP hS ⊢
    have hP : va_P (dC, dI) vwCl (rt_xw q0 q1 q2 k1 k2 f g (nI en) (nI rn) cnt (nI pn) cng pnd msk sr sav tkn ++ rt_mw q3 q4 q5 k3 k4 f g (nI en) (nI rn) cnt (nI pn) cng pnd msk sr sav tkn (nI kn)) H := hP
    have hD : va_D (fun q : Nat => s.heap.size ≤ q) (rt_xw q0 q1 q2 k1 k2 f g (nI en) (nI rn) cnt (nI pn) cng pnd msk sr sav tkn ++ rt_mw q3 q4 q5 k3 k4 f g (nI en) (nI rn) cnt (nI pn) cng pnd msk sr sav tkn (nI kn)) := hD
    refine lv_icmp_eq (tgt := 435) hx hb dL_law_407 (by decide) (fun c_407 => ?_) (fun c_407 => absurd (hw_382.trans hw_404.symm) c_407)
    exact kk f g en rn kn pn cnt cng pnd msk sr sav tkn (hI) H locs ls hP hD hS hl
set_option maxHeartbeats 4000000 in
set_option maxRecDepth 100000 in
theorem law_c12 {p : Program} {l : Launch} {e0 : Env} {s : State} {m : MethodId} {below : List Frame} {meth : Method} {c : Code} {dC : Nat → ClassId} {dI : Nat → Nat → Nat} {b L : Nat} {xs : Nat → Int32} (hL : L ≤ 2048) (C0 : lw_At p s m meth c b L xs) {q0 q1 q2 q3 q4 q5 : Nat} {k1 k2 k3 k4 : ClassId} (hK : va_K (dC, dI) vwCl [(k1, .int), (k2, .int), (k3, .int), (k4, .int)] s) {i : Nat} (hi : i + 4 ≤ L) (kk : ∀ (f g : Nat → Int32) (en rn kn pn : Nat) (cnt cng pnd msk sr sav tkn : Int32), rt_Inv f en rn kn pn → ∀ (H : Heap) (locs : List Loc) (ls : Array Slot), va_P (dC, dI) vwCl (rt_xw q0 q1 q2 k1 k2 f g (nI en) (nI rn) cnt (nI pn) cng pnd msk sr sav tkn ++ rt_mw q3 q4 q5 k3 k4 f g (nI en) (nI rn) cnt (nI pn) cng pnd msk sr sav tkn (nI kn)) H → va_D (fun q : Nat => s.heap.size ≤ q) (rt_xw q0 q1 q2 k1 k2 f g (nI en) (nI rn) cnt (nI pn) cng pnd msk sr sav tkn ++ rt_mw q3 q4 q5 k3 k4 f g (nI en) (nI rn) cnt (nI pn) cng pnd msk sr sav tkn (nI kn)) → va_S (fun q : Nat => s.heap.size ≤ q) s.heap H locs → lv_has ls 4 [(0, .ref b), (1, .ref q0), (2, .ref q3), (3, .int (nI i))] → W p l e0 room_1 s m #[Value.ref b] below meth c H locs 6 154 (lw_Z below #[Value.ref b] s) (F0 m 435 ls [])) :
    ∀ (f g : Nat → Int32) (en rn kn pn : Nat) (cnt cng pnd msk sr sav tkn : Int32), rt_Inv f en rn kn pn → ∀ (H : Heap) (locs : List Loc) (ls : Array Slot), va_P (dC, dI) vwCl (rt_xw q0 q1 q2 k1 k2 f g (nI en) (nI rn) cnt (nI pn) cng pnd msk sr sav tkn ++ rt_mw q3 q4 q5 k3 k4 f g (nI en) (nI rn) cnt (nI pn) cng pnd msk sr sav tkn (nI kn)) H → va_D (fun q : Nat => s.heap.size ≤ q) (rt_xw q0 q1 q2 k1 k2 f g (nI en) (nI rn) cnt (nI pn) cng pnd msk sr sav tkn ++ rt_mw q3 q4 q5 k3 k4 f g (nI en) (nI rn) cnt (nI pn) cng pnd msk sr sav tkn (nI kn)) → va_S (fun q : Nat => s.heap.size ≤ q) s.heap H locs → lv_has ls 4 [(0, .ref b), (1, .ref q0), (2, .ref q3), (3, .int (nI i))] → W p l e0 room_1 s m #[Value.ref b] below meth c H locs 6 154 (lw_Z below #[Value.ref b] s) (F0 m 412 ls []) := by
  obtain ⟨hx, hb, hr, hml, hown, htb, hX, hbl, hlocks, hgv⟩ := C0
  have hts := fun w h => htb w (wsL_law_in w h)
  have hA : ∀ q : Nat, s.heap.size ≤ q → (fun q : Nat => s.heap.size ≤ q) q := fun _ h => h
  have hbA : ¬ (fun q : Nat => s.heap.size ≤ q) b := Nat.not_le.mpr hbl
  intro f g en rn kn pn cnt cng pnd msk sr sav tkn hI H locs ls hP hD hS hl
  obtain ⟨h32, hrl, hpl, hs, hc⟩ := id hI
  refine lv_aload_n hx hb dL_law_412 rfl (lv_at hl 1 rfl) ?_
  refine lv_aload_n hx hb dL_law_413 rfl (lv_at hl 0 rfl) ?_
  refine lv_iload_n hx hb dL_law_414 rfl (lv_at hl 3 rfl) ?_
  refine lv_iconst (v := 1) hx hb dL_law_415 (by decide) ?_
  refine lv_iadd hx hb dL_law_416 ?_
  refine va_sld hx hb hX hbl hbA hS (rt_in1 hi hL) dL_law_417 ?_
  have hPc := hP.sub (ws' := rt_xw q0 q1 q2 k1 k2 f g (nI en) (nI rn) cnt (nI pn) cng pnd msk sr sav tkn) [0, 1, 2] rfl
  have hDc := hD.sub (ws' := rt_xw q0 q1 q2 k1 k2 f g (nI en) (nI rn) cnt (nI pn) cng pnd msk sr sav tkn) [0, 1, 2] (by decide) rfl
  have hKc := hK.sub (tys' := [(k1, .int), (k2, .int)]) [0, 1] rfl
  have hFc := va_free (wc := rt_xw q0 q1 q2 k1 k2 f g (nI en) (nI rn) cnt (nI pn) cng pnd msk sr sav tkn) hD hS hA [0, 1, 2] rfl
  refine va_calli (va_runV (As := [.int (xs ((nI i) + 1).toNatClampNeg)]) (rest := []) ⟨hx, hb, hml, hown, hts⟩ (c_X_look l dC dI q0 q1 q2 H.size k1 k2 f g (nI en) (nI rn) cnt (nI pn) cng pnd msk sr sav tkn (xs ((nI i) + 1).toNatClampNeg) en rn rfl h32 rfl) (cwV 1 hts gL_law_X0_look rfl rfl rfl (by decide +kernel) ⟨Nat.le_of_ble_eq_true rfl, Nat.le_of_ble_eq_true rfl⟩) ⟨fun a U g mk q => by obtain ⟨q0, q1, qP, qK, qD⟩ := q; exact ⟨q0, q1, qP, va_K.moved (u := U) (U := U.calling g mk a) (Vm.Alike.refl U.vm) qK, qD⟩, va_recv hKc hPc (ci := 0) (q0 := 0) rfl rfl, fun U hU hW => ⟨rfl, by rw [hU], by rw [hU]; exact hPc, va_K.moved hW.alike hKc, hDc.weaken (fun _ _ _ _ => trivial)⟩⟩ rfl rfl hl.1 rfl (lv_room (Nat.le_of_ble_eq_true rfl)) dL_law_418 ⟨Nat.le_of_ble_eq_true rfl, Nat.le_of_ble_eq_true rfl⟩) hS (fun q _ h => hFc q h) hFc (fun r_418 u t H1 locs ht hvm hw_418 hB hz1 hk1 hS => ?_)
  obtain ⟨hP1, hK1, hD1⟩ := hB
  rw [ht] at hP1
  try dsimp only at hw_418 hP1 hD1
  obtain ⟨hP, hD⟩ := va_join (wr := rt_mw q3 q4 q5 k3 k4 f g (nI en) (nI rn) cnt (nI pn) cng pnd msk sr sav tkn (nI kn)) (w1 := rt_xw q0 q1 q2 k1 k2 f g (nI en) (nI rn) cnt (nI pn) cng pnd msk sr sav tkn) hP hD [0, 1, 2] [3, 4, 5] rfl rfl (by decide) (by decide) hk1 hFc hP1 hD1
  have hP := hP.sub (ws' := rt_xw q0 q1 q2 k1 k2 f g (nI en) (nI rn) cnt (nI pn) cng pnd msk sr sav tkn ++ rt_mw q3 q4 q5 k3 k4 f g (nI en) (nI rn) cnt (nI pn) cng pnd msk sr sav tkn (nI kn)) [3, 4, 5, 0, 1, 2] rfl
  have hD := hD.sub (ws' := rt_xw q0 q1 q2 k1 k2 f g (nI en) (nI rn) cnt (nI pn) cng pnd msk sr sav tkn ++ rt_mw q3 q4 q5 k3 k4 f g (nI en) (nI rn) cnt (nI pn) cng pnd msk sr sav tkn (nI kn)) [3, 4, 5, 0, 1, 2] (by decide) rfl
  generalize H1 = H at hP hS ⊢
  have hP : va_P (dC, dI) vwCl (rt_xw q0 q1 q2 k1 k2 f g (nI en) (nI rn) cnt (nI pn) cng pnd msk sr sav tkn ++ rt_mw q3 q4 q5 k3 k4 f g (nI en) (nI rn) cnt (nI pn) cng pnd msk sr sav tkn (nI kn)) H := hP
  have hD : va_D (fun q : Nat => s.heap.size ≤ q) (rt_xw q0 q1 q2 k1 k2 f g (nI en) (nI rn) cnt (nI pn) cng pnd msk sr sav tkn ++ rt_mw q3 q4 q5 k3 k4 f g (nI en) (nI rn) cnt (nI pn) cng pnd msk sr sav tkn (nI kn)) := hD
  refine lv_aload_n hx hb dL_law_421 rfl (lv_at hl 2 rfl) ?_
  refine lv_aload_n hx hb dL_law_422 rfl (lv_at hl 0 rfl) ?_
  refine lv_iload_n hx hb dL_law_423 rfl (lv_at hl 3 rfl) ?_
  refine lv_iconst (v := 1) hx hb dL_law_424 (by decide) ?_
  refine lv_iadd hx hb dL_law_425 ?_
  refine va_sld hx hb hX hbl hbA hS (rt_in1 hi hL) dL_law_426 ?_
  have hPc := hP.sub (ws' := rt_mw q3 q4 q5 k3 k4 f g (nI en) (nI rn) cnt (nI pn) cng pnd msk sr sav tkn (nI kn)) [3, 4, 5] rfl
  have hDc := hD.sub (ws' := rt_mw q3 q4 q5 k3 k4 f g (nI en) (nI rn) cnt (nI pn) cng pnd msk sr sav tkn (nI kn)) [3, 4, 5] (by decide) rfl
  have hKc := hK.sub (tys' := [(k3, .int), (k4, .int)]) [2, 3] rfl
  have hFc := va_free (wc := rt_mw q3 q4 q5 k3 k4 f g (nI en) (nI rn) cnt (nI pn) cng pnd msk sr sav tkn (nI kn)) hD hS hA [3, 4, 5] rfl
  refine va_calli (va_runV (As := [.int (xs ((nI i) + 1).toNatClampNeg)]) (rest := [.int r_418]) ⟨hx, hb, hml, hown, hts⟩ (c_M_look l dC dI q3 q4 q5 H.size k3 k4 f g (nI en) (nI rn) cnt (nI pn) cng pnd msk sr sav tkn (nI kn) (xs ((nI i) + 1).toNatClampNeg) en rn kn rfl rfl rfl (by have := hc.1; omega)) (cwV 1 htb gL_law_X1_look rfl rfl rfl (by decide +kernel) ⟨Nat.le_of_ble_eq_true rfl, Nat.le_of_ble_eq_true rfl⟩) ⟨fun a U g mk q => by obtain ⟨q0, q1, qP, qK, qD⟩ := q; exact ⟨q0, q1, qP, va_K.moved (u := U) (U := U.calling g mk a) (Vm.Alike.refl U.vm) qK, qD⟩, va_recv hKc hPc (ci := 1) (q0 := 0) rfl rfl, fun U hU hW => ⟨rfl, by rw [hU], by rw [hU]; exact hPc, va_K.moved hW.alike hKc, hDc.weaken (fun _ _ _ _ => trivial)⟩⟩ rfl rfl hl.1 rfl (lv_room (Nat.le_of_ble_eq_true rfl)) dL_law_427 ⟨Nat.le_of_ble_eq_true rfl, Nat.le_of_ble_eq_true rfl⟩) hS (fun q _ h => hFc q h) hFc (fun r_427 u t H1 locs ht hvm hw_427 hB hz1 hk1 hS => ?_)
  obtain ⟨hP1, hK1, hD1⟩ := hB
  rw [ht] at hP1
  try dsimp only at hw_427 hP1 hD1
  obtain ⟨hP, hD⟩ := va_join (wr := rt_xw q0 q1 q2 k1 k2 f g (nI en) (nI rn) cnt (nI pn) cng pnd msk sr sav tkn) (w1 := rt_mw q3 q4 q5 k3 k4 f g (nI en) (nI rn) cnt (nI pn) cng pnd msk sr sav tkn (nI kn)) hP hD [3, 4, 5] [0, 1, 2] rfl rfl (by decide) (by decide) hk1 hFc hP1 hD1
  generalize H1 = H at hP hS ⊢
  have hP : va_P (dC, dI) vwCl (rt_xw q0 q1 q2 k1 k2 f g (nI en) (nI rn) cnt (nI pn) cng pnd msk sr sav tkn ++ rt_mw q3 q4 q5 k3 k4 f g (nI en) (nI rn) cnt (nI pn) cng pnd msk sr sav tkn (nI kn)) H := hP
  have hD : va_D (fun q : Nat => s.heap.size ≤ q) (rt_xw q0 q1 q2 k1 k2 f g (nI en) (nI rn) cnt (nI pn) cng pnd msk sr sav tkn ++ rt_mw q3 q4 q5 k3 k4 f g (nI en) (nI rn) cnt (nI pn) cng pnd msk sr sav tkn (nI kn)) := hD
  rw [rt_pl_now hc] at hw_418
  refine lv_icmp_eq (tgt := 435) hx hb dL_law_430 (by decide) (fun c_430 => ?_) (fun c_430 => absurd (rt_lk_eq (A := rt_lk en rn cnt (nI pn) cng pnd msk sr sav tkn (rt_now g kn)) hw_418 hw_427) c_430)
  exact kk f g en rn kn pn cnt cng pnd msk sr sav tkn (hI) H locs ls hP hD hS hl
end
section
set_option maxHeartbeats 4000000 in
set_option maxRecDepth 100000 in
theorem law_loop {p : Program} {l : Launch} {e0 : Env} {s : State} {m : MethodId} {below : List Frame} {meth : Method} {c : Code} {dC : Nat → ClassId} {dI : Nat → Nat → Nat} {b L : Nat} {xs : Nat → Int32} (hL : L ≤ 2048) (C0 : lw_At p s m meth c b L xs) {q0 q1 q2 q3 q4 q5 : Nat} {k1 k2 k3 k4 : ClassId} (hK : va_K (dC, dI) vwCl [(k1, .int), (k2, .int), (k3, .int), (k4, .int)] s) :
    ∀ (n i : Nat), i ≤ L → L + 1 ≤ i + n → ∀ (f g : Nat → Int32) (en rn kn pn : Nat) (cnt cng pnd msk sr sav tkn : Int32), rt_Inv f en rn kn pn → ∀ (H : Heap) (locs : List Loc) (ls : Array Slot), va_P (dC, dI) vwCl (rt_xw q0 q1 q2 k1 k2 f g (nI en) (nI rn) cnt (nI pn) cng pnd msk sr sav tkn ++ rt_mw q3 q4 q5 k3 k4 f g (nI en) (nI rn) cnt (nI pn) cng pnd msk sr sav tkn (nI kn)) H → va_D (fun q : Nat => s.heap.size ≤ q) (rt_xw q0 q1 q2 k1 k2 f g (nI en) (nI rn) cnt (nI pn) cng pnd msk sr sav tkn ++ rt_mw q3 q4 q5 k3 k4 f g (nI en) (nI rn) cnt (nI pn) cng pnd msk sr sav tkn (nI kn)) → va_S (fun q : Nat => s.heap.size ≤ q) s.heap H locs → lv_has ls 4 [(0, .ref b), (1, .ref q0), (2, .ref q3), (3, .int (nI i))] → W p l e0 room_1 s m #[Value.ref b] below meth c H locs 6 154 (lw_Z below #[Value.ref b] s) (F0 m 18 ls []) := by
  have C1 := C0
  obtain ⟨hx, hb, hr, hml, hown, htb, hX, hbl, hlocks, hgv⟩ := C0
  have hts := fun w h => htb w (wsL_law_in w h)
  have hA : ∀ q : Nat, s.heap.size ≤ q → (fun q : Nat => s.heap.size ≤ q) q := fun _ h => h
  have hbA : ¬ (fun q : Nat => s.heap.size ≤ q) b := Nat.not_le.mpr hbl
  intro n
  induction n with
  | zero =>
    intro i h1 h2
    exact absurd h2 (by omega)
  | succ n ih =>
    intro i hil hin f g en rn kn pn cnt cng pnd msk sr sav tkn hI H locs ls hP hD hS hl
    refine lv_iload_n hx hb dL_law_18 rfl (lv_at hl 3 rfl) ?_
    refine lv_aload_n hx hb dL_law_19 rfl (lv_at hl 0 rfl) ?_
    refine va_slen hx hb hX hbl hbA hS dL_law_20 ?_
    refine lv_iconst (v := 4) hx hb dL_law_21 (by decide) ?_
    refine lv_isub hx hb dL_law_22 ?_
    refine lv_icmp_gt (tgt := 441) hx hb dL_law_23 (by decide) (fun c_23 => ?_) (fun c_23 => ?_)
    · refine lv_iconst (v := 1) hx hb dL_law_441 (by decide) ?_
      refine va_forget (fun q hq => hS.2.2 q hq) ?_
      refine W.widen (k := 6) (n := 154) (Nat.le_refl _) (Nat.le_refl _) ?_
      exact lw_ret hx hb hr hlocks dL_law_442
    · have hi : i + 4 ≤ L := rt_go hil hL c_23
      refine lv_aload_n hx hb dL_law_26 rfl (lv_at hl 0 rfl) ?_
      refine lv_iload_n hx hb dL_law_27 rfl (lv_at hl 3 rfl) ?_
      refine va_sld hx hb hX hbl hbA hS (rt_in0 hi hL) dL_law_28 ?_
      refine lv_bipush (v := 15) hx hb dL_law_29 (by decide) ?_
      refine lv_iand hx hb dL_law_31 ?_
      obtain ⟨j, hj, ej⟩ := pk_andE (xs (nI i).toNatClampNeg) (m := 15) 4 (by decide)
      rw [ej]
      have kk : ∀ (f g : Nat → Int32) (en rn kn pn : Nat) (cnt cng pnd msk sr sav tkn : Int32), rt_Inv f en rn kn pn → ∀ (H : Heap) (locs : List Loc) (ls : Array Slot), va_P (dC, dI) vwCl (rt_xw q0 q1 q2 k1 k2 f g (nI en) (nI rn) cnt (nI pn) cng pnd msk sr sav tkn ++ rt_mw q3 q4 q5 k3 k4 f g (nI en) (nI rn) cnt (nI pn) cng pnd msk sr sav tkn (nI kn)) H → va_D (fun q : Nat => s.heap.size ≤ q) (rt_xw q0 q1 q2 k1 k2 f g (nI en) (nI rn) cnt (nI pn) cng pnd msk sr sav tkn ++ rt_mw q3 q4 q5 k3 k4 f g (nI en) (nI rn) cnt (nI pn) cng pnd msk sr sav tkn (nI kn)) → va_S (fun q : Nat => s.heap.size ≤ q) s.heap H locs → lv_has ls 4 [(0, .ref b), (1, .ref q0), (2, .ref q3), (3, .int (nI i))] → W p l e0 room_1 s m #[Value.ref b] below meth c H locs 6 154 (lw_Z below #[Value.ref b] s) (F0 m 435 ls []) := by
        intro f g en rn kn pn cnt cng pnd msk sr sav tkn hI H locs ls hP hD hS hl
        refine lv_iinc (v := nI i + 4) (lv' := [(3, .int (nI i + 4)), (0, .ref b), (1, .ref q0), (2, .ref q3)]) hx hb dL_law_435 hl (k := 3) rfl rfl (by decide) rfl (fun ls hl => ?_)
        refine lv_goto (tgt := 18) hx hb dL_law_438 (by decide) ?_
        exact ih (i + 4) (by omega) (by omega) f g en rn kn pn cnt cng pnd msk sr sav tkn hI H locs ls hP hD hS (by rw [show nI (i + 4) = nI i + 4 from (nI_add i 4).symm]; exact lv_sub hl [1, 2, 3, 0] rfl)
      rcases (show j = 0 ∨ j = 1 ∨ j = 2 ∨ j = 3 ∨ j = 4 ∨ j = 5 ∨ j = 6 ∨ j = 7 ∨ j = 8 ∨ j = 9 ∨ j = 10 ∨ j = 11 ∨ j = 12 ∨ j = 13 ∨ j = 14 ∨ j = 15 by omega) with rfl | rfl | rfl | rfl | rfl | rfl | rfl | rfl | rfl | rfl | rfl | rfl | rfl | rfl | rfl | rfl
      · refine lv_tableIn (off := 68) (tgt := 100) hx hb dL_law_32 (by decide +kernel) (by decide +kernel) (by decide +kernel) (by decide) ?_
        exact law_c0 hL C1 hK hi kk f g en rn kn pn cnt cng pnd msk sr sav tkn hI H locs ls hP hD hS hl
      · refine lv_tableIn (off := 101) (tgt := 133) hx hb dL_law_32 (by decide +kernel) (by decide +kernel) (by decide +kernel) (by decide) ?_
        exact law_c1 hL C1 hK hi kk f g en rn kn pn cnt cng pnd msk sr sav tkn hI H locs ls hP hD hS hl
      · refine lv_tableIn (off := 124) (tgt := 156) hx hb dL_law_32 (by decide +kernel) (by decide +kernel) (by decide +kernel) (by decide) ?_
        exact law_c2 hL C1 hK hi kk f g en rn kn pn cnt cng pnd msk sr sav tkn hI H locs ls hP hD hS hl
      · refine lv_tableIn (off := 137) (tgt := 169) hx hb dL_law_32 (by decide +kernel) (by decide +kernel) (by decide +kernel) (by decide) ?_
        exact law_c3 hL C1 hK hi kk f g en rn kn pn cnt cng pnd msk sr sav tkn hI H locs ls hP hD hS hl
      · refine lv_tableIn (off := 148) (tgt := 180) hx hb dL_law_32 (by decide +kernel) (by decide +kernel) (by decide +kernel) (by decide) ?_
        exact law_c4 hL C1 hK hi kk f g en rn kn pn cnt cng pnd msk sr sav tkn hI H locs ls hP hD hS hl
      · refine lv_tableIn (off := 169) (tgt := 201) hx hb dL_law_32 (by decide +kernel) (by decide +kernel) (by decide +kernel) (by decide) ?_
        exact law_c5 hL C1 hK hi kk f g en rn kn pn cnt cng pnd msk sr sav tkn hI H locs ls hP hD hS hl
      · refine lv_tableIn (off := 190) (tgt := 222) hx hb dL_law_32 (by decide +kernel) (by decide +kernel) (by decide +kernel) (by decide) ?_
        exact law_c6 hL C1 hK hi kk f g en rn kn pn cnt cng pnd msk sr sav tkn hI H locs ls hP hD hS hl
      · refine lv_tableIn (off := 263) (tgt := 295) hx hb dL_law_32 (by decide +kernel) (by decide +kernel) (by decide +kernel) (by decide) ?_
        exact law_c7 hL C1 hK hi kk f g en rn kn pn cnt cng pnd msk sr sav tkn hI H locs ls hP hD hS hl
      · refine lv_tableIn (off := 284) (tgt := 316) hx hb dL_law_32 (by decide +kernel) (by decide +kernel) (by decide +kernel) (by decide) ?_
        exact law_c8 hL C1 hK hi kk f g en rn kn pn cnt cng pnd msk sr sav tkn hI H locs ls hP hD hS hl
      · refine lv_tableIn (off := 295) (tgt := 327) hx hb dL_law_32 (by decide +kernel) (by decide +kernel) (by decide +kernel) (by decide) ?_
        exact law_c9 hL C1 hK hi kk f g en rn kn pn cnt cng pnd msk sr sav tkn hI H locs ls hP hD hS hl
      · refine lv_tableIn (off := 308) (tgt := 340) hx hb dL_law_32 (by decide +kernel) (by decide +kernel) (by decide +kernel) (by decide) ?_
        exact law_c10 hL C1 hK hi kk f g en rn kn pn cnt cng pnd msk sr sav tkn hI H locs ls hP hD hS hl
      · refine lv_tableIn (off := 331) (tgt := 363) hx hb dL_law_32 (by decide +kernel) (by decide +kernel) (by decide +kernel) (by decide) ?_
        exact law_c11 hL C1 hK hi kk f g en rn kn pn cnt cng pnd msk sr sav tkn hI H locs ls hP hD hS hl
      · refine lv_tableIn (off := 380) (tgt := 412) hx hb dL_law_32 (by decide +kernel) (by decide +kernel) (by decide +kernel) (by decide) ?_
        exact law_c12 hL C1 hK hi kk f g en rn kn pn cnt cng pnd msk sr sav tkn hI H locs ls hP hD hS hl
      · refine lv_tableOut (tgt := 435) hx hb dL_law_32 (by decide +kernel) (by decide) ?_
        exact kk f g en rn kn pn cnt cng pnd msk sr sav tkn hI H locs ls hP hD hS hl
      · refine lv_tableOut (tgt := 435) hx hb dL_law_32 (by decide +kernel) (by decide) ?_
        exact kk f g en rn kn pn cnt cng pnd msk sr sav tkn hI H locs ls hP hD hS hl
      · refine lv_tableOut (tgt := 435) hx hb dL_law_32 (by decide +kernel) (by decide) ?_
        exact kk f g en rn kn pn cnt cng pnd msk sr sav tkn hI H locs ls hP hD hS hl
end
section
set_option maxHeartbeats 4000000 in
set_option maxRecDepth 100000 in
/-- THE LAW, from its entry -/
theorem whole_start {p : Program} {e0 : Env} {s : State} {m : MethodId} {below : List Frame} {meth : Method} {c : Code} (l : Launch) {b L : Nat} {xs : Nat → Int32} (hL : L ≤ 2048) (C0 : lw_At p s m meth c b L xs) : W p l e0 room_1 s m #[Value.ref b] below meth c s.heap [] 0 0 (lw_Z below #[Value.ref b] s) (entryFrame m ([Value.ref b] : List Value).toArray 4) := by
  obtain ⟨hx, hb, hr, hml, hown, htb, hX, hbl, hlocks, hgv⟩ := id C0
  have hts := fun w h => htb w (wsL_law_in w h)
  have hA : ∀ q : Nat, s.heap.size ≤ q → (fun q : Nat => s.heap.size ≤ q) q := fun _ h => h
  have hbA : ¬ (fun q : Nat => s.heap.size ≤ q) b := Nat.not_le.mpr hbl
  obtain ⟨c0, iS0, hKn0⟩ := u_known (C := RX0) (T := TX0) (N := 12) (n := 12) hts inlX0 (hts (.instantiable RX0 12) (by decide +kernel))
  obtain ⟨c1, iS1, hKn1⟩ := u_known (C := RX1) (T := TX1) (N := 14) (n := 14) hts inlX1 (hts (.instantiable RX1 14) (by decide +kernel))
  obtain ⟨dC, dI, hKc⟩ : ∃ (dC : Nat → ClassId) (dI : Nat → Nat → Nat), ∀ (k : Nat) (q : vw_C), vwCl[k]? = some q → u_Kn s q.1 q.2.1 q.2.2 (dC k) (dI k) := by
    refine ⟨fun k => if k = 0 then c0 else c1, fun k => if k = 0 then iS0 else iS1, ?_⟩
    intro k q hq
    match k, hq with
    | 0, hq => cases hq; exact hKn0
    | 1, hq => cases hq; exact hKn1
    | k + 2, hq => simp [vwCl] at hq
  have hS : va_S (fun q : Nat => s.heap.size ≤ q) s.heap s.heap [] := va_S.rf
  have hK : va_K (dC, dI) vwCl [] s := ⟨hKc, fun k q h => by simp at h⟩
  have hP : va_P (dC, dI) vwCl [] s.heap := fun k q h => by simp at h
  have hD : va_D (fun q : Nat => s.heap.size ≤ q) [] := ⟨fun i j p q h => by simp at h, fun k q h => by simp at h⟩
  have hl := lv_entry ([.ref b]) (n := 4) (Nat.le_of_ble_eq_true rfl)
  rw [lg_entry_eq]
  generalize (lg_sl ([.ref b]) ++ List.replicate (4 - (lg_sl ([.ref b])).length) Slot.unset).toArray = ls at hl ⊢
  have hl : lv_has ls 4 [(0, .ref b)] := hl
  refine va_new (ci := 0) (fs := [.null, .null, .int 0, .int 0, .int 0, .int 0, .int 0, .int 0, .int 0, .int 0, .int 0, .int 0]) (C := RX0) (T := TX0) (N := 12) hx hb hts inlX0 tyX0 tyX0_ok hown (hts (.classLink RL 7 RX0) (by decide +kernel)) (hts (.instantiable RX0 12) (by decide +kernel)) (hts (.initialized RX0) (by decide +kernel)) hK hP hD hS hA rfl (fun j hj => by rcases (show j = 0 ∨ j = 1 ∨ j = 2 ∨ j = 3 ∨ j = 4 ∨ j = 5 ∨ j = 6 ∨ j = 7 ∨ j = 8 ∨ j = 9 ∨ j = 10 ∨ j = 11 by omega) with rfl | rfl | rfl | rfl | rfl | rfl | rfl | rfl | rfl | rfl | rfl | rfl <;> rfl) (Nat.le_of_ble_eq_true rfl) (Nat.le_of_ble_eq_true rfl) dL_law_0 (fun q0 H hP hD hS => ?_)
  have hP : va_P (dC, dI) vwCl ([(q0, .inr (0, [.null, .null, .int 0, .int 0, .int 0, .int 0, .int 0, .int 0, .int 0, .int 0, .int 0, .int 0]))]) H := hP
  have hD : va_D (fun q : Nat => s.heap.size ≤ q) ([(q0, .inr (0, [.null, .null, .int 0, .int 0, .int 0, .int 0, .int 0, .int 0, .int 0, .int 0, .int 0, .int 0]))]) := hD
  refine W.widen (k := 1) (n := 12) (by omega) (by omega) ?_
  refine lv_dup hx hb dL_law_3 rfl ?_
  have hPc := hP.sub (ws' := [(q0, .inr (0, [.null, .null, .int 0, .int 0, .int 0, .int 0, .int 0, .int 0, .int 0, .int 0, .int 0, .int 0]))]) [0] rfl
  have hDc := hD.sub (ws' := [(q0, .inr (0, [.null, .null, .int 0, .int 0, .int 0, .int 0, .int 0, .int 0, .int 0, .int 0, .int 0, .int 0]))]) [0] (by decide) rfl
  have hKc2 := hK.sub (tys' := []) [] rfl
  have hFc := va_free (wc := [(q0, .inr (0, [.null, .null, .int 0, .int 0, .int 0, .int 0, .int 0, .int 0, .int 0, .int 0, .int 0, .int 0]))]) hD hS hA [0] rfl
  refine va_callv (va_runI (As := []) (rest := [.ref q0]) ⟨hx, hb, hml, hown, hts⟩ (c_X_init l dC dI q0 H.size) (cwI 0 hts gL_law_X0_init rfl rfl rfl (hts (.initialized RX0) (by decide +kernel)) (hts (.methodLink RL 9 yX0_init) (by decide +kernel)) (hts (.instanceMethod yX0_init) (by decide +kernel)) rfl (by decide +kernel) ⟨Nat.le_of_ble_eq_true rfl, Nat.le_of_ble_eq_true rfl⟩) ⟨fun a U g mk q => by obtain ⟨q0, q1, qP, qK, qD⟩ := q; exact ⟨q0, q1, qP, va_K.moved (u := U) (U := U.calling g mk a) (Vm.Alike.refl U.vm) qK, qD⟩, fun U hU hW => ⟨rfl, by rw [hU], by rw [hU]; exact hPc, va_K.moved hW.alike hKc2, hDc.weaken (fun _ _ _ _ => trivial)⟩⟩ rfl rfl hl.1 rfl (lv_room (Nat.le_of_ble_eq_true rfl)) dL_law_4 ⟨Nat.le_of_ble_eq_true rfl, Nat.le_of_ble_eq_true rfl⟩) hS (fun q _ h => hFc q h) hFc (fun u t H1 locs ht hvm hw hB hz1 hk1 hS => ?_)
  obtain ⟨q1, q2, k1, k2⟩ := u
  obtain ⟨hP1, hK1, hD1⟩ := hB
  rw [ht] at hP1
  have hK1 := va_K.moved hvm.symm hK1
  obtain ⟨hP, hD⟩ := va_join (wr := []) (w1 := rt_xw q0 q1 q2 k1 k2 (fun _ => 0) (fun _ => 0) 0 0 0 0 0 0 0 1 0 0) hP hD [0] [] rfl rfl (by decide) (by decide) hk1 hFc hP1 hD1
  have hK := (hK.sub (tys' := []) [] rfl).app hK1
  generalize H1 = H at hP hS ⊢
  have hP : va_P (dC, dI) vwCl (rt_xw q0 q1 q2 k1 k2 (fun _ => 0) (fun _ => 0) 0 0 0 0 0 0 0 1 0 0) H := hP
  have hD : va_D (fun q : Nat => s.heap.size ≤ q) (rt_xw q0 q1 q2 k1 k2 (fun _ => 0) (fun _ => 0) 0 0 0 0 0 0 0 1 0 0) := hD
  have hK : va_K (dC, dI) vwCl [(k1, .int), (k2, .int)] s := hK
  refine W.widen (k := 3) (n := 76) (by omega) (by omega) ?_
  refine lv_astore_n (lv' := [(1, .ref q0), (0, .ref b)]) hx hb dL_law_7 rfl hl (by decide) rfl (fun ls hl => ?_)
  refine va_new (ci := 1) (fs := [.int 0, .int 0, .int 0, .int 0, .int 0, .int 0, .int 0, .int 0, .int 0, .int 0, .null, .null, .int 0, .int 0]) (C := RX1) (T := TX1) (N := 14) hx hb hts inlX1 tyX1 tyX1_ok hown (hts (.classLink RL 10 RX1) (by decide +kernel)) (hts (.instantiable RX1 14) (by decide +kernel)) (hts (.initialized RX1) (by decide +kernel)) hK hP hD hS hA rfl (fun j hj => by rcases (show j = 0 ∨ j = 1 ∨ j = 2 ∨ j = 3 ∨ j = 4 ∨ j = 5 ∨ j = 6 ∨ j = 7 ∨ j = 8 ∨ j = 9 ∨ j = 10 ∨ j = 11 ∨ j = 12 ∨ j = 13 by omega) with rfl | rfl | rfl | rfl | rfl | rfl | rfl | rfl | rfl | rfl | rfl | rfl | rfl | rfl <;> rfl) (Nat.le_of_ble_eq_true rfl) (Nat.le_of_ble_eq_true rfl) dL_law_8 (fun q3 H hP hD hS => ?_)
  have hP : va_P (dC, dI) vwCl (rt_xw q0 q1 q2 k1 k2 (fun _ => 0) (fun _ => 0) 0 0 0 0 0 0 0 1 0 0 ++ [(q3, .inr (1, [.int 0, .int 0, .int 0, .int 0, .int 0, .int 0, .int 0, .int 0, .int 0, .int 0, .null, .null, .int 0, .int 0]))]) H := hP
  have hD : va_D (fun q : Nat => s.heap.size ≤ q) (rt_xw q0 q1 q2 k1 k2 (fun _ => 0) (fun _ => 0) 0 0 0 0 0 0 0 1 0 0 ++ [(q3, .inr (1, [.int 0, .int 0, .int 0, .int 0, .int 0, .int 0, .int 0, .int 0, .int 0, .int 0, .null, .null, .int 0, .int 0]))]) := hD
  refine W.widen (k := 4) (n := 90) (by omega) (by omega) ?_
  refine lv_dup hx hb dL_law_11 rfl ?_
  have hPc := hP.sub (ws' := [(q3, .inr (1, [.int 0, .int 0, .int 0, .int 0, .int 0, .int 0, .int 0, .int 0, .int 0, .int 0, .null, .null, .int 0, .int 0]))]) [3] rfl
  have hDc := hD.sub (ws' := [(q3, .inr (1, [.int 0, .int 0, .int 0, .int 0, .int 0, .int 0, .int 0, .int 0, .int 0, .int 0, .null, .null, .int 0, .int 0]))]) [3] (by decide) rfl
  have hKc2 := hK.sub (tys' := []) [] rfl
  have hFc := va_free (wc := [(q3, .inr (1, [.int 0, .int 0, .int 0, .int 0, .int 0, .int 0, .int 0, .int 0, .int 0, .int 0, .null, .null, .int 0, .int 0]))]) hD hS hA [3] rfl
  refine va_callv (va_runI (As := []) (rest := [.ref q3]) ⟨hx, hb, hml, hown, hts⟩ (c_M_init l dC dI q3 H.size) (cwI 0 hts gL_law_X1_init rfl rfl rfl (hts (.initialized RX1) (by decide +kernel)) (hts (.methodLink RL 12 yX1_init) (by decide +kernel)) (hts (.instanceMethod yX1_init) (by decide +kernel)) rfl (by decide +kernel) ⟨Nat.le_of_ble_eq_true rfl, Nat.le_of_ble_eq_true rfl⟩) ⟨fun a U g mk q => by obtain ⟨q0, q1, qP, qK, qD⟩ := q; exact ⟨q0, q1, qP, va_K.moved (u := U) (U := U.calling g mk a) (Vm.Alike.refl U.vm) qK, qD⟩, fun U hU hW => ⟨rfl, by rw [hU], by rw [hU]; exact hPc, va_K.moved hW.alike hKc2, hDc.weaken (fun _ _ _ _ => trivial)⟩⟩ rfl rfl hl.1 rfl (lv_room (Nat.le_of_ble_eq_true rfl)) dL_law_12 ⟨Nat.le_of_ble_eq_true rfl, Nat.le_of_ble_eq_true rfl⟩) hS (fun q _ h => hFc q h) hFc (fun u t H1 locs ht hvm hw hB hz1 hk1 hS => ?_)
  obtain ⟨q4, q5, k3, k4⟩ := u
  obtain ⟨hP1, hK1, hD1⟩ := hB
  rw [ht] at hP1
  have hK1 := va_K.moved hvm.symm hK1
  obtain ⟨hP, hD⟩ := va_join (wr := rt_xw q0 q1 q2 k1 k2 (fun _ => 0) (fun _ => 0) 0 0 0 0 0 0 0 1 0 0) (w1 := rt_mw q3 q4 q5 k3 k4 (fun _ => 0) (fun _ => 0) 0 0 0 0 0 0 0 1 0 0 0) hP hD [3] [0, 1, 2] rfl rfl (by decide) (by decide) hk1 hFc hP1 hD1
  have hK := (hK.sub (tys' := [(k1, .int), (k2, .int)]) [0, 1] rfl).app hK1
  generalize H1 = H at hP hS ⊢
  have hP : va_P (dC, dI) vwCl (rt_xw q0 q1 q2 k1 k2 (fun _ => 0) (fun _ => 0) 0 0 0 0 0 0 0 1 0 0 ++ rt_mw q3 q4 q5 k3 k4 (fun _ => 0) (fun _ => 0) 0 0 0 0 0 0 0 1 0 0 0) H := hP
  have hD : va_D (fun q : Nat => s.heap.size ≤ q) (rt_xw q0 q1 q2 k1 k2 (fun _ => 0) (fun _ => 0) 0 0 0 0 0 0 0 1 0 0 ++ rt_mw q3 q4 q5 k3 k4 (fun _ => 0) (fun _ => 0) 0 0 0 0 0 0 0 1 0 0 0) := hD
  have hK : va_K (dC, dI) vwCl [(k1, .int), (k2, .int), (k3, .int), (k4, .int)] s := hK
  refine W.widen (k := 6) (n := 154) (by omega) (by omega) ?_
  refine lv_astore_n (lv' := [(2, .ref q3), (1, .ref q0), (0, .ref b)]) hx hb dL_law_15 rfl hl (by decide) rfl (fun ls hl => ?_)
  refine lv_iconst (v := 0) hx hb dL_law_16 (by decide) ?_
  refine lv_istore_n (lv' := [(3, .int 0), (2, .ref q3), (1, .ref q0), (0, .ref b)]) hx hb dL_law_17 rfl hl (by decide) rfl (fun ls hl => ?_)
  exact law_loop hL C0 hK (L + 1) 0 (Nat.zero_le L) (by omega) (fun _ => 0) (fun _ => 0) 0 0 0 0 0 0 0 0 1 0 0 (rt_inv0 _) _ _ ls hP hD hS (lv_sub hl [3, 2, 1, 0] rfl)
end
section
-- ===== YOUR PART ENDS =====
set_option maxHeartbeats 4000000 in
theorem lw_walk (l : Launch) (b : Addr) (xs : List Int32) : MetFree l x (headSpec (Jvm.Cond.code x code maxLocals ret :: tables_1) room_1) (lw_P b xs) (fun _ _ _ _ _ => True) lw_Q := by
  refine MetFree.of_bodyS (code := code) (maxLocals := maxLocals) (ret := ret) (by decide) ?_ ?_
  · intro args s m h hn
    obtain ⟨meth, c, h1, h2, h3, h4, h5, h6, -, -⟩ := Cond.code_spec hn (atoms_spec (ws := Jvm.Cond.code x code maxLocals ret :: tables_1) h _ List.mem_cons_self)
    exact ⟨meth, c, h1, h2, h3, h4, h5, h6⟩
  · intro p e s m args below meth c s₁ B hml0 hP _
    obtain ⟨rfl, hx, hbd, hgv⟩ := hP
    obtain ⟨scr, harrAt, hlist, hof, hsmall⟩ := hx
    obtain ⟨hcb, hkn, -, -⟩ := State.arrayAt?_spec harrAt
    have hown : s.vm.findClass R_law = some m.cls := findClass_of_methodNamed B.named
    have hts0 : ∀ c ∈ (Jvm.Cond.code x code maxLocals ret :: tables_1), c.before #[Value.ref b] s = true := atoms_spec (ws := Jvm.Cond.code x code maxLocals ret :: tables_1) B.pre
    have hts : ∀ w ∈ lw_tbl, w.before #[Value.ref b] s = true := k2_hts_sels lw_privs (fun w hw => hts0 w (List.mem_cons_of_mem _ hw)) lw_privs_ok
    have hml : c.maxLocals = 4 := B.maxLocals_eq (hts0 _ List.mem_cons_self)
    have X₀ : Stand p l e room_1 s m #[Value.ref b] below meth c s₁ [] 0 0 := Stand.of_body B
    have hh0 : s₁.heap = s.heap := by rw [B.state]; rfl
    have hsz : scr.slots.size = xs.length := by rw [← Array.length_toList, hlist, List.length_map]
    have hval : ∀ j : Nat, j < xs.length → scr.slots[j]? = some (.int (xs.getD j 0)) := fun j hj => by
      rw [← Array.getElem?_toList, hlist]
      simp [hj]
    have hbl : b < s.heap.size := (Array.getElem?_eq_some_iff.mp hcb).1
    have hX : va_X b xs.length (fun j => xs.getD j 0) s s.heap := ⟨scr, hcb, hof, hkn, hsz, hval⟩
    have K : W p l e room_1 s m #[Value.ref b] below meth c s₁.heap [] 0 0 (lw_Z below #[Value.ref b] s) (entryFrame m ([Value.ref b] : List Value).toArray 4) := by
      rw [hh0]
      exact whole_start l hbd ⟨B.exec, B.bytes, B.returns, hml, hown, hts, hX, hbl, B.notSynchronized, hgv⟩
    obtain ⟨t, a1, o, b1, b2, b3⟩ := K s₁ rfl X₀
    exact ⟨t, o, a1, b1, b2, b3⟩
theorem lw_pre_spec {args : Array Value} {s : State} (h : (Jvm.Cond.and given_1 narrow_1).before args s = true) (hr : rest_1_c.before args s = true) : ∃ (b : Addr) (xs : List Int32), lw_P b xs args s := by
  have hs := flat_of_before _ h
  have hq := flat_of_before _ hr
  have hc : (Cond.count 1).before args s = true := hs _ (by decide +kernel)
  have harr : (Cond.arrayOf (.arg 0) .int).before args s = true := hs _ (by decide +kernel)
  have hle : (Cond.le (.length (.arg 0)) (.int 2048)).before args s = true := hs _ (by decide +kernel)
  have hlen : (Cond.isInt (.length (.arg 0))).before args s = true := hq _ (by decide +kernel)
  have hall : (Cond.all (.arg 0) (.isInt (.elem (.arg 0) (.index 0)))).before args s = true := hq _ (by decide +kernel)
  obtain ⟨b, xs, hb, hx⟩ := State.ints_of_pre rfl harr hlen hall
  have hsm : xs.length < 2 ^ 31 := hx.choose_spec.2.2.2
  have hev : (Term.length (.arg 0)).eval args s none [] s = some (.int xs.length.toInt32) := hx.length_eval hb
  have hv := Cond.le_ints hev (show (Term.int 2048).eval args s none [] s = some (.int 2048) from rfl)
  have hd : xs.length.toInt32 ≤ 2048 := by
    simpa [Cond.before, Cond.holds, hv] using hle
  have hN : xs.length ≤ 2048 := (Int32.ofNat_le_ofNat hsm (by decide)).mp (show Int32.ofNat xs.length ≤ Int32.ofNat 2048 from hd)
  exact ⟨b, xs, Cond.one_arg hc (show args[0]? = some (.ref b) from hb), hx, hN, h⟩
theorem lw_comes (l : Launch) : Comes l x (Jvm.Cond.code x code maxLocals ret :: tables_1) room_1 (fun tb e args s => Calls_1 tb e args s ∧ rest_1 tb e args s ∧ Pre_1 tb e args s)
    (fun _ _ args s o t => lw_Q args s o t) := by
  intro p e ha hc hk s m args below hf hfit hheap happ hpre
  obtain ⟨b, xs, hP⟩ := lw_pre_spec hpre.2.2 hpre.2.1
  obtain ⟨k, o, h1, h2, h3, hQ⟩ := lw_walk l b xs p e ha hc hk s m args below hf ((Spec.applies_iff_loose hf).mp happ).1 hP trivial
  exact ⟨k, o, h1, h2, h3, hQ⟩
theorem lw_frame {s t : State} {o : Outcome} {args : Array Value} (h : Framed s o t [] 6 154) :
    Framed s o t (fieldLocs frame_1_writes args s ++ arrayLocs frame_1_arrays args s ++ staticLocs frame_1_statics s) 6 154 := h
theorem lw_limb (L : Cond) (hL : ∀ (args : Array Value) (s t : State), L.after args s (.returned (some (.int 1))) t = true) :
    ArmFor flags0 classFile x code maxLocals ret World_1 tables_1 room_1 Calls_1 rest_1 Pre_1
      (fun tb e a s o t => postC L tb e a s o t ∧ Framed s o t (fieldLocs frame_1_writes a s ++ arrayLocs frame_1_arrays a s ++ staticLocs frame_1_statics s) 6 154) := by
  intro l _ _ _ p e ha hc hk s m args below hf hfit hheap happ hpre
  obtain ⟨k, o, h1, h2, h3, rfl, hF⟩ := lw_comes l p e ha hc hk s m args below hf hfit hheap happ hpre
  exact ⟨k, _, h1, h2, h3, hL args s _, lw_frame hF⟩
theorem i_vc : Claimed_1_1 ∧ Claimed_1_2 := ⟨lw_limb limb_1_1 (fun args s t => by simp [limb_1_1, Cond.after, Cond.holds, Cond.value]), lw_limb limb_1_2 (fun args s t => Cond.after_iff.mpr (by
  first | (rw [show limb_1_2 = Cond.eq .result (.int 1) from rfl, Cond.eq_ints (x := 1) (y := 1) rfl rfl]; simp; done) | (simp [limb_1_2, Cond.value, Term.eval]; done)))⟩
end
