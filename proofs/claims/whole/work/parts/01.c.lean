abbrev cX1_mode : ByteArray := prog_3_method_11_code
def yX1_mode : MethodName := ⟨RX1, "mode", "(I)V"⟩
abbrev cX1_mask : ByteArray := prog_3_method_12_code
def yX1_mask : MethodName := ⟨RX1, "mask", "(I)V"⟩
abbrev cX1_timer : ByteArray := prog_3_method_13_code
def yX1_timer : MethodName := ⟨RX1, "timer", "(IZZ)V"⟩
abbrev cX1_count : ByteArray := prog_3_method_14_code
def yX1_count : MethodName := ⟨RX1, "count", "(I)V"⟩
abbrev cX1_reset : ByteArray := prog_3_method_15_code
def yX1_reset : MethodName := ⟨RX1, "reset", "()V"⟩
abbrev cX1_until : ByteArray := prog_3_method_16_code
def yX1_until : MethodName := ⟨RX1, "until", "()I"⟩
abbrev cX1_linesAt : ByteArray := prog_3_method_17_code
def yX1_linesAt : MethodName := ⟨RX1, "linesAt", "(I)I"⟩
abbrev cX1_entryOf : ByteArray := prog_3_method_18_code
def yX1_entryOf : MethodName := ⟨RX1, "entryOf", "(IZ)I"⟩
abbrev cX1_look : ByteArray := prog_3_method_19_code
def yX1_look : MethodName := ⟨RX1, "look", "(I)I"⟩
def wsX1_mode : List Cond := .code yX1_mode cX1_mode 2 none :: ([.fieldLink RX1 20 "RetiredTimerModel" "thrown" "I", .fieldLink RX1 7 "RetiredTimerModel" "sr" "I"] ++ wsX10)
def wsX1_mask : List Cond := .code yX1_mask cX1_mask 2 none :: ([.fieldLink RX1 20 "RetiredTimerModel" "thrown" "I", .fieldLink RX1 40 "RetiredTimerModel" "mask" "I"] ++ wsX10)
def wsX1_timer : List Cond := .code yX1_timer cX1_timer 4 none :: ([.fieldLink RX1 20 "RetiredTimerModel" "thrown" "I", .constant RX1 68 (268435455), .fieldLink RX1 52 "RetiredTimerModel" "period" "I", .fieldLink RX1 46 "RetiredTimerModel" "counting" "Z", .fieldLink RX1 32 "RetiredTimerModel" "pending" "Z"] ++ wsX10)
def wsX1_count : List Cond := .code yX1_count cX1_count 2 none :: ([.fieldLink RX1 20 "RetiredTimerModel" "thrown" "I", .fieldLink RX1 49 "RetiredTimerModel" "count" "I"] ++ wsX10)
def wsX1_reset : List Cond := .code yX1_reset cX1_reset 1 none :: ([.fieldLink RX1 20 "RetiredTimerModel" "thrown" "I", .fieldLink RX1 29 "RetiredTimerModel" "retired" "I", .fieldLink RX1 49 "RetiredTimerModel" "count" "I", .fieldLink RX1 52 "RetiredTimerModel" "period" "I", .fieldLink RX1 46 "RetiredTimerModel" "counting" "Z", .fieldLink RX1 32 "RetiredTimerModel" "pending" "Z", .fieldLink RX1 40 "RetiredTimerModel" "mask" "I", .fieldLink RX1 7 "RetiredTimerModel" "sr" "I", .fieldLink RX1 62 "RetiredTimerModel" "saved" "I", .fieldLink RX1 65 "RetiredTimerModel" "taken" "I", .fieldLink RX1 26 "RetiredTimerModel" "entries" "I", .fieldLink RX1 23 "RetiredTimerModel" "come" "I"] ++ wsX10)
def wsX1_until : List Cond := .code yX1_until cX1_until 6 (some .int) :: ([.fieldLink RX1 20 "RetiredTimerModel" "thrown" "I", .constantLong RX1 69 (1099511627776), .fieldLink RX1 7 "RetiredTimerModel" "sr" "I", .fieldLink RX1 46 "RetiredTimerModel" "counting" "Z", .fieldLink RX1 52 "RetiredTimerModel" "period" "I", .fieldLink RX1 49 "RetiredTimerModel" "count" "I", .constantLong RX1 71 (4294967296), .fieldLink RX1 26 "RetiredTimerModel" "entries" "I", .fieldLink RX1 23 "RetiredTimerModel" "come" "I", .fieldLink RX1 13 "RetiredTimerModel" "counts" "[I", .fieldLink RX1 29 "RetiredTimerModel" "retired" "I", .fieldLink RX1 17 "RetiredTimerModel" "values" "[I", .fieldLink RX1 40 "RetiredTimerModel" "mask" "I", .constantLong RX1 73 (2147483647), .methodLink RX1 56 yX1_due, .instanceMethod yX1_due, .selects RX1 yX1_due yX1_due, .initialized RX1, .code yX1_due cX1_due 1 (some .int), .fieldLink RX1 32 "RetiredTimerModel" "pending" "Z", .methodLink RX1 36 yX1_linesNow, .instanceMethod yX1_linesNow, .selects RX1 yX1_linesNow yX1_linesNow, .code yX1_linesNow cX1_linesNow 1 (some .int)] ++ wsX10)
def wsX1_linesAt : List Cond := .code yX1_linesAt cX1_linesAt 4 (some .int) :: ([.fieldLink RX1 20 "RetiredTimerModel" "thrown" "I", .fieldLink RX1 26 "RetiredTimerModel" "entries" "I", .fieldLink RX1 13 "RetiredTimerModel" "counts" "[I", .fieldLink RX1 17 "RetiredTimerModel" "values" "[I"] ++ wsX10)
def wsX1_entryOf : List Cond := .code yX1_entryOf cX1_entryOf 3 (some .int) :: ([.fieldLink RX1 20 "RetiredTimerModel" "thrown" "I", .fieldLink RX1 26 "RetiredTimerModel" "entries" "I", .fieldLink RX1 17 "RetiredTimerModel" "values" "[I", .fieldLink RX1 13 "RetiredTimerModel" "counts" "[I"] ++ wsX10)
def wsX1_look : List Cond := .code yX1_look cX1_look 2 (some .int) :: ([.fieldLink RX1 20 "RetiredTimerModel" "thrown" "I", .fieldLink RX1 29 "RetiredTimerModel" "retired" "I", .fieldLink RX1 49 "RetiredTimerModel" "count" "I", .fieldLink RX1 52 "RetiredTimerModel" "period" "I", .fieldLink RX1 32 "RetiredTimerModel" "pending" "Z", .fieldLink RX1 46 "RetiredTimerModel" "counting" "Z", .fieldLink RX1 40 "RetiredTimerModel" "mask" "I", .fieldLink RX1 7 "RetiredTimerModel" "sr" "I", .fieldLink RX1 62 "RetiredTimerModel" "saved" "I", .fieldLink RX1 65 "RetiredTimerModel" "taken" "I", .fieldLink RX1 26 "RetiredTimerModel" "entries" "I", .methodLink RX1 36 yX1_linesNow, .instanceMethod yX1_linesNow, .selects RX1 yX1_linesNow yX1_linesNow, .initialized RX1, .code yX1_linesNow cX1_linesNow 1 (some .int), .fieldLink RX1 23 "RetiredTimerModel" "come" "I", .fieldLink RX1 17 "RetiredTimerModel" "values" "[I", .methodLink RX1 56 yX1_due, .instanceMethod yX1_due, .selects RX1 yX1_due yX1_due, .code yX1_due cX1_due 1 (some .int)] ++ wsX10)
set_option maxRecDepth 20000 in
theorem gX1_until_X1_due : GoodIn wsX1_until (wsV RX1 56 RX1 yX1_due wsX1_due) := goodIn_sub (by decide +kernel) (by decide +kernel)
set_option maxRecDepth 20000 in
theorem gX1_look_X1_linesNow : GoodIn wsX1_look (wsV RX1 36 RX1 yX1_linesNow wsX1_linesNow) := goodIn_sub (by decide +kernel) (by decide +kernel)
set_option maxRecDepth 20000 in
theorem gX1_look_X1_due : GoodIn wsX1_look (wsV RX1 56 RX1 yX1_due wsX1_due) := goodIn_sub (by decide +kernel) (by decide +kernel)
set_option maxRecDepth 20000 in
theorem gL_law_X1_mode : GoodIn lw_tbl (wsV RL 36 RX1 yX1_mode wsX1_mode) := goodIn_sub (by decide +kernel) (by decide +kernel)
set_option maxRecDepth 20000 in
theorem gL_law_X1_mask : GoodIn lw_tbl (wsV RL 40 RX1 yX1_mask wsX1_mask) := goodIn_sub (by decide +kernel) (by decide +kernel)
set_option maxRecDepth 20000 in
theorem gL_law_X1_timer : GoodIn lw_tbl (wsV RL 45 RX1 yX1_timer wsX1_timer) := goodIn_sub (by decide +kernel) (by decide +kernel)
set_option maxRecDepth 20000 in
theorem gL_law_X1_count : GoodIn lw_tbl (wsV RL 49 RX1 yX1_count wsX1_count) := goodIn_sub (by decide +kernel) (by decide +kernel)
set_option maxRecDepth 20000 in
theorem gL_law_X1_reset : GoodIn lw_tbl (wsV RL 53 RX1 yX1_reset wsX1_reset) := goodIn_sub (by decide +kernel) (by decide +kernel)
set_option maxRecDepth 20000 in
theorem gL_law_X1_until : GoodIn lw_tbl (wsV RL 57 RX1 yX1_until wsX1_until) := goodIn_sub (by decide +kernel) (by decide +kernel)
set_option maxRecDepth 20000 in
theorem gL_law_X1_linesAt : GoodIn lw_tbl (wsV RL 61 RX1 yX1_linesAt wsX1_linesAt) := goodIn_sub (by decide +kernel) (by decide +kernel)
set_option maxRecDepth 20000 in
theorem gL_law_X1_entryOf : GoodIn lw_tbl (wsV RL 66 RX1 yX1_entryOf wsX1_entryOf) := goodIn_sub (by decide +kernel) (by decide +kernel)
set_option maxRecDepth 20000 in
theorem gL_law_X1_look : GoodIn lw_tbl (wsV RL 70 RX1 yX1_look wsX1_look) := goodIn_sub (by decide +kernel) (by decide +kernel)
theorem dX1_mode_0 : decode cX1_mode 0 = .ok (.aload_n 0, 1) := by decide +kernel
theorem dX1_mode_1 : decode cX1_mode 1 = .ok (.iconst 0, 1) := by decide +kernel
theorem dX1_mode_2 : decode cX1_mode 2 = .ok (.putfield 20, 3) := by decide +kernel
theorem dX1_mode_5 : decode cX1_mode 5 = .ok (.aload_n 0, 1) := by decide +kernel
theorem dX1_mode_6 : decode cX1_mode 6 = .ok (.iload_n 1, 1) := by decide +kernel
theorem dX1_mode_7 : decode cX1_mode 7 = .ok (.bipush 39, 2) := by decide +kernel
theorem dX1_mode_9 : decode cX1_mode 9 = .ok (.iand, 1) := by decide +kernel
theorem dX1_mode_10 : decode cX1_mode 10 = .ok (.putfield 7, 3) := by decide +kernel
theorem dX1_mode_13 : decode cX1_mode 13 = .ok (.return_, 1) := by decide +kernel
theorem dX1_mask_0 : decode cX1_mask 0 = .ok (.aload_n 0, 1) := by decide +kernel
theorem dX1_mask_1 : decode cX1_mask 1 = .ok (.iconst 0, 1) := by decide +kernel
theorem dX1_mask_2 : decode cX1_mask 2 = .ok (.putfield 20, 3) := by decide +kernel
theorem dX1_mask_5 : decode cX1_mask 5 = .ok (.aload_n 0, 1) := by decide +kernel
theorem dX1_mask_6 : decode cX1_mask 6 = .ok (.iload_n 1, 1) := by decide +kernel
theorem dX1_mask_7 : decode cX1_mask 7 = .ok (.putfield 40, 3) := by decide +kernel
theorem dX1_mask_10 : decode cX1_mask 10 = .ok (.return_, 1) := by decide +kernel
theorem dX1_timer_0 : decode cX1_timer 0 = .ok (.aload_n 0, 1) := by decide +kernel
theorem dX1_timer_1 : decode cX1_timer 1 = .ok (.iconst 0, 1) := by decide +kernel
theorem dX1_timer_2 : decode cX1_timer 2 = .ok (.putfield 20, 3) := by decide +kernel
theorem dX1_timer_5 : decode cX1_timer 5 = .ok (.aload_n 0, 1) := by decide +kernel
theorem dX1_timer_6 : decode cX1_timer 6 = .ok (.iload_n 1, 1) := by decide +kernel
theorem dX1_timer_7 : decode cX1_timer 7 = .ok (.ldc 68, 2) := by decide +kernel
theorem dX1_timer_9 : decode cX1_timer 9 = .ok (.iand, 1) := by decide +kernel
theorem dX1_timer_10 : decode cX1_timer 10 = .ok (.putfield 52, 3) := by decide +kernel
theorem dX1_timer_13 : decode cX1_timer 13 = .ok (.aload_n 0, 1) := by decide +kernel
theorem dX1_timer_14 : decode cX1_timer 14 = .ok (.iload_n 2, 1) := by decide +kernel
theorem dX1_timer_15 : decode cX1_timer 15 = .ok (.putfield 46, 3) := by decide +kernel
theorem dX1_timer_18 : decode cX1_timer 18 = .ok (.aload_n 0, 1) := by decide +kernel
theorem dX1_timer_19 : decode cX1_timer 19 = .ok (.iload_n 3, 1) := by decide +kernel
theorem dX1_timer_20 : decode cX1_timer 20 = .ok (.putfield 32, 3) := by decide +kernel
theorem dX1_timer_23 : decode cX1_timer 23 = .ok (.return_, 1) := by decide +kernel
theorem dX1_count_0 : decode cX1_count 0 = .ok (.aload_n 0, 1) := by decide +kernel
theorem dX1_count_1 : decode cX1_count 1 = .ok (.iconst 0, 1) := by decide +kernel
theorem dX1_count_2 : decode cX1_count 2 = .ok (.putfield 20, 3) := by decide +kernel
theorem dX1_count_5 : decode cX1_count 5 = .ok (.aload_n 0, 1) := by decide +kernel
theorem dX1_count_6 : decode cX1_count 6 = .ok (.iload_n 1, 1) := by decide +kernel
theorem dX1_count_7 : decode cX1_count 7 = .ok (.putfield 49, 3) := by decide +kernel
theorem dX1_count_10 : decode cX1_count 10 = .ok (.return_, 1) := by decide +kernel
theorem dX1_reset_0 : decode cX1_reset 0 = .ok (.aload_n 0, 1) := by decide +kernel
theorem dX1_reset_1 : decode cX1_reset 1 = .ok (.iconst 0, 1) := by decide +kernel
theorem dX1_reset_2 : decode cX1_reset 2 = .ok (.putfield 20, 3) := by decide +kernel
theorem dX1_reset_5 : decode cX1_reset 5 = .ok (.aload_n 0, 1) := by decide +kernel
theorem dX1_reset_6 : decode cX1_reset 6 = .ok (.iconst 0, 1) := by decide +kernel
theorem dX1_reset_7 : decode cX1_reset 7 = .ok (.putfield 29, 3) := by decide +kernel
theorem dX1_reset_10 : decode cX1_reset 10 = .ok (.aload_n 0, 1) := by decide +kernel
theorem dX1_reset_11 : decode cX1_reset 11 = .ok (.iconst 0, 1) := by decide +kernel
theorem dX1_reset_12 : decode cX1_reset 12 = .ok (.putfield 49, 3) := by decide +kernel
theorem dX1_reset_15 : decode cX1_reset 15 = .ok (.aload_n 0, 1) := by decide +kernel
theorem dX1_reset_16 : decode cX1_reset 16 = .ok (.iconst 0, 1) := by decide +kernel
theorem dX1_reset_17 : decode cX1_reset 17 = .ok (.putfield 52, 3) := by decide +kernel
theorem dX1_reset_20 : decode cX1_reset 20 = .ok (.aload_n 0, 1) := by decide +kernel
theorem dX1_reset_21 : decode cX1_reset 21 = .ok (.iconst 0, 1) := by decide +kernel
theorem dX1_reset_22 : decode cX1_reset 22 = .ok (.putfield 46, 3) := by decide +kernel
theorem dX1_reset_25 : decode cX1_reset 25 = .ok (.aload_n 0, 1) := by decide +kernel
theorem dX1_reset_26 : decode cX1_reset 26 = .ok (.iconst 0, 1) := by decide +kernel
theorem dX1_reset_27 : decode cX1_reset 27 = .ok (.putfield 32, 3) := by decide +kernel
theorem dX1_reset_30 : decode cX1_reset 30 = .ok (.aload_n 0, 1) := by decide +kernel
theorem dX1_reset_31 : decode cX1_reset 31 = .ok (.iconst 0, 1) := by decide +kernel
theorem dX1_reset_32 : decode cX1_reset 32 = .ok (.putfield 40, 3) := by decide +kernel
theorem dX1_reset_35 : decode cX1_reset 35 = .ok (.aload_n 0, 1) := by decide +kernel
theorem dX1_reset_36 : decode cX1_reset 36 = .ok (.iconst 1, 1) := by decide +kernel
theorem dX1_reset_37 : decode cX1_reset 37 = .ok (.putfield 7, 3) := by decide +kernel
theorem dX1_reset_40 : decode cX1_reset 40 = .ok (.aload_n 0, 1) := by decide +kernel
theorem dX1_reset_41 : decode cX1_reset 41 = .ok (.iconst 0, 1) := by decide +kernel
theorem dX1_reset_42 : decode cX1_reset 42 = .ok (.putfield 62, 3) := by decide +kernel
theorem dX1_reset_45 : decode cX1_reset 45 = .ok (.aload_n 0, 1) := by decide +kernel
theorem dX1_reset_46 : decode cX1_reset 46 = .ok (.iconst 0, 1) := by decide +kernel
theorem dX1_reset_47 : decode cX1_reset 47 = .ok (.putfield 65, 3) := by decide +kernel
theorem dX1_reset_50 : decode cX1_reset 50 = .ok (.aload_n 0, 1) := by decide +kernel
theorem dX1_reset_51 : decode cX1_reset 51 = .ok (.iconst 0, 1) := by decide +kernel
theorem dX1_reset_52 : decode cX1_reset 52 = .ok (.putfield 26, 3) := by decide +kernel
theorem dX1_reset_55 : decode cX1_reset 55 = .ok (.aload_n 0, 1) := by decide +kernel
theorem dX1_reset_56 : decode cX1_reset 56 = .ok (.iconst 0, 1) := by decide +kernel
theorem dX1_reset_57 : decode cX1_reset 57 = .ok (.putfield 23, 3) := by decide +kernel
theorem dX1_reset_60 : decode cX1_reset 60 = .ok (.return_, 1) := by decide +kernel
theorem dX1_until_0 : decode cX1_until 0 = .ok (.aload_n 0, 1) := by decide +kernel
theorem dX1_until_1 : decode cX1_until 1 = .ok (.iconst 0, 1) := by decide +kernel
theorem dX1_until_2 : decode cX1_until 2 = .ok (.putfield 20, 3) := by decide +kernel
theorem dX1_until_5 : decode cX1_until 5 = .ok (.aload_n 0, 1) := by decide +kernel
theorem dX1_until_6 : decode cX1_until 6 = .ok (.invokevirtual 56, 3) := by decide +kernel
theorem dX1_until_9 : decode cX1_until 9 = .ok (.ifCond .le 5, 3) := by decide +kernel
theorem dX1_until_12 : decode cX1_until 12 = .ok (.iconst 0, 1) := by decide +kernel
theorem dX1_until_13 : decode cX1_until 13 = .ok (.ireturn, 1) := by decide +kernel
theorem dX1_until_14 : decode cX1_until 14 = .ok (.ldc2_w 69, 3) := by decide +kernel
theorem dX1_until_17 : decode cX1_until 17 = .ok (.lstore_n 1, 1) := by decide +kernel
theorem dX1_until_18 : decode cX1_until 18 = .ok (.aload_n 0, 1) := by decide +kernel
theorem dX1_until_19 : decode cX1_until 19 = .ok (.getfield 7, 3) := by decide +kernel
theorem dX1_until_22 : decode cX1_until 22 = .ok (.iconst 2, 1) := by decide +kernel
theorem dX1_until_23 : decode cX1_until 23 = .ok (.iand, 1) := by decide +kernel
theorem dX1_until_24 : decode cX1_until 24 = .ok (.ifCond .eq 38, 3) := by decide +kernel
theorem dX1_until_27 : decode cX1_until 27 = .ok (.aload_n 0, 1) := by decide +kernel
theorem dX1_until_28 : decode cX1_until 28 = .ok (.getfield 46, 3) := by decide +kernel
theorem dX1_until_31 : decode cX1_until 31 = .ok (.ifCond .eq 31, 3) := by decide +kernel
theorem dX1_until_34 : decode cX1_until 34 = .ok (.aload_n 0, 1) := by decide +kernel
theorem dX1_until_35 : decode cX1_until 35 = .ok (.getfield 52, 3) := by decide +kernel
theorem dX1_until_38 : decode cX1_until 38 = .ok (.i2l, 1) := by decide +kernel
theorem dX1_until_39 : decode cX1_until 39 = .ok (.aload_n 0, 1) := by decide +kernel
theorem dX1_until_40 : decode cX1_until 40 = .ok (.getfield 49, 3) := by decide +kernel
theorem dX1_until_43 : decode cX1_until 43 = .ok (.i2l, 1) := by decide +kernel
theorem dX1_until_44 : decode cX1_until 44 = .ok (.lsub, 1) := by decide +kernel
theorem dX1_until_45 : decode cX1_until 45 = .ok (.lstore_n 3, 1) := by decide +kernel
theorem dX1_until_46 : decode cX1_until 46 = .ok (.lload_n 3, 1) := by decide +kernel
theorem dX1_until_47 : decode cX1_until 47 = .ok (.lconst 0, 1) := by decide +kernel
theorem dX1_until_48 : decode cX1_until 48 = .ok (.lcmp, 1) := by decide +kernel
theorem dX1_until_49 : decode cX1_until 49 = .ok (.ifCond .le 7, 3) := by decide +kernel
theorem dX1_until_52 : decode cX1_until 52 = .ok (.lload_n 3, 1) := by decide +kernel
theorem dX1_until_53 : decode cX1_until 53 = .ok (.goto 8, 3) := by decide +kernel
theorem dX1_until_56 : decode cX1_until 56 = .ok (.lload_n 3, 1) := by decide +kernel
theorem dX1_until_57 : decode cX1_until 57 = .ok (.ldc2_w 71, 3) := by decide +kernel
theorem dX1_until_60 : decode cX1_until 60 = .ok (.ladd, 1) := by decide +kernel
theorem dX1_until_61 : decode cX1_until 61 = .ok (.lstore_n 1, 1) := by decide +kernel
theorem dX1_until_62 : decode cX1_until 62 = .ok (.aload_n 0, 1) := by decide +kernel
theorem dX1_until_63 : decode cX1_until 63 = .ok (.getfield 26, 3) := by decide +kernel
theorem dX1_until_66 : decode cX1_until 66 = .ok (.iconst 1, 1) := by decide +kernel
theorem dX1_until_67 : decode cX1_until 67 = .ok (.isub, 1) := by decide +kernel
theorem dX1_until_68 : decode cX1_until 68 = .ok (.istore_n 3, 1) := by decide +kernel
theorem dX1_until_69 : decode cX1_until 69 = .ok (.iload_n 3, 1) := by decide +kernel
theorem dX1_until_70 : decode cX1_until 70 = .ok (.aload_n 0, 1) := by decide +kernel
theorem dX1_until_71 : decode cX1_until 71 = .ok (.getfield 23, 3) := by decide +kernel
theorem dX1_until_74 : decode cX1_until 74 = .ok (.if_icmp .lt 61, 3) := by decide +kernel
theorem dX1_until_77 : decode cX1_until 77 = .ok (.aload_n 0, 1) := by decide +kernel
theorem dX1_until_78 : decode cX1_until 78 = .ok (.getfield 7, 3) := by decide +kernel
theorem dX1_until_81 : decode cX1_until 81 = .ok (.iconst 4, 1) := by decide +kernel
theorem dX1_until_82 : decode cX1_until 82 = .ok (.iand, 1) := by decide +kernel
theorem dX1_until_83 : decode cX1_until 83 = .ok (.ifCond .eq 52, 3) := by decide +kernel
theorem dX1_until_86 : decode cX1_until 86 = .ok (.aload_n 0, 1) := by decide +kernel
theorem dX1_until_87 : decode cX1_until 87 = .ok (.getfield 13, 3) := by decide +kernel
theorem dX1_until_90 : decode cX1_until 90 = .ok (.iload_n 3, 1) := by decide +kernel
theorem dX1_until_91 : decode cX1_until 91 = .ok (.iaload, 1) := by decide +kernel
theorem dX1_until_92 : decode cX1_until 92 = .ok (.i2l, 1) := by decide +kernel
theorem dX1_until_93 : decode cX1_until 93 = .ok (.aload_n 0, 1) := by decide +kernel
theorem dX1_until_94 : decode cX1_until 94 = .ok (.getfield 29, 3) := by decide +kernel
theorem dX1_until_97 : decode cX1_until 97 = .ok (.i2l, 1) := by decide +kernel
theorem dX1_until_98 : decode cX1_until 98 = .ok (.lsub, 1) := by decide +kernel
theorem dX1_until_99 : decode cX1_until 99 = .ok (.lstore 4, 2) := by decide +kernel
theorem dX1_until_101 : decode cX1_until 101 = .ok (.aload_n 0, 1) := by decide +kernel
theorem dX1_until_102 : decode cX1_until 102 = .ok (.getfield 17, 3) := by decide +kernel
theorem dX1_until_105 : decode cX1_until 105 = .ok (.iload_n 3, 1) := by decide +kernel
theorem dX1_until_106 : decode cX1_until 106 = .ok (.iaload, 1) := by decide +kernel
theorem dX1_until_107 : decode cX1_until 107 = .ok (.aload_n 0, 1) := by decide +kernel
theorem dX1_until_108 : decode cX1_until 108 = .ok (.getfield 40, 3) := by decide +kernel
theorem dX1_until_111 : decode cX1_until 111 = .ok (.iand, 1) := by decide +kernel
theorem dX1_until_112 : decode cX1_until 112 = .ok (.ifCond .eq 15, 3) := by decide +kernel
theorem dX1_until_115 : decode cX1_until 115 = .ok (.lload 4, 2) := by decide +kernel
theorem dX1_until_117 : decode cX1_until 117 = .ok (.lload_n 1, 1) := by decide +kernel
theorem dX1_until_118 : decode cX1_until 118 = .ok (.lcmp, 1) := by decide +kernel
theorem dX1_until_119 : decode cX1_until 119 = .ok (.ifCond .ge 8, 3) := by decide +kernel
theorem dX1_until_122 : decode cX1_until 122 = .ok (.lload 4, 2) := by decide +kernel
theorem dX1_until_124 : decode cX1_until 124 = .ok (.goto 4, 3) := by decide +kernel
theorem dX1_until_127 : decode cX1_until 127 = .ok (.lload_n 1, 1) := by decide +kernel
theorem dX1_until_128 : decode cX1_until 128 = .ok (.lstore_n 1, 1) := by decide +kernel
theorem dX1_until_129 : decode cX1_until 129 = .ok (.iinc 3 (-1), 3) := by decide +kernel
theorem dX1_until_132 : decode cX1_until 132 = .ok (.goto (-63), 3) := by decide +kernel
theorem dX1_until_135 : decode cX1_until 135 = .ok (.aload_n 0, 1) := by decide +kernel
theorem dX1_until_136 : decode cX1_until 136 = .ok (.getfield 29, 3) := by decide +kernel
theorem dX1_until_139 : decode cX1_until 139 = .ok (.i2l, 1) := by decide +kernel
theorem dX1_until_140 : decode cX1_until 140 = .ok (.lload_n 1, 1) := by decide +kernel
theorem dX1_until_141 : decode cX1_until 141 = .ok (.ladd, 1) := by decide +kernel
theorem dX1_until_142 : decode cX1_until 142 = .ok (.ldc2_w 73, 3) := by decide +kernel
theorem dX1_until_145 : decode cX1_until 145 = .ok (.lcmp, 1) := by decide +kernel
theorem dX1_until_146 : decode cX1_until 146 = .ok (.ifCond .le 7, 3) := by decide +kernel
theorem dX1_until_149 : decode cX1_until 149 = .ok (.iconst (-1), 1) := by decide +kernel
theorem dX1_until_150 : decode cX1_until 150 = .ok (.goto 5, 3) := by decide +kernel
theorem dX1_until_153 : decode cX1_until 153 = .ok (.lload_n 1, 1) := by decide +kernel
theorem dX1_until_154 : decode cX1_until 154 = .ok (.l2i, 1) := by decide +kernel
theorem dX1_until_155 : decode cX1_until 155 = .ok (.ireturn, 1) := by decide +kernel
theorem dX1_linesAt_0 : decode cX1_linesAt 0 = .ok (.aload_n 0, 1) := by decide +kernel
theorem dX1_linesAt_1 : decode cX1_linesAt 1 = .ok (.iconst 0, 1) := by decide +kernel
theorem dX1_linesAt_2 : decode cX1_linesAt 2 = .ok (.putfield 20, 3) := by decide +kernel
theorem dX1_linesAt_5 : decode cX1_linesAt 5 = .ok (.iconst 0, 1) := by decide +kernel
theorem dX1_linesAt_6 : decode cX1_linesAt 6 = .ok (.istore_n 2, 1) := by decide +kernel
theorem dX1_linesAt_7 : decode cX1_linesAt 7 = .ok (.iconst 0, 1) := by decide +kernel
theorem dX1_linesAt_8 : decode cX1_linesAt 8 = .ok (.istore_n 3, 1) := by decide +kernel
theorem dX1_linesAt_9 : decode cX1_linesAt 9 = .ok (.iload_n 3, 1) := by decide +kernel
theorem dX1_linesAt_10 : decode cX1_linesAt 10 = .ok (.aload_n 0, 1) := by decide +kernel
theorem dX1_linesAt_11 : decode cX1_linesAt 11 = .ok (.getfield 26, 3) := by decide +kernel
theorem dX1_linesAt_14 : decode cX1_linesAt 14 = .ok (.if_icmp .ge 30, 3) := by decide +kernel
theorem dX1_linesAt_17 : decode cX1_linesAt 17 = .ok (.aload_n 0, 1) := by decide +kernel
theorem dX1_linesAt_18 : decode cX1_linesAt 18 = .ok (.getfield 13, 3) := by decide +kernel
theorem dX1_linesAt_21 : decode cX1_linesAt 21 = .ok (.iload_n 3, 1) := by decide +kernel
theorem dX1_linesAt_22 : decode cX1_linesAt 22 = .ok (.iaload, 1) := by decide +kernel
theorem dX1_linesAt_23 : decode cX1_linesAt 23 = .ok (.iload_n 1, 1) := by decide +kernel
theorem dX1_linesAt_24 : decode cX1_linesAt 24 = .ok (.if_icmp .gt 12, 3) := by decide +kernel
theorem dX1_linesAt_27 : decode cX1_linesAt 27 = .ok (.aload_n 0, 1) := by decide +kernel
theorem dX1_linesAt_28 : decode cX1_linesAt 28 = .ok (.getfield 17, 3) := by decide +kernel
theorem dX1_linesAt_31 : decode cX1_linesAt 31 = .ok (.iload_n 3, 1) := by decide +kernel
theorem dX1_linesAt_32 : decode cX1_linesAt 32 = .ok (.iaload, 1) := by decide +kernel
theorem dX1_linesAt_33 : decode cX1_linesAt 33 = .ok (.goto 4, 3) := by decide +kernel
theorem dX1_linesAt_36 : decode cX1_linesAt 36 = .ok (.iload_n 2, 1) := by decide +kernel
theorem dX1_linesAt_37 : decode cX1_linesAt 37 = .ok (.istore_n 2, 1) := by decide +kernel
theorem dX1_linesAt_38 : decode cX1_linesAt 38 = .ok (.iinc 3 1, 3) := by decide +kernel
theorem dX1_linesAt_41 : decode cX1_linesAt 41 = .ok (.goto (-32), 3) := by decide +kernel
theorem dX1_linesAt_44 : decode cX1_linesAt 44 = .ok (.iload_n 1, 1) := by decide +kernel
theorem dX1_linesAt_45 : decode cX1_linesAt 45 = .ok (.ifCond .ge 7, 3) := by decide +kernel
theorem dX1_linesAt_48 : decode cX1_linesAt 48 = .ok (.iconst 0, 1) := by decide +kernel
theorem dX1_linesAt_49 : decode cX1_linesAt 49 = .ok (.goto 4, 3) := by decide +kernel
theorem dX1_linesAt_52 : decode cX1_linesAt 52 = .ok (.iload_n 2, 1) := by decide +kernel
theorem dX1_linesAt_53 : decode cX1_linesAt 53 = .ok (.ireturn, 1) := by decide +kernel
theorem dX1_entryOf_0 : decode cX1_entryOf 0 = .ok (.aload_n 0, 1) := by decide +kernel
theorem dX1_entryOf_1 : decode cX1_entryOf 1 = .ok (.iconst 0, 1) := by decide +kernel
theorem dX1_entryOf_2 : decode cX1_entryOf 2 = .ok (.putfield 20, 3) := by decide +kernel
theorem dX1_entryOf_5 : decode cX1_entryOf 5 = .ok (.iload_n 1, 1) := by decide +kernel
theorem dX1_entryOf_6 : decode cX1_entryOf 6 = .ok (.ifCond .lt 11, 3) := by decide +kernel
theorem dX1_entryOf_9 : decode cX1_entryOf 9 = .ok (.iload_n 1, 1) := by decide +kernel
theorem dX1_entryOf_10 : decode cX1_entryOf 10 = .ok (.aload_n 0, 1) := by decide +kernel
theorem dX1_entryOf_11 : decode cX1_entryOf 11 = .ok (.getfield 26, 3) := by decide +kernel
theorem dX1_entryOf_14 : decode cX1_entryOf 14 = .ok (.if_icmp .lt 7, 3) := by decide +kernel
theorem dX1_entryOf_17 : decode cX1_entryOf 17 = .ok (.iconst (-1), 1) := by decide +kernel
theorem dX1_entryOf_18 : decode cX1_entryOf 18 = .ok (.goto 22, 3) := by decide +kernel
theorem dX1_entryOf_21 : decode cX1_entryOf 21 = .ok (.iload_n 2, 1) := by decide +kernel
theorem dX1_entryOf_22 : decode cX1_entryOf 22 = .ok (.ifCond .eq 12, 3) := by decide +kernel
theorem dX1_entryOf_25 : decode cX1_entryOf 25 = .ok (.aload_n 0, 1) := by decide +kernel
theorem dX1_entryOf_26 : decode cX1_entryOf 26 = .ok (.getfield 17, 3) := by decide +kernel
theorem dX1_entryOf_29 : decode cX1_entryOf 29 = .ok (.iload_n 1, 1) := by decide +kernel
theorem dX1_entryOf_30 : decode cX1_entryOf 30 = .ok (.iaload, 1) := by decide +kernel
theorem dX1_entryOf_31 : decode cX1_entryOf 31 = .ok (.goto 9, 3) := by decide +kernel
theorem dX1_entryOf_34 : decode cX1_entryOf 34 = .ok (.aload_n 0, 1) := by decide +kernel
theorem dX1_entryOf_35 : decode cX1_entryOf 35 = .ok (.getfield 13, 3) := by decide +kernel
theorem dX1_entryOf_38 : decode cX1_entryOf 38 = .ok (.iload_n 1, 1) := by decide +kernel
theorem dX1_entryOf_39 : decode cX1_entryOf 39 = .ok (.iaload, 1) := by decide +kernel
theorem dX1_entryOf_40 : decode cX1_entryOf 40 = .ok (.ireturn, 1) := by decide +kernel
theorem dX1_look_0 : decode cX1_look 0 = .ok (.aload_n 0, 1) := by decide +kernel
theorem dX1_look_1 : decode cX1_look 1 = .ok (.iconst 0, 1) := by decide +kernel
theorem dX1_look_2 : decode cX1_look 2 = .ok (.putfield 20, 3) := by decide +kernel
theorem dX1_look_5 : decode cX1_look 5 = .ok (.iload_n 1, 1) := by decide +kernel
theorem dX1_look_6 : decode cX1_look 6 = .ok (.tableswitch 138 0 11 #[62, 67, 72, 77, 90, 103, 108, 113, 118, 123, 128, 133], 62) := by decide +kernel
theorem dX1_look_68 : decode cX1_look 68 = .ok (.aload_n 0, 1) := by decide +kernel
theorem dX1_look_69 : decode cX1_look 69 = .ok (.getfield 29, 3) := by decide +kernel
theorem dX1_look_72 : decode cX1_look 72 = .ok (.ireturn, 1) := by decide +kernel
theorem dX1_look_73 : decode cX1_look 73 = .ok (.aload_n 0, 1) := by decide +kernel
theorem dX1_look_74 : decode cX1_look 74 = .ok (.getfield 49, 3) := by decide +kernel
theorem dX1_look_77 : decode cX1_look 77 = .ok (.ireturn, 1) := by decide +kernel
theorem dX1_look_78 : decode cX1_look 78 = .ok (.aload_n 0, 1) := by decide +kernel
theorem dX1_look_79 : decode cX1_look 79 = .ok (.getfield 52, 3) := by decide +kernel
theorem dX1_look_82 : decode cX1_look 82 = .ok (.ireturn, 1) := by decide +kernel
theorem dX1_look_83 : decode cX1_look 83 = .ok (.aload_n 0, 1) := by decide +kernel
theorem dX1_look_84 : decode cX1_look 84 = .ok (.getfield 32, 3) := by decide +kernel
theorem dX1_look_87 : decode cX1_look 87 = .ok (.ifCond .eq 7, 3) := by decide +kernel
theorem dX1_look_90 : decode cX1_look 90 = .ok (.iconst 1, 1) := by decide +kernel
theorem dX1_look_91 : decode cX1_look 91 = .ok (.goto 4, 3) := by decide +kernel
theorem dX1_look_94 : decode cX1_look 94 = .ok (.iconst 0, 1) := by decide +kernel
theorem dX1_look_95 : decode cX1_look 95 = .ok (.ireturn, 1) := by decide +kernel
theorem dX1_look_96 : decode cX1_look 96 = .ok (.aload_n 0, 1) := by decide +kernel
theorem dX1_look_97 : decode cX1_look 97 = .ok (.getfield 46, 3) := by decide +kernel
theorem dX1_look_100 : decode cX1_look 100 = .ok (.ifCond .eq 7, 3) := by decide +kernel
theorem dX1_look_103 : decode cX1_look 103 = .ok (.iconst 1, 1) := by decide +kernel
theorem dX1_look_104 : decode cX1_look 104 = .ok (.goto 4, 3) := by decide +kernel
theorem dX1_look_107 : decode cX1_look 107 = .ok (.iconst 0, 1) := by decide +kernel
theorem dX1_look_108 : decode cX1_look 108 = .ok (.ireturn, 1) := by decide +kernel
theorem dX1_look_109 : decode cX1_look 109 = .ok (.aload_n 0, 1) := by decide +kernel
theorem dX1_look_110 : decode cX1_look 110 = .ok (.getfield 40, 3) := by decide +kernel
theorem dX1_look_113 : decode cX1_look 113 = .ok (.ireturn, 1) := by decide +kernel
theorem dX1_look_114 : decode cX1_look 114 = .ok (.aload_n 0, 1) := by decide +kernel
theorem dX1_look_115 : decode cX1_look 115 = .ok (.invokevirtual 36, 3) := by decide +kernel
theorem dX1_look_118 : decode cX1_look 118 = .ok (.ireturn, 1) := by decide +kernel
theorem dX1_look_119 : decode cX1_look 119 = .ok (.aload_n 0, 1) := by decide +kernel
theorem dX1_look_120 : decode cX1_look 120 = .ok (.getfield 7, 3) := by decide +kernel
theorem dX1_look_123 : decode cX1_look 123 = .ok (.ireturn, 1) := by decide +kernel
theorem dX1_look_124 : decode cX1_look 124 = .ok (.aload_n 0, 1) := by decide +kernel
theorem dX1_look_125 : decode cX1_look 125 = .ok (.getfield 62, 3) := by decide +kernel
theorem dX1_look_128 : decode cX1_look 128 = .ok (.ireturn, 1) := by decide +kernel
theorem dX1_look_129 : decode cX1_look 129 = .ok (.aload_n 0, 1) := by decide +kernel
theorem dX1_look_130 : decode cX1_look 130 = .ok (.getfield 65, 3) := by decide +kernel
theorem dX1_look_133 : decode cX1_look 133 = .ok (.ireturn, 1) := by decide +kernel
theorem dX1_look_134 : decode cX1_look 134 = .ok (.aload_n 0, 1) := by decide +kernel
theorem dX1_look_135 : decode cX1_look 135 = .ok (.getfield 26, 3) := by decide +kernel
theorem dX1_look_138 : decode cX1_look 138 = .ok (.ireturn, 1) := by decide +kernel
theorem dX1_look_139 : decode cX1_look 139 = .ok (.aload_n 0, 1) := by decide +kernel
theorem dX1_look_140 : decode cX1_look 140 = .ok (.invokevirtual 56, 3) := by decide +kernel
theorem dX1_look_143 : decode cX1_look 143 = .ok (.ireturn, 1) := by decide +kernel
theorem dX1_look_144 : decode cX1_look 144 = .ok (.iconst (-1), 1) := by decide +kernel
theorem dX1_look_145 : decode cX1_look 145 = .ok (.ireturn, 1) := by decide +kernel
