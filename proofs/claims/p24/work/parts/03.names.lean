/-! ===== BEGIN printed: names, fields, word lists, decode rows ===== -/
def RX0 : String := "LogTurner$Holder"
def TX0 : u_T := fun k => match k with
  | 0 => ("LogTurner$Holder", "file", "LLogTurner$LogFile;", false)
  | _ => ("LogTurner$Holder", "part", "LLogTurner$Part;", false)
def tyX0 : Nat → FieldType := fun k => match k with
  | 0 => .object "LogTurner$LogFile"
  | _ => .object "LogTurner$Part"
abbrev wsX00 : List Cond := u_ws RX0 TX0 2
theorem nmX0 : ∀ a, a < 2 → ∀ b, b < 2 → a ≠ b → (TX0 a).2.1 ≠ (TX0 b).2.1 := by decide +kernel
theorem tyX0_ok : ∀ k, k < 2 → parseFieldDescriptor (TX0 k).2.2.1 = some (tyX0 k) := by decide +kernel
abbrev cX0_init : ByteArray := prog_2_method_1_code
def yX0_init : MethodName := ⟨RX0, "<init>", "()V"⟩
def RX1 : String := "LogTurner$LogFile"
def TX1 : u_T := fun k => match k with
  | 0 => ("LogTurner$LogFile", "number", "I", true)
  | 1 => ("LogTurner$LogFile", "oldParts", "Ljava/util/ArrayList;", true)
  | 2 => ("LogTurner$LogFile", "rule", "LLogTurner$Rule;", false)
  | 3 => ("LogTurner$LogFile", "livePart", "LLogTurner$Part;", false)
  | 4 => ("LogTurner$LogFile", "lastTurn", "I", false)
  | 5 => ("LogTurner$LogFile", "everTurned", "Z", false)
  | _ => ("LogTurner$LogFile", "thrownLines", "I", false)
def tyX1 : Nat → FieldType := fun k => match k with
  | 0 => .int
  | 1 => .object "java/util/ArrayList"
  | 2 => .object "LogTurner$Rule"
  | 3 => .object "LogTurner$Part"
  | 4 => .int
  | 5 => .boolean
  | _ => .int
abbrev wsX10 : List Cond := u_ws RX1 TX1 7
theorem nmX1 : ∀ a, a < 7 → ∀ b, b < 7 → a ≠ b → (TX1 a).2.1 ≠ (TX1 b).2.1 := by decide +kernel
theorem tyX1_ok : ∀ k, k < 7 → parseFieldDescriptor (TX1 k).2.2.1 = some (tyX1 k) := by decide +kernel
abbrev cX1_init : ByteArray := prog_3_method_1_code
def yX1_init : MethodName := ⟨RX1, "<init>", "(ILLogTurner$Rule;)V"⟩
def RX2 : String := "LogTurner$Part"
def TX2 : u_T := fun k => match k with
  | 0 => ("LogTurner$Part", "lineCount", "I", false)
  | 1 => ("LogTurner$Part", "turnDay", "I", false)
  | _ => ("LogTurner$Part", "squeezed", "Z", false)
def tyX2 : Nat → FieldType := fun k => match k with
  | 0 => .int
  | 1 => .int
  | _ => .boolean
abbrev wsX20 : List Cond := u_ws RX2 TX2 3
theorem nmX2 : ∀ a, a < 3 → ∀ b, b < 3 → a ≠ b → (TX2 a).2.1 ≠ (TX2 b).2.1 := by decide +kernel
theorem tyX2_ok : ∀ k, k < 3 → parseFieldDescriptor (TX2 k).2.2.1 = some (tyX2 k) := by decide +kernel
abbrev cX2_init : ByteArray := prog_4_method_1_code
def yX2_init : MethodName := ⟨RX2, "<init>", "()V"⟩
def RX3 : String := "LogTurner$Rule"
def TX3 : u_T := fun k => match k with
  | 0 => ("LogTurner$Rule", "number", "I", true)
  | 1 => ("LogTurner$Rule", "size", "I", false)
  | 2 => ("LogTurner$Rule", "weekday", "I", false)
  | 3 => ("LogTurner$Rule", "monthly", "I", false)
  | 4 => ("LogTurner$Rule", "least", "I", false)
  | 5 => ("LogTurner$Rule", "keep", "I", false)
  | 6 => ("LogTurner$Rule", "greatest", "I", false)
  | 7 => ("LogTurner$Rule", "squeezes", "Z", false)
  | 8 => ("LogTurner$Rule", "dates", "Z", false)
  | _ => ("LogTurner$Rule", "tells", "Z", false)
def tyX3 : Nat → FieldType := fun k => match k with
  | 0 => .int
  | 1 => .int
  | 2 => .int
  | 3 => .int
  | 4 => .int
  | 5 => .int
  | 6 => .int
  | 7 => .boolean
  | 8 => .boolean
  | _ => .boolean
abbrev wsX30 : List Cond := u_ws RX3 TX3 10
theorem nmX3 : ∀ a, a < 10 → ∀ b, b < 10 → a ≠ b → (TX3 a).2.1 ≠ (TX3 b).2.1 := by decide +kernel
theorem tyX3_ok : ∀ k, k < 10 → parseFieldDescriptor (TX3 k).2.2.1 = some (tyX3 k) := by decide +kernel
abbrev cX3_init : ByteArray := prog_5_method_1_code
def yX3_init : MethodName := ⟨RX3, "<init>", "(I)V"⟩
def RX4 : String := "LogTurner"
def TX4 : u_T := fun k => match k with
  | 0 => ("LogTurner", "rules", "[LLogTurner$Rule;", true)
  | 1 => ("LogTurner", "files", "[LLogTurner$LogFile;", true)
  | 2 => ("LogTurner", "holders", "[LLogTurner$Holder;", true)
  | _ => ("LogTurner", "today", "I", false)
def tyX4 : Nat → FieldType := fun k => match k with
  | 0 => .array (.object "LogTurner$Rule")
  | 1 => .array (.object "LogTurner$LogFile")
  | 2 => .array (.object "LogTurner$Holder")
  | _ => .int
abbrev wsX40 : List Cond := u_ws RX4 TX4 4
theorem nmX4 : ∀ a, a < 4 → ∀ b, b < 4 → a ≠ b → (TX4 a).2.1 ≠ (TX4 b).2.1 := by decide +kernel
theorem tyX4_ok : ∀ k, k < 4 → parseFieldDescriptor (TX4 k).2.2.1 = some (tyX4 k) := by decide +kernel
abbrev cX4_init : ByteArray := prog_1_method_1_code
def yX4_init : MethodName := ⟨RX4, "<init>", "()V"⟩
abbrev cX4_setDue : ByteArray := prog_1_method_2_code
def yX4_setDue : MethodName := ⟨RX4, "setDue", "(IIIII)V"⟩
abbrev cX4_setOld : ByteArray := prog_1_method_3_code
def yX4_setOld : MethodName := ⟨RX4, "setOld", "(IIIZZZ)V"⟩
abbrev cX4_give : ByteArray := prog_1_method_4_code
def yX4_give : MethodName := ⟨RX4, "give", "(II)I"⟩
abbrev cX4_open : ByteArray := prog_1_method_5_code
def yX4_open : MethodName := ⟨RX4, "open", "(II)V"⟩
abbrev cX4_shut : ByteArray := prog_1_method_6_code
def yX4_shut : MethodName := ⟨RX4, "shut", "(I)Z"⟩
abbrev cX4_tell : ByteArray := prog_1_method_7_code
def yX4_tell : MethodName := ⟨RX4, "tell", "(I)Z"⟩
abbrev cX4_write : ByteArray := prog_1_method_8_code
def yX4_write : MethodName := ⟨RX4, "write", "(II)I"⟩
abbrev cX4_advance : ByteArray := prog_1_method_9_code
def yX4_advance : MethodName := ⟨RX4, "advance", "(I)I"⟩
abbrev cX4_run : ByteArray := prog_1_method_10_code
def yX4_run : MethodName := ⟨RX4, "run", "()I"⟩
abbrev cX4_turn : ByteArray := prog_1_method_11_code
def yX4_turn : MethodName := ⟨RX4, "turn", "(I)I"⟩
abbrev cX4_lose : ByteArray := prog_1_method_12_code
def yX4_lose : MethodName := ⟨RX4, "lose", "(I)I"⟩
abbrev cX4_day : ByteArray := prog_1_method_13_code
def yX4_day : MethodName := ⟨RX4, "day", "()I"⟩
abbrev cX4_isDue : ByteArray := prog_1_method_14_code
def yX4_isDue : MethodName := ⟨RX4, "isDue", "(I)Z"⟩
abbrev cX4_nextDue : ByteArray := prog_1_method_15_code
def yX4_nextDue : MethodName := ⟨RX4, "nextDue", "(I)I"⟩
abbrev cX4_live : ByteArray := prog_1_method_16_code
def yX4_live : MethodName := ⟨RX4, "live", "(I)I"⟩
abbrev cX4_olds : ByteArray := prog_1_method_17_code
def yX4_olds : MethodName := ⟨RX4, "olds", "(I)I"⟩
abbrev cX4_lines : ByteArray := prog_1_method_18_code
def yX4_lines : MethodName := ⟨RX4, "lines", "(II)I"⟩
abbrev cX4_name : ByteArray := prog_1_method_19_code
def yX4_name : MethodName := ⟨RX4, "name", "(II)I"⟩
abbrev cX4_isSqueezed : ByteArray := prog_1_method_20_code
def yX4_isSqueezed : MethodName := ⟨RX4, "isSqueezed", "(II)Z"⟩
abbrev cX4_thrown : ByteArray := prog_1_method_21_code
def yX4_thrown : MethodName := ⟨RX4, "thrown", "(I)I"⟩
abbrev cX4_holds : ByteArray := prog_1_method_22_code
def yX4_holds : MethodName := ⟨RX4, "holds", "(I)I"⟩
abbrev cX4_ruleOf : ByteArray := prog_1_method_23_code
def yX4_ruleOf : MethodName := ⟨RX4, "ruleOf", "(I)LLogTurner$Rule;"⟩
abbrev cX4_fileOf : ByteArray := prog_1_method_24_code
def yX4_fileOf : MethodName := ⟨RX4, "fileOf", "(I)LLogTurner$LogFile;"⟩
abbrev cX4_holderOf : ByteArray := prog_1_method_25_code
def yX4_holderOf : MethodName := ⟨RX4, "holderOf", "(I)LLogTurner$Holder;"⟩
abbrev cX4_oldPartOf : ByteArray := prog_1_method_26_code
def yX4_oldPartOf : MethodName := ⟨RX4, "oldPartOf", "(LLogTurner$LogFile;I)LLogTurner$Part;"⟩
abbrev cX4_requireRange : ByteArray := prog_1_method_27_code
def yX4_requireRange : MethodName := ⟨RX4, "requireRange", "(III)V"⟩
abbrev cX4_isDueOn : ByteArray := prog_1_method_28_code
def yX4_isDueOn : MethodName := ⟨RX4, "isDueOn", "(LLogTurner$LogFile;I)Z"⟩
abbrev cX4_isTooSoon : ByteArray := prog_1_method_29_code
def yX4_isTooSoon : MethodName := ⟨RX4, "isTooSoon", "(LLogTurner$LogFile;I)Z"⟩
abbrev cX4_hasWeekdayCome : ByteArray := prog_1_method_30_code
def yX4_hasWeekdayCome : MethodName := ⟨RX4, "hasWeekdayCome", "(III)Z"⟩
abbrev cX4_hasMonthlyCome : ByteArray := prog_1_method_31_code
def yX4_hasMonthlyCome : MethodName := ⟨RX4, "hasMonthlyCome", "(III)Z"⟩
abbrev cX4_turnToday : ByteArray := prog_1_method_32_code
def yX4_turnToday : MethodName := ⟨RX4, "turnToday", "(LLogTurner$LogFile;)I"⟩
abbrev cX4_markTurnedToday : ByteArray := prog_1_method_33_code
def yX4_markTurnedToday : MethodName := ⟨RX4, "markTurnedToday", "(LLogTurner$LogFile;)V"⟩
abbrev cX4_squeezeOldParts : ByteArray := prog_1_method_34_code
def yX4_squeezeOldParts : MethodName := ⟨RX4, "squeezeOldParts", "(Ljava/util/ArrayList;)V"⟩
abbrev cX4_throwOldParts : ByteArray := prog_1_method_35_code
def yX4_throwOldParts : MethodName := ⟨RX4, "throwOldParts", "(LLogTurner$LogFile;)I"⟩
abbrev cX4_mustGo : ByteArray := prog_1_method_36_code
def yX4_mustGo : MethodName := ⟨RX4, "mustGo", "(LLogTurner$Part;LLogTurner$Rule;I)Z"⟩
abbrev cX4_isHeld : ByteArray := prog_1_method_37_code
def yX4_isHeld : MethodName := ⟨RX4, "isHeld", "(LLogTurner$Part;)Z"⟩
abbrev cX4_hasFileAmong : ByteArray := prog_1_method_38_code
def yX4_hasFileAmong : MethodName := ⟨RX4, "hasFileAmong", "(LLogTurner$Rule;I)Z"⟩
abbrev cX4_tellHoldersOf : ByteArray := prog_1_method_39_code
def yX4_tellHoldersOf : MethodName := ⟨RX4, "tellHoldersOf", "(LLogTurner$Rule;)V"⟩
abbrev cX4_countOlderOfDay : ByteArray := prog_1_method_40_code
def yX4_countOlderOfDay : MethodName := ⟨RX4, "countOlderOfDay", "(Ljava/util/ArrayList;II)I"⟩
abbrev cX4_placeOf : ByteArray := prog_1_method_41_code
def yX4_placeOf : MethodName := ⟨RX4, "placeOf", "(Ljava/util/ArrayList;LLogTurner$Part;)I"⟩
def RX5 : String := "LogTurnerModel"
def TX5 : u_T := fun k => match k with
  | _ => ("", "", "", false)
def tyX5 : Nat → FieldType := fun k => match k with
  | _ => .int
abbrev wsX50 : List Cond := u_ws RX5 TX5 0
theorem nmX5 : ∀ a, a < 0 → ∀ b, b < 0 → a ≠ b → (TX5 a).2.1 ≠ (TX5 b).2.1 := by decide +kernel
theorem tyX5_ok : ∀ k, k < 0 → parseFieldDescriptor (TX5 k).2.2.1 = some (tyX5 k) := by decide +kernel
def RJx145de : String := "java/io/Serializable"
def TJx145de : u_T := fun k => match k with
  | _ => ("", "", "", false)
def tyJx145de : Nat → FieldType := fun k => match k with
  | _ => .int
abbrev wsJx145de0 : List Cond := u_ws RJx145de TJx145de 0
theorem nmJx145de : ∀ a, a < 0 → ∀ b, b < 0 → a ≠ b → (TJx145de a).2.1 ≠ (TJx145de b).2.1 := by decide +kernel
theorem tyJx145de_ok : ∀ k, k < 0 → parseFieldDescriptor (TJx145de k).2.2.1 = some (tyJx145de k) := by decide +kernel
def RJx8e188 : String := "java/lang/Cloneable"
def TJx8e188 : u_T := fun k => match k with
  | _ => ("", "", "", false)
def tyJx8e188 : Nat → FieldType := fun k => match k with
  | _ => .int
abbrev wsJx8e1880 : List Cond := u_ws RJx8e188 TJx8e188 0
theorem nmJx8e188 : ∀ a, a < 0 → ∀ b, b < 0 → a ≠ b → (TJx8e188 a).2.1 ≠ (TJx8e188 b).2.1 := by decide +kernel
theorem tyJx8e188_ok : ∀ k, k < 0 → parseFieldDescriptor (TJx8e188 k).2.2.1 = some (tyJx8e188 k) := by decide +kernel
def RJxab1ab : String := "java/lang/Iterable"
def TJxab1ab : u_T := fun k => match k with
  | _ => ("", "", "", false)
def tyJxab1ab : Nat → FieldType := fun k => match k with
  | _ => .int
abbrev wsJxab1ab0 : List Cond := u_ws RJxab1ab TJxab1ab 0
theorem nmJxab1ab : ∀ a, a < 0 → ∀ b, b < 0 → a ≠ b → (TJxab1ab a).2.1 ≠ (TJxab1ab b).2.1 := by decide +kernel
theorem tyJxab1ab_ok : ∀ k, k < 0 → parseFieldDescriptor (TJxab1ab k).2.2.1 = some (tyJxab1ab k) := by decide +kernel
def RJ9 : String := "java/lang/Math"
def TJ9 : u_T := fun k => match k with
  | _ => ("", "", "", false)
def tyJ9 : Nat → FieldType := fun k => match k with
  | _ => .int
abbrev wsJ90 : List Cond := u_ws RJ9 TJ9 0
theorem nmJ9 : ∀ a, a < 0 → ∀ b, b < 0 → a ≠ b → (TJ9 a).2.1 ≠ (TJ9 b).2.1 := by decide +kernel
theorem tyJ9_ok : ∀ k, k < 0 → parseFieldDescriptor (TJ9 k).2.2.1 = some (tyJ9 k) := by decide +kernel
abbrev cJ9_floorMod_7cf53 : ByteArray := prog_15_method_50_code
def yJ9_floorMod_7cf53 : MethodName := ⟨RJ9, "floorMod", "(II)I"⟩
abbrev cJ9_max_7cf53 : ByteArray := prog_15_method_65_code
def yJ9_max_7cf53 : MethodName := ⟨RJ9, "max", "(II)I"⟩
abbrev cJ9_min_7cf53 : ByteArray := prog_15_method_69_code
def yJ9_min_7cf53 : MethodName := ⟨RJ9, "min", "(II)I"⟩
def RJ0 : String := "java/lang/String"
def TJ0 : u_T := fun k => match k with
  | _ => ("", "", "", false)
def tyJ0 : Nat → FieldType := fun k => match k with
  | _ => .int
abbrev wsJ00 : List Cond := u_ws RJ0 TJ0 0
theorem nmJ0 : ∀ a, a < 0 → ∀ b, b < 0 → a ≠ b → (TJ0 a).2.1 ≠ (TJ0 b).2.1 := by decide +kernel
theorem tyJ0_ok : ∀ k, k < 0 → parseFieldDescriptor (TJ0 k).2.2.1 = some (tyJ0 k) := by decide +kernel
def RJ10 : String := "java/lang/System"
def TJ10 : u_T := fun k => match k with
  | _ => ("", "", "", false)
def tyJ10 : Nat → FieldType := fun k => match k with
  | _ => .int
abbrev wsJ100 : List Cond := u_ws RJ10 TJ10 0
theorem nmJ10 : ∀ a, a < 0 → ∀ b, b < 0 → a ≠ b → (TJ10 a).2.1 ≠ (TJ10 b).2.1 := by decide +kernel
theorem tyJ10_ok : ∀ k, k < 0 → parseFieldDescriptor (TJ10 k).2.2.1 = some (tyJ10 k) := by decide +kernel
def RJxa1e45 : String := "java/util/AbstractCollection"
def TJxa1e45 : u_T := fun k => match k with
  | _ => ("", "", "", false)
def tyJxa1e45 : Nat → FieldType := fun k => match k with
  | _ => .int
abbrev wsJxa1e450 : List Cond := u_ws RJxa1e45 TJxa1e45 0
theorem nmJxa1e45 : ∀ a, a < 0 → ∀ b, b < 0 → a ≠ b → (TJxa1e45 a).2.1 ≠ (TJxa1e45 b).2.1 := by decide +kernel
theorem tyJxa1e45_ok : ∀ k, k < 0 → parseFieldDescriptor (TJxa1e45 k).2.2.1 = some (tyJxa1e45 k) := by decide +kernel
abbrev cJxa1e45_init_da8c8 : ByteArray := prog_20_method_1_code
def yJxa1e45_init_da8c8 : MethodName := ⟨RJxa1e45, "<init>", "()V"⟩
def RJxc12de : String := "java/util/AbstractList"
def TJxc12de : u_T := fun k => match k with
  | _ => ("", "", "", false)
def tyJxc12de : Nat → FieldType := fun k => match k with
  | _ => .int
abbrev wsJxc12de0 : List Cond := u_ws RJxc12de TJxc12de 0
theorem nmJxc12de : ∀ a, a < 0 → ∀ b, b < 0 → a ≠ b → (TJxc12de a).2.1 ≠ (TJxc12de b).2.1 := by decide +kernel
theorem tyJxc12de_ok : ∀ k, k < 0 → parseFieldDescriptor (TJxc12de k).2.2.1 = some (tyJxc12de k) := by decide +kernel
abbrev cJxc12de_init_da8c8 : ByteArray := prog_21_method_1_code
def yJxc12de_init_da8c8 : MethodName := ⟨RJxc12de, "<init>", "()V"⟩
def RJx4a65c : String := "java/util/ArrayList"
def TJx4a65c : u_T := fun k => match k with
  | 0 => ("java/util/AbstractList", "modCount", "I", false)
  | 1 => ("java/util/ArrayList", "elementData", "[Ljava/lang/Object;", false)
  | _ => ("java/util/ArrayList", "size", "I", false)
def tyJx4a65c : Nat → FieldType := fun k => match k with
  | 0 => .int
  | 1 => .array (.object "java/lang/Object")
  | _ => .int
abbrev wsJx4a65c0 : List Cond := u_ws RJx4a65c TJx4a65c 3
theorem nmJx4a65c : ∀ a, a < 3 → ∀ b, b < 3 → a ≠ b → (TJx4a65c a).2.1 ≠ (TJx4a65c b).2.1 := by decide +kernel
theorem tyJx4a65c_ok : ∀ k, k < 3 → parseFieldDescriptor (TJx4a65c k).2.2.1 = some (tyJx4a65c k) := by decide +kernel
abbrev cJx4a65c_init_da8c8 : ByteArray := prog_22_method_2_code
def yJx4a65c_init_da8c8 : MethodName := ⟨RJx4a65c, "<init>", "()V"⟩
abbrev cJx4a65c_grow_92f84 : ByteArray := prog_22_method_6_code
def yJx4a65c_grow_92f84 : MethodName := ⟨RJx4a65c, "grow", "(I)[Ljava/lang/Object;"⟩
abbrev cJx4a65c_grow_d5877 : ByteArray := prog_22_method_7_code
def yJx4a65c_grow_d5877 : MethodName := ⟨RJx4a65c, "grow", "()[Ljava/lang/Object;"⟩
abbrev cJx4a65c_size_8abf5 : ByteArray := prog_22_method_8_code
def yJx4a65c_size_8abf5 : MethodName := ⟨RJx4a65c, "size", "()I"⟩
abbrev cJx4a65c_elementData_915e3 : ByteArray := prog_22_method_18_code
def yJx4a65c_elementData_915e3 : MethodName := ⟨RJx4a65c, "elementData", "(I)Ljava/lang/Object;"⟩
abbrev cJx4a65c_get_915e3 : ByteArray := prog_22_method_20_code
def yJx4a65c_get_915e3 : MethodName := ⟨RJx4a65c, "get", "(I)Ljava/lang/Object;"⟩
abbrev cJx4a65c_add_72be8 : ByteArray := prog_22_method_24_code
def yJx4a65c_add_72be8 : MethodName := ⟨RJx4a65c, "add", "(Ljava/lang/Object;[Ljava/lang/Object;I)V"⟩
abbrev cJx4a65c_add_9ea2d : ByteArray := prog_22_method_25_code
def yJx4a65c_add_9ea2d : MethodName := ⟨RJx4a65c, "add", "(Ljava/lang/Object;)Z"⟩
abbrev cJx4a65c_remove_915e3 : ByteArray := prog_22_method_29_code
def yJx4a65c_remove_915e3 : MethodName := ⟨RJx4a65c, "remove", "(I)Ljava/lang/Object;"⟩
abbrev cJx4a65c_fastRemove_b59b0 : ByteArray := prog_22_method_39_code
def yJx4a65c_fastRemove_b59b0 : MethodName := ⟨RJx4a65c, "fastRemove", "([Ljava/lang/Object;I)V"⟩
def RJ7 : String := "java/util/Arrays"
def TJ7 : u_T := fun k => match k with
  | _ => ("", "", "", false)
def tyJ7 : Nat → FieldType := fun k => match k with
  | _ => .int
abbrev wsJ70 : List Cond := u_ws RJ7 TJ7 0
theorem nmJ7 : ∀ a, a < 0 → ∀ b, b < 0 → a ≠ b → (TJ7 a).2.1 ≠ (TJ7 b).2.1 := by decide +kernel
theorem tyJ7_ok : ∀ k, k < 0 → parseFieldDescriptor (TJ7 k).2.2.1 = some (tyJ7 k) := by decide +kernel
abbrev cJ7_copyOf_1904c : ByteArray := prog_23_method_119_code
def yJ7_copyOf_1904c : MethodName := ⟨RJ7, "copyOf", "([Ljava/lang/Object;I)[Ljava/lang/Object;"⟩
abbrev cJ7_copyOf_6403c : ByteArray := prog_23_method_120_code
def yJ7_copyOf_6403c : MethodName := ⟨RJ7, "copyOf", "([Ljava/lang/Object;ILjava/lang/Class;)[Ljava/lang/Object;"⟩
def RJx5ef63 : String := "java/util/Collection"
def TJx5ef63 : u_T := fun k => match k with
  | _ => ("", "", "", false)
def tyJx5ef63 : Nat → FieldType := fun k => match k with
  | _ => .int
abbrev wsJx5ef630 : List Cond := u_ws RJx5ef63 TJx5ef63 0
theorem nmJx5ef63 : ∀ a, a < 0 → ∀ b, b < 0 → a ≠ b → (TJx5ef63 a).2.1 ≠ (TJx5ef63 b).2.1 := by decide +kernel
theorem tyJx5ef63_ok : ∀ k, k < 0 → parseFieldDescriptor (TJx5ef63 k).2.2.1 = some (tyJx5ef63 k) := by decide +kernel
def RJxbd725 : String := "java/util/List"
def TJxbd725 : u_T := fun k => match k with
  | _ => ("", "", "", false)
def tyJxbd725 : Nat → FieldType := fun k => match k with
  | _ => .int
abbrev wsJxbd7250 : List Cond := u_ws RJxbd725 TJxbd725 0
theorem nmJxbd725 : ∀ a, a < 0 → ∀ b, b < 0 → a ≠ b → (TJxbd725 a).2.1 ≠ (TJxbd725 b).2.1 := by decide +kernel
theorem tyJxbd725_ok : ∀ k, k < 0 → parseFieldDescriptor (TJxbd725 k).2.2.1 = some (tyJxbd725 k) := by decide +kernel
def RJ15 : String := "java/util/Objects"
def TJ15 : u_T := fun k => match k with
  | _ => ("", "", "", false)
def tyJ15 : Nat → FieldType := fun k => match k with
  | _ => .int
abbrev wsJ150 : List Cond := u_ws RJ15 TJ15 0
theorem nmJ15 : ∀ a, a < 0 → ∀ b, b < 0 → a ≠ b → (TJ15 a).2.1 ≠ (TJ15 b).2.1 := by decide +kernel
theorem tyJ15_ok : ∀ k, k < 0 → parseFieldDescriptor (TJ15 k).2.2.1 = some (tyJ15 k) := by decide +kernel
abbrev cJ15_checkIndex_7cf53 : ByteArray := prog_26_method_17_code
def yJ15_checkIndex_7cf53 : MethodName := ⟨RJ15, "checkIndex", "(II)I"⟩
def RJxf0a74 : String := "java/util/RandomAccess"
def TJxf0a74 : u_T := fun k => match k with
  | _ => ("", "", "", false)
def tyJxf0a74 : Nat → FieldType := fun k => match k with
  | _ => .int
abbrev wsJxf0a740 : List Cond := u_ws RJxf0a74 TJxf0a74 0
theorem nmJxf0a74 : ∀ a, a < 0 → ∀ b, b < 0 → a ≠ b → (TJxf0a74 a).2.1 ≠ (TJxf0a74 b).2.1 := by decide +kernel
theorem tyJxf0a74_ok : ∀ k, k < 0 → parseFieldDescriptor (TJxf0a74 k).2.2.1 = some (tyJxf0a74 k) := by decide +kernel
def RJxa66e6 : String := "java/util/SequencedCollection"
def TJxa66e6 : u_T := fun k => match k with
  | _ => ("", "", "", false)
def tyJxa66e6 : Nat → FieldType := fun k => match k with
  | _ => .int
abbrev wsJxa66e60 : List Cond := u_ws RJxa66e6 TJxa66e6 0
theorem nmJxa66e6 : ∀ a, a < 0 → ∀ b, b < 0 → a ≠ b → (TJxa66e6 a).2.1 ≠ (TJxa66e6 b).2.1 := by decide +kernel
theorem tyJxa66e6_ok : ∀ k, k < 0 → parseFieldDescriptor (TJxa66e6 k).2.2.1 = some (tyJxa66e6 k) := by decide +kernel
def RJ8 : String := "jdk/internal/util/ArraysSupport"
def TJ8 : u_T := fun k => match k with
  | _ => ("", "", "", false)
def tyJ8 : Nat → FieldType := fun k => match k with
  | _ => .int
abbrev wsJ80 : List Cond := u_ws RJ8 TJ8 0
theorem nmJ8 : ∀ a, a < 0 → ∀ b, b < 0 → a ≠ b → (TJ8 a).2.1 ≠ (TJ8 b).2.1 := by decide +kernel
theorem tyJ8_ok : ∀ k, k < 0 → parseFieldDescriptor (TJ8 k).2.2.1 = some (tyJ8 k) := by decide +kernel
abbrev cJ8_newLength_cabcc : ByteArray := prog_29_method_27_code
def yJ8_newLength_cabcc : MethodName := ⟨RJ8, "newLength", "(III)I"⟩
abbrev cJ8_hugeLength_7cf53 : ByteArray := prog_29_method_28_code
def yJ8_hugeLength_7cf53 : MethodName := ⟨RJ8, "hugeLength", "(II)I"⟩
def RJ3 : String := "jdk/internal/util/Preconditions"
def TJ3 : u_T := fun k => match k with
  | _ => ("", "", "", false)
def tyJ3 : Nat → FieldType := fun k => match k with
  | _ => .int
abbrev wsJ30 : List Cond := u_ws RJ3 TJ3 0
theorem nmJ3 : ∀ a, a < 0 → ∀ b, b < 0 → a ≠ b → (TJ3 a).2.1 ≠ (TJ3 b).2.1 := by decide +kernel
theorem tyJ3_ok : ∀ k, k < 0 → parseFieldDescriptor (TJ3 k).2.2.1 = some (tyJ3 k) := by decide +kernel
abbrev cJ3_checkIndex_8e157 : ByteArray := prog_30_method_11_code
def yJ3_checkIndex_8e157 : MethodName := ⟨RJ3, "checkIndex", "(IILjava/util/function/BiFunction;)I"⟩
def RL : String := "LogTurnerLaw"
abbrev cL_at : ByteArray := method_2_code
def yL_at : MethodName := ⟨RL, "at", "([II)I"⟩
abbrev cL_low : ByteArray := method_3_code
def yL_low : MethodName := ⟨RL, "low", "(II)I"⟩
abbrev cL_setDue : ByteArray := method_4_code
def yL_setDue : MethodName := ⟨RL, "setDue", "(LLogTurner;IIIII)I"⟩
abbrev cL_setOld : ByteArray := method_5_code
def yL_setOld : MethodName := ⟨RL, "setOld", "(LLogTurner;IIIZZZ)I"⟩
abbrev cL_give : ByteArray := method_6_code
def yL_give : MethodName := ⟨RL, "give", "(LLogTurner;II)I"⟩
abbrev cL_open : ByteArray := method_7_code
def yL_open : MethodName := ⟨RL, "open", "(LLogTurner;II)I"⟩
abbrev cL_shut : ByteArray := method_8_code
def yL_shut : MethodName := ⟨RL, "shut", "(LLogTurner;I)I"⟩
abbrev cL_tell : ByteArray := method_9_code
def yL_tell : MethodName := ⟨RL, "tell", "(LLogTurner;I)I"⟩
abbrev cL_write : ByteArray := method_10_code
def yL_write : MethodName := ⟨RL, "write", "(LLogTurner;II)I"⟩
abbrev cL_advance : ByteArray := method_11_code
def yL_advance : MethodName := ⟨RL, "advance", "(LLogTurner;I)I"⟩
abbrev cL_turn : ByteArray := method_12_code
def yL_turn : MethodName := ⟨RL, "turn", "(LLogTurner;I)I"⟩
abbrev cL_lose : ByteArray := method_13_code
def yL_lose : MethodName := ⟨RL, "lose", "(LLogTurner;I)I"⟩
abbrev cL_isDue : ByteArray := method_14_code
def yL_isDue : MethodName := ⟨RL, "isDue", "(LLogTurner;I)I"⟩
abbrev cL_nextDue : ByteArray := method_15_code
def yL_nextDue : MethodName := ⟨RL, "nextDue", "(LLogTurner;I)I"⟩
abbrev cL_live : ByteArray := method_16_code
def yL_live : MethodName := ⟨RL, "live", "(LLogTurner;I)I"⟩
abbrev cL_olds : ByteArray := method_17_code
def yL_olds : MethodName := ⟨RL, "olds", "(LLogTurner;I)I"⟩
abbrev cL_lines : ByteArray := method_18_code
def yL_lines : MethodName := ⟨RL, "lines", "(LLogTurner;II)I"⟩
abbrev cL_name : ByteArray := method_19_code
def yL_name : MethodName := ⟨RL, "name", "(LLogTurner;II)I"⟩
abbrev cL_isSqueezed : ByteArray := method_20_code
def yL_isSqueezed : MethodName := ⟨RL, "isSqueezed", "(LLogTurner;II)I"⟩
abbrev cL_thrown : ByteArray := method_21_code
def yL_thrown : MethodName := ⟨RL, "thrown", "(LLogTurner;I)I"⟩
abbrev cL_holds : ByteArray := method_22_code
def yL_holds : MethodName := ⟨RL, "holds", "(LLogTurner;I)I"⟩
abbrev cL_isHeld : ByteArray := method_23_code
def yL_isHeld : MethodName := ⟨RL, "isHeld", "(LLogTurner;II)Z"⟩
abbrev cL_due : ByteArray := method_24_code
def yL_due : MethodName := ⟨RL, "due", "(LLogTurner;[I[III)Z"⟩
abbrev cL_file : ByteArray := method_25_code
def yL_file : MethodName := ⟨RL, "file", "(LLogTurner;[I[I[II)Z"⟩
abbrev cL_isSo : ByteArray := method_26_code
def yL_isSo : MethodName := ⟨RL, "isSo", "(LLogTurner;[I[I[I)Z"⟩
abbrev cL_isTurned : ByteArray := method_27_code
def yL_isTurned : MethodName := ⟨RL, "isTurned", "(LLogTurner;[I[II[I)Z"⟩
abbrev cL_turns : ByteArray := method_28_code
def yL_turns : MethodName := ⟨RL, "turns", "(LLogTurner;LLogTurner;[I[I[II)Z"⟩
abbrev cL_runs : ByteArray := method_29_code
def yL_runs : MethodName := ⟨RL, "runs", "(LLogTurner;LLogTurner;[I[I[I)Z"⟩
abbrev cL_acts : ByteArray := method_30_code
def yL_acts : MethodName := ⟨RL, "acts", "(LLogTurner;LLogTurner;[I[I[III)Z"⟩
abbrev cL_law : ByteArray := code
def yL_law : MethodName := ⟨RL, "law", "([I)Z"⟩
def wsL_law0_r1 : List Cond := [Cond.classLink RL 11 RX4, Cond.instantiable RX4 4, Cond.initialized RX4, Cond.arrayClass .int, Cond.constant RL 18 (-1000001), Cond.methodLink RL 163 yX4_init, Cond.instanceMethod yX4_init, Cond.code yX4_init cX4_init 2 none, Cond.methodLink RX4 1 objectInit, Cond.instanceMethod objectInit, Cond.code objectInit ⟨#[0xb1]⟩ 1 none, Cond.classLink RX4 9 RX3, Cond.fieldLink RX4 11 "LogTurner" "rules" "[LLogTurner$Rule;", Cond.classLink RX4 15 RX1, Cond.fieldLink RX4 17 "LogTurner" "files" "[LLogTurner$LogFile;", Cond.classLink RX4 21 RX0, Cond.fieldLink RX4 23 "LogTurner" "holders" "[LLogTurner$Holder;", Cond.instantiable RX3 10, Cond.initialized RX3, Cond.instantiable RX1 7, Cond.initialized RX1, Cond.instantiable RX0 2, Cond.initialized RX0, Cond.methodLink RX4 27 yX3_init]
def wsL_law0_r2 : List Cond := [Cond.instanceMethod yX3_init, Cond.code yX3_init cX3_init 2 none, Cond.methodLink RX3 3 objectInit, Cond.fieldLink RX3 9 "LogTurner$Rule" "weekday" "I", Cond.fieldLink RX3 15 "LogTurner$Rule" "monthly" "I", Cond.fieldLink RX3 18 "LogTurner$Rule" "keep" "I", Cond.fieldLink RX3 21 "LogTurner$Rule" "number" "I", Cond.methodLink RX4 30 yX1_init, Cond.instanceMethod yX1_init, Cond.code yX1_init cX1_init 3 none, Cond.methodLink RX1 1 objectInit, Cond.classLink RX1 7 RJx4a65c, Cond.instantiable RJx4a65c 3, Cond.initialized RJx4a65c, Cond.fieldLink RX1 10 "LogTurner$LogFile" "oldParts" "Ljava/util/ArrayList;", Cond.classLink RX1 16 RX2, Cond.instantiable RX2 3, Cond.initialized RX2, Cond.fieldLink RX1 19 "LogTurner$LogFile" "livePart" "LLogTurner$Part;", Cond.fieldLink RX1 23 "LogTurner$LogFile" "number" "I", Cond.fieldLink RX1 27 "LogTurner$LogFile" "rule" "LLogTurner$Rule;", Cond.methodLink RX1 9 yJx4a65c_init_da8c8, Cond.instanceMethod yJx4a65c_init_da8c8, Cond.code yJx4a65c_init_da8c8 cJx4a65c_init_da8c8 1 none]
def wsL_law0_r3 : List Cond := [Cond.fieldLink RJx4a65c 39 "java/util/ArrayList" "DEFAULTCAPACITY_EMPTY_ELEMENTDATA" "[Ljava/lang/Object;", Cond.fieldLink RJx4a65c 9 "java/util/ArrayList" "elementData" "[Ljava/lang/Object;", Cond.methodLink RJx4a65c 1 yJxc12de_init_da8c8, Cond.instanceMethod yJxc12de_init_da8c8, Cond.initialized RJxc12de, Cond.code yJxc12de_init_da8c8 cJxc12de_init_da8c8 1 none, Cond.fieldLink RJxc12de 7 "java/util/AbstractList" "modCount" "I", Cond.methodLink RJxc12de 1 yJxa1e45_init_da8c8, Cond.instanceMethod yJxa1e45_init_da8c8, Cond.initialized RJxa1e45, Cond.code yJxa1e45_init_da8c8 cJxa1e45_init_da8c8 1 none, Cond.methodLink RJxa1e45 1 objectInit, Cond.instanceMethod yX2_init, Cond.code yX2_init cX2_init 1 none, Cond.methodLink RX2 1 objectInit, Cond.instanceMethod yX0_init, Cond.code yX0_init cX0_init 1 none, Cond.methodLink RX0 1 objectInit, Cond.methodLink RL 115 yX4_day, Cond.instanceMethod yX4_day, Cond.selects RX4 yX4_day yX4_day, Cond.code yX4_day cX4_day 1 (some .int), Cond.fieldLink RX4 109 "LogTurner" "today" "I", Cond.methodLink RL 129 yX4_run]
def wsL_law0_r4 : List Cond := [Cond.instanceMethod yX4_run, Cond.selects RX4 yX4_run yX4_run, Cond.code yX4_run cX4_run 3 (some .int), Cond.fieldLink RX4 68 "LogTurner$Rule" "tells" "Z", Cond.methodLink RX4 114 yX4_isDueOn, Cond.static yX4_isDueOn, Cond.code yX4_isDueOn cX4_isDueOn 5 (some .boolean), Cond.fieldLink RX4 75 "LogTurner$LogFile" "rule" "LLogTurner$Rule;", Cond.fieldLink RX4 90 "LogTurner$LogFile" "livePart" "LLogTurner$Part;", Cond.fieldLink RX4 104 "LogTurner$Part" "lineCount" "I", Cond.fieldLink RX4 42 "LogTurner$Rule" "size" "I", Cond.fieldLink RX4 46 "LogTurner$Rule" "weekday" "I", Cond.fieldLink RX4 130 "LogTurner$LogFile" "lastTurn" "I", Cond.fieldLink RX4 49 "LogTurner$Rule" "monthly" "I", Cond.methodLink RX4 188 yX4_isTooSoon, Cond.static yX4_isTooSoon, Cond.code yX4_isTooSoon cX4_isTooSoon 2 (some .boolean), Cond.fieldLink RX4 198 "LogTurner$LogFile" "everTurned" "Z", Cond.fieldLink RX4 52 "LogTurner$Rule" "least" "I", Cond.methodLink RX4 191 yX4_hasWeekdayCome, Cond.static yX4_hasWeekdayCome, Cond.code yX4_hasWeekdayCome cX4_hasWeekdayCome 4 (some .boolean), Cond.methodLink RX4 201 yJ9_floorMod_7cf53, Cond.static yJ9_floorMod_7cf53]
def wsL_law0_r5 : List Cond := [Cond.initialized RJ9, Cond.code yJ9_floorMod_7cf53 cJ9_floorMod_7cf53 3 (some .int), Cond.methodLink RX4 195 yX4_hasMonthlyCome, Cond.static yX4_hasMonthlyCome, Cond.code yX4_hasMonthlyCome cX4_hasMonthlyCome 4 (some .boolean), Cond.methodLink RX4 118 yX4_turnToday, Cond.instanceMethod yX4_turnToday, Cond.selects RX4 yX4_turnToday yX4_turnToday, Cond.code yX4_turnToday cX4_turnToday 3 (some .int), Cond.fieldLink RX4 137 "LogTurner$LogFile" "oldParts" "Ljava/util/ArrayList;", Cond.fieldLink RX4 150 "LogTurner$Part" "turnDay" "I", Cond.classLink RX4 105 RX2, Cond.fieldLink RX4 61 "LogTurner$Rule" "squeezes" "Z", Cond.methodLink RX4 141 yJx4a65c_size_8abf5, Cond.instanceMethod yJx4a65c_size_8abf5, Cond.selects RJx4a65c yJx4a65c_size_8abf5 yJx4a65c_size_8abf5, Cond.code yJx4a65c_size_8abf5 cJx4a65c_size_8abf5 1 (some .int), Cond.fieldLink RJx4a65c 48 "java/util/ArrayList" "size" "I", Cond.methodLink RX4 207 yJx4a65c_add_9ea2d, Cond.instanceMethod yJx4a65c_add_9ea2d, Cond.selects RJx4a65c yJx4a65c_add_9ea2d yJx4a65c_add_9ea2d, Cond.code yJx4a65c_add_9ea2d cJx4a65c_add_9ea2d 2 (some .boolean), Cond.fieldLink RJx4a65c 63 "java/util/ArrayList" "modCount" "I", Cond.sameField "java/util/ArrayList" "java/util/AbstractList" "modCount" "I"]
def wsL_law0_r6 : List Cond := [Cond.methodLink RJx4a65c 131 yJx4a65c_add_72be8, Cond.instanceMethod yJx4a65c_add_72be8, Cond.selects RJx4a65c yJx4a65c_add_72be8 yJx4a65c_add_72be8, Cond.code yJx4a65c_add_72be8 cJx4a65c_add_72be8 4 none, Cond.methodLink RJx4a65c 129 yJx4a65c_grow_d5877, Cond.instanceMethod yJx4a65c_grow_d5877, Cond.selects RJx4a65c yJx4a65c_grow_d5877 yJx4a65c_grow_d5877, Cond.code yJx4a65c_grow_d5877 cJx4a65c_grow_d5877 1 (some (.array (.object "java/lang/Object"))), Cond.methodLink RJx4a65c 69 yJx4a65c_grow_92f84, Cond.instanceMethod yJx4a65c_grow_92f84, Cond.selects RJx4a65c yJx4a65c_grow_92f84 yJx4a65c_grow_92f84, Cond.code yJx4a65c_grow_92f84 cJx4a65c_grow_92f84 4 (some (.array (.object "java/lang/Object"))), Cond.methodLink RJx4a65c 79 Lib.Math.max.name, Cond.static Lib.Math.max.name, Cond.initialized "java/lang/Math", Cond.code Lib.Math.max.name Lib.Math.max.code 2 (some .int), Cond.classLink RJx4a65c 7 "java/lang/Object", Cond.methodLink RJx4a65c 73 yJ8_newLength_cabcc, Cond.static yJ8_newLength_cabcc, Cond.initialized RJ8, Cond.code yJ8_newLength_cabcc cJ8_newLength_cabcc 4 (some .int), Cond.methodLink RJ8 194 Lib.Math.max.name, Cond.constant RJ8 200 (2147483639), Cond.methodLink RJ8 201 yJ8_hugeLength_7cf53]
def wsL_law0_r7 : List Cond := [Cond.static yJ8_hugeLength_7cf53, Cond.code yJ8_hugeLength_7cf53 cJ8_hugeLength_7cf53 3 (some .int), Cond.methodLink RJx4a65c 66 yJ7_copyOf_1904c, Cond.static yJ7_copyOf_1904c, Cond.initialized RJ7, Cond.code yJ7_copyOf_1904c cJ7_copyOf_1904c 2 (some (.array (.object "java/lang/Object"))), Cond.methodLink RJ7 86 ⟨"java/lang/Object", "getClass", "()Ljava/lang/Class;"⟩, Cond.selects "[Ljava/lang/Object;" ⟨"java/lang/Object", "getClass", "()Ljava/lang/Class;"⟩ ⟨"java/lang/Object", "getClass", "()Ljava/lang/Class;"⟩, Cond.instanceMethod ⟨"java/lang/Object", "getClass", "()Ljava/lang/Class;"⟩, Cond.native ⟨"java/lang/Object", "getClass", "()Ljava/lang/Class;"⟩, Cond.methodLink RJ7 300 yJ7_copyOf_6403c, Cond.static yJ7_copyOf_6403c, Cond.code yJ7_copyOf_6403c cJ7_copyOf_6403c 4 (some (.array (.object "java/lang/Object"))), Cond.classLink RJ7 110 "[Ljava/lang/Object;", Cond.classLink RJ7 2 "java/lang/Object", Cond.methodLink RJ7 304 Lib.Math.min.name, Cond.static Lib.Math.min.name, Cond.code Lib.Math.min.name Lib.Math.min.code 2 (some .int), Cond.methodLink RJ7 150 arraycopyName, Cond.native arraycopyName, Cond.static arraycopyName, Cond.initialized "java/lang/System", Cond.methodLink RX4 133 yX4_markTurnedToday, Cond.instanceMethod yX4_markTurnedToday]
def wsL_law0_r8 : List Cond := [Cond.selects RX4 yX4_markTurnedToday yX4_markTurnedToday, Cond.code yX4_markTurnedToday cX4_markTurnedToday 2 none, Cond.methodLink RX4 212 yX4_squeezeOldParts, Cond.instanceMethod yX4_squeezeOldParts, Cond.selects RX4 yX4_squeezeOldParts yX4_squeezeOldParts, Cond.code yX4_squeezeOldParts cX4_squeezeOldParts 4 none, Cond.classLink RX4 105 "LogTurner$Part", Cond.fieldLink RX4 157 "LogTurner$Part" "squeezed" "Z", Cond.methodLink RX4 179 yJx4a65c_get_915e3, Cond.instanceMethod yJx4a65c_get_915e3, Cond.selects RJx4a65c yJx4a65c_get_915e3 yJx4a65c_get_915e3, Cond.code yJx4a65c_get_915e3 cJx4a65c_get_915e3 2 (some (.object "java/lang/Object")), Cond.methodLink RJx4a65c 118 yJ15_checkIndex_7cf53, Cond.static yJ15_checkIndex_7cf53, Cond.initialized RJ15, Cond.code yJ15_checkIndex_7cf53 cJ15_checkIndex_7cf53 2 (some .int), Cond.methodLink RJ15 105 yJ3_checkIndex_8e157, Cond.static yJ3_checkIndex_8e157, Cond.initialized RJ3, Cond.code yJ3_checkIndex_8e157 cJ3_checkIndex_8e157 3 (some .int), Cond.methodLink RJx4a65c 123 yJx4a65c_elementData_915e3, Cond.instanceMethod yJx4a65c_elementData_915e3, Cond.selects RJx4a65c yJx4a65c_elementData_915e3 yJx4a65c_elementData_915e3, Cond.code yJx4a65c_elementData_915e3 cJx4a65c_elementData_915e3 2 (some (.object "java/lang/Object"))]
def wsL_law0_r9 : List Cond := [Cond.methodLink RX4 219 yX4_isHeld, Cond.instanceMethod yX4_isHeld, Cond.selects RX4 yX4_isHeld yX4_isHeld, Cond.code yX4_isHeld cX4_isHeld 3 (some .boolean), Cond.fieldLink RX4 94 "LogTurner$Holder" "part" "LLogTurner$Part;", Cond.methodLink RX4 216 yX4_throwOldParts, Cond.instanceMethod yX4_throwOldParts, Cond.selects RX4 yX4_throwOldParts yX4_throwOldParts, Cond.code yX4_throwOldParts cX4_throwOldParts 7 (some .int), Cond.fieldLink RX4 160 "LogTurner$LogFile" "thrownLines" "I", Cond.methodLink RX4 223 yX4_mustGo, Cond.instanceMethod yX4_mustGo, Cond.selects RX4 yX4_mustGo yX4_mustGo, Cond.code yX4_mustGo cX4_mustGo 6 (some .boolean), Cond.fieldLink RX4 58 "LogTurner$Rule" "greatest" "I", Cond.fieldLink RX4 55 "LogTurner$Rule" "keep" "I", Cond.methodLink RX4 227 yJx4a65c_remove_915e3, Cond.instanceMethod yJx4a65c_remove_915e3, Cond.selects RJx4a65c yJx4a65c_remove_915e3 yJx4a65c_remove_915e3, Cond.code yJx4a65c_remove_915e3 cJx4a65c_remove_915e3 4 (some (.object "java/lang/Object")), Cond.methodLink RJx4a65c 144 yJx4a65c_fastRemove_b59b0, Cond.instanceMethod yJx4a65c_fastRemove_b59b0, Cond.selects RJx4a65c yJx4a65c_fastRemove_b59b0 yJx4a65c_fastRemove_b59b0, Cond.code yJx4a65c_fastRemove_b59b0 cJx4a65c_fastRemove_b59b0 4 none]
def wsL_law0_r10 : List Cond := [Cond.methodLink RJx4a65c 112 arraycopyName, Cond.methodLink RX4 122 yX4_hasFileAmong, Cond.instanceMethod yX4_hasFileAmong, Cond.selects RX4 yX4_hasFileAmong yX4_hasFileAmong, Cond.code yX4_hasFileAmong cX4_hasFileAmong 4 (some .boolean), Cond.methodLink RX4 126 yX4_tellHoldersOf, Cond.instanceMethod yX4_tellHoldersOf, Cond.selects RX4 yX4_tellHoldersOf yX4_tellHoldersOf, Cond.code yX4_tellHoldersOf cX4_tellHoldersOf 4 none, Cond.fieldLink RX4 86 "LogTurner$Holder" "file" "LLogTurner$LogFile;", Cond.methodLink RL 85 yL_holds, Cond.static yL_holds, Cond.initialized RL, Cond.codeWith yL_holds cL_holds 3 (some .int) [(0, 5, 6, 16)], Cond.classLink RL 16 "java/lang/IndexOutOfBoundsException", Cond.methodLink RL 82 yX4_holds, Cond.instanceMethod yX4_holds, Cond.selects RX4 yX4_holds yX4_holds, Cond.code yX4_holds cX4_holds 4 (some .int), Cond.fieldLink RX4 163 "LogTurner$LogFile" "number" "I", Cond.methodLink RX4 82 yX4_holderOf, Cond.instanceMethod yX4_holderOf, Cond.selects RX4 yX4_holderOf yX4_holderOf, Cond.code yX4_holderOf cX4_holderOf 2 (some (.object "LogTurner$Holder"))]
def wsL_law0_r11 : List Cond := [Cond.classLink RX4 168 "java/lang/IndexOutOfBoundsException", Cond.initialized "java/lang/IndexOutOfBoundsException", Cond.methodLink RX4 164 yX4_placeOf, Cond.static yX4_placeOf, Cond.code yX4_placeOf cX4_placeOf 3 (some .int), Cond.methodLink RL 96 yL_name, Cond.static yL_name, Cond.codeWith yL_name cL_name 4 (some .int) [(0, 6, 7, 16)], Cond.methodLink RL 72 yX4_name, Cond.instanceMethod yX4_name, Cond.selects RX4 yX4_name yX4_name, Cond.code yX4_name cX4_name 5 (some .int), Cond.fieldLink RX4 65 "LogTurner$Rule" "dates" "Z", Cond.methodLink RX4 71 yX4_fileOf, Cond.instanceMethod yX4_fileOf, Cond.selects RX4 yX4_fileOf yX4_fileOf, Cond.code yX4_fileOf cX4_fileOf 2 (some (.object "LogTurner$LogFile")), Cond.methodLink RX4 146 yX4_oldPartOf, Cond.static yX4_oldPartOf, Cond.code yX4_oldPartOf cX4_oldPartOf 2 (some (.object "LogTurner$Part")), Cond.methodLink RX4 153 yX4_countOlderOfDay, Cond.static yX4_countOlderOfDay, Cond.code yX4_countOlderOfDay cX4_countOlderOfDay 5 (some .int), Cond.methodLink RL 164 yL_at]
def wsL_law0_r12 : List Cond := [Cond.static yL_at, Cond.code yL_at cL_at 2 (some .int), Cond.constant RL 7 (1033630151), Cond.constant RL 8 (1659393803), Cond.methodLink RL 168 yL_acts, Cond.static yL_acts, Cond.code yL_acts cL_acts 14 (some .boolean), Cond.constant RL 21 (-1000002), Cond.constant RL 43 (-1000003), Cond.methodLink RL 132 yL_low, Cond.static yL_low, Cond.code yL_low cL_low 2 (some .int), Cond.constant RL 9 (2147483647), Cond.methodLink RL 135 yL_setDue, Cond.static yL_setDue, Cond.codeWith yL_setDue cL_setDue 7 (some .int) [(0, 12, 13, 16), (0, 12, 18, 19)], Cond.classLink RL 19 "java/lang/IllegalArgumentException", Cond.methodLink RL 10 yX4_setDue, Cond.instanceMethod yX4_setDue, Cond.selects RX4 yX4_setDue yX4_setDue, Cond.code yX4_setDue cX4_setDue 7 none, Cond.methodLink RX4 34 yX4_ruleOf, Cond.instanceMethod yX4_ruleOf, Cond.selects RX4 yX4_ruleOf yX4_ruleOf]
def wsL_law0_r13 : List Cond := [Cond.code yX4_ruleOf cX4_ruleOf 2 (some (.object "LogTurner$Rule")), Cond.methodLink RX4 38 yX4_requireRange, Cond.static yX4_requireRange, Cond.code yX4_requireRange cX4_requireRange 3 none, Cond.classLink RX4 183 "java/lang/IllegalArgumentException", Cond.initialized "java/lang/IllegalArgumentException", Cond.methodLink RL 138 yL_setOld, Cond.static yL_setOld, Cond.codeWith yL_setOld cL_setOld 8 (some .int) [(0, 14, 15, 16), (0, 14, 20, 19)], Cond.methodLink RL 22 yX4_setOld, Cond.instanceMethod yX4_setOld, Cond.selects RX4 yX4_setOld yX4_setOld, Cond.code yX4_setOld cX4_setOld 8 none, Cond.methodLink RL 141 yL_give, Cond.static yL_give, Cond.codeWith yL_give cL_give 4 (some .int) [(0, 6, 7, 16)], Cond.methodLink RL 26 yX4_give, Cond.instanceMethod yX4_give, Cond.selects RX4 yX4_give yX4_give, Cond.code yX4_give cX4_give 6 (some .int), Cond.fieldLink RX4 79 "LogTurner$Rule" "number" "I", Cond.methodLink RL 143 yL_open, Cond.static yL_open, Cond.codeWith yL_open cL_open 4 (some .int) [(0, 7, 8, 16)]]
def wsL_law0_r14 : List Cond := [Cond.methodLink RL 30 yX4_open, Cond.instanceMethod yX4_open, Cond.selects RX4 yX4_open yX4_open, Cond.code yX4_open cX4_open 5 none, Cond.methodLink RL 145 yL_shut, Cond.static yL_shut, Cond.codeWith yL_shut cL_shut 3 (some .int) [(0, 13, 14, 16)], Cond.methodLink RL 34 yX4_shut, Cond.instanceMethod yX4_shut, Cond.selects RX4 yX4_shut yX4_shut, Cond.code yX4_shut cX4_shut 4 (some .boolean), Cond.methodLink RL 147 yL_write, Cond.static yL_write, Cond.codeWith yL_write cL_write 4 (some .int) [(0, 6, 7, 16), (0, 6, 11, 19), (0, 6, 15, 41)], Cond.classLink RL 41 "java/lang/IllegalStateException", Cond.methodLink RL 44 yX4_write, Cond.instanceMethod yX4_write, Cond.selects RX4 yX4_write yX4_write, Cond.code yX4_write cX4_write 4 (some .int), Cond.classLink RX4 97 "java/lang/IllegalStateException", Cond.initialized "java/lang/IllegalStateException", Cond.methodLink RL 149 yL_tell, Cond.static yL_tell, Cond.codeWith yL_tell cL_tell 3 (some .int) [(0, 13, 14, 16), (0, 13, 18, 41)]]
def wsL_law0_r15 : List Cond := [Cond.methodLink RL 38 yX4_tell, Cond.instanceMethod yX4_tell, Cond.selects RX4 yX4_tell yX4_tell, Cond.code yX4_tell cX4_tell 5 (some .boolean), Cond.methodLink RL 90 yL_live, Cond.static yL_live, Cond.codeWith yL_live cL_live 3 (some .int) [(0, 5, 6, 16)], Cond.methodLink RL 63 yX4_live, Cond.instanceMethod yX4_live, Cond.selects RX4 yX4_live yX4_live, Cond.code yX4_live cX4_live 2 (some .int), Cond.methodLink RL 99 yL_lines, Cond.static yL_lines, Cond.codeWith yL_lines cL_lines 4 (some .int) [(0, 6, 7, 16)], Cond.methodLink RL 69 yX4_lines, Cond.instanceMethod yX4_lines, Cond.selects RX4 yX4_lines yX4_lines, Cond.code yX4_lines cX4_lines 3 (some .int), Cond.methodLink RL 151 yL_advance, Cond.static yL_advance, Cond.codeWith yL_advance cL_advance 3 (some .int) [(0, 5, 6, 19), (0, 5, 10, 41)], Cond.methodLink RL 47 yX4_advance, Cond.instanceMethod yX4_advance, Cond.selects RX4 yX4_advance yX4_advance]
def wsL_law0_r16 : List Cond := [Cond.code yX4_advance cX4_advance 2 (some .int), Cond.methodLink RL 153 yL_runs, Cond.static yL_runs, Cond.code yL_runs cL_runs 14 (some .boolean), Cond.methodLink RL 103 yL_due, Cond.static yL_due, Cond.code yL_due cL_due 8 (some .boolean), Cond.methodLink RL 125 yL_isTurned, Cond.static yL_isTurned, Cond.code yL_isTurned cL_isTurned 11 (some .boolean), Cond.methodLink RL 92 yL_olds, Cond.static yL_olds, Cond.codeWith yL_olds cL_olds 3 (some .int) [(0, 5, 6, 16)], Cond.methodLink RL 66 yX4_olds, Cond.instanceMethod yX4_olds, Cond.selects RX4 yX4_olds yX4_olds, Cond.code yX4_olds cX4_olds 2 (some .int), Cond.methodLink RL 101 yL_isSqueezed, Cond.static yL_isSqueezed, Cond.codeWith yL_isSqueezed cL_isSqueezed 4 (some .int) [(0, 14, 15, 16)], Cond.methodLink RL 75 yX4_isSqueezed, Cond.instanceMethod yX4_isSqueezed, Cond.selects RX4 yX4_isSqueezed yX4_isSqueezed, Cond.code yX4_isSqueezed cX4_isSqueezed 3 (some .boolean)]
def wsL_law0_r17 : List Cond := [Cond.methodLink RL 119 yL_isHeld, Cond.static yL_isHeld, Cond.code yL_isHeld cL_isHeld 5 (some .boolean), Cond.methodLink RL 107 yL_isDue, Cond.static yL_isDue, Cond.codeWith yL_isDue cL_isDue 3 (some .int) [(0, 13, 14, 16)], Cond.methodLink RL 57 yX4_isDue, Cond.instanceMethod yX4_isDue, Cond.selects RX4 yX4_isDue yX4_isDue, Cond.code yX4_isDue cX4_isDue 2 (some .boolean), Cond.methodLink RL 157 yL_lose, Cond.static yL_lose, Cond.codeWith yL_lose cL_lose 3 (some .int) [(0, 5, 6, 16)], Cond.methodLink RL 54 yX4_lose, Cond.instanceMethod yX4_lose, Cond.selects RX4 yX4_lose yX4_lose, Cond.code yX4_lose cX4_lose 4 (some .int), Cond.methodLink RL 159 yL_turns, Cond.static yL_turns, Cond.code yL_turns cL_turns 16 (some .boolean), Cond.methodLink RL 94 yL_thrown, Cond.static yL_thrown, Cond.codeWith yL_thrown cL_thrown 3 (some .int) [(0, 5, 6, 16)], Cond.methodLink RL 79 yX4_thrown]
def wsL_law0_r18 : List Cond := [Cond.instanceMethod yX4_thrown, Cond.selects RX4 yX4_thrown yX4_thrown, Cond.code yX4_thrown cX4_thrown 2 (some .int), Cond.methodLink RL 123 yL_turn, Cond.static yL_turn, Cond.codeWith yL_turn cL_turn 3 (some .int) [(0, 5, 6, 16)], Cond.methodLink RL 51 yX4_turn, Cond.instanceMethod yX4_turn, Cond.selects RX4 yX4_turn yX4_turn, Cond.code yX4_turn cX4_turn 2 (some .int), Cond.methodLink RL 172 yL_isSo, Cond.static yL_isSo, Cond.code yL_isSo cL_isSo 6 (some .boolean), Cond.methodLink RL 111 yL_file, Cond.static yL_file, Cond.code yL_file cL_file 11 (some .boolean), Cond.methodLink RL 109 yL_nextDue, Cond.static yL_nextDue, Cond.codeWith yL_nextDue cL_nextDue 3 (some .int) [(0, 5, 6, 16)], Cond.methodLink RL 60 yX4_nextDue, Cond.instanceMethod yX4_nextDue, Cond.selects RX4 yX4_nextDue yX4_nextDue, Cond.code yX4_nextDue cX4_nextDue 4 (some .int)]
def wsL_law0 : List Cond := (wsL_law0_r1 ++ (wsL_law0_r2 ++ (wsL_law0_r3 ++ (wsL_law0_r4 ++ (wsL_law0_r5 ++ (wsL_law0_r6 ++ (wsL_law0_r7 ++ (wsL_law0_r8 ++ (wsL_law0_r9 ++ (wsL_law0_r10 ++ (wsL_law0_r11 ++ (wsL_law0_r12 ++ (wsL_law0_r13 ++ (wsL_law0_r14 ++ (wsL_law0_r15 ++ (wsL_law0_r16 ++ (wsL_law0_r17 ++ wsL_law0_r18))))))))))))))))) ++ wsX40 ++ wsX30 ++ wsX10 ++ wsX00 ++ wsJx4a65c0 ++ wsX20 ++ ([] : List Cond)
def wsL_law : List Cond := wsL_law0 ++ (vx_atS RX4 172 "java/lang/IndexOutOfBoundsException" ["java/lang/RuntimeException", "java/lang/Exception"]).filter goodWord ++ (vx_atS RX4 187 "java/lang/IllegalArgumentException" ["java/lang/RuntimeException", "java/lang/Exception"]).filter goodWord ++ (vx_atS RX4 101 "java/lang/IllegalStateException" ["java/lang/RuntimeException", "java/lang/Exception"]).filter goodWord
theorem inlX0 : ∀ w ∈ wsX00, w ∈ wsL_law := fun _ h => List.mem_append_left _ (List.mem_append_left _ (List.mem_append_left _ (List.mem_append_left _ (List.mem_append_left _ (List.mem_append_left _ (List.mem_append_right _ h))))))
theorem inlX1 : ∀ w ∈ wsX10, w ∈ wsL_law := fun _ h => List.mem_append_left _ (List.mem_append_left _ (List.mem_append_left _ (List.mem_append_left _ (List.mem_append_left _ (List.mem_append_left _ (List.mem_append_left _ (List.mem_append_right _ h)))))))
theorem inlX2 : ∀ w ∈ wsX20, w ∈ wsL_law := fun _ h => List.mem_append_left _ (List.mem_append_left _ (List.mem_append_left _ (List.mem_append_left _ (List.mem_append_right _ h))))
theorem inlX3 : ∀ w ∈ wsX30, w ∈ wsL_law := fun _ h => List.mem_append_left _ (List.mem_append_left _ (List.mem_append_left _ (List.mem_append_left _ (List.mem_append_left _ (List.mem_append_left _ (List.mem_append_left _ (List.mem_append_left _ (List.mem_append_right _ h))))))))
theorem inlX4 : ∀ w ∈ wsX40, w ∈ wsL_law := fun _ h => List.mem_append_left _ (List.mem_append_left _ (List.mem_append_left _ (List.mem_append_left _ (List.mem_append_left _ (List.mem_append_left _ (List.mem_append_left _ (List.mem_append_left _ (List.mem_append_left _ (List.mem_append_right _ h)))))))))
theorem inlJx4a65c : ∀ w ∈ wsJx4a65c0, w ∈ wsL_law := fun _ h => List.mem_append_left _ (List.mem_append_left _ (List.mem_append_left _ (List.mem_append_left _ (List.mem_append_left _ (List.mem_append_right _ h)))))
abbrev vwCl : List vw_C := [(RJx4a65c, TJx4a65c, 3), (RX0, TX0, 2), (RX1, TX1, 7), (RX2, TX2, 3), (RX3, TX3, 10), (RX4, TX4, 4)]
