def RX0 : String := "TermJudge$Constants"
def TX0 : u_T := fun k => match k with
  | 0 => ("TermJudge$Constants", "types", "[I", true)
  | 1 => ("TermJudge$Constants", "bodies", "[I", true)
  | _ => ("TermJudge$Constants", "made", "I", false)
def tyX0 : Nat → FieldType := fun k => match k with
  | 0 => .array .int
  | 1 => .array .int
  | _ => .int
abbrev wsX00 : List Cond := u_ws RX0 TX0 3
theorem nmX0 : ∀ a, a < 3 → ∀ b, b < 3 → a ≠ b → (TX0 a).2.1 ≠ (TX0 b).2.1 := by decide +kernel
theorem tyX0_ok : ∀ k, k < 3 → parseFieldDescriptor (TX0 k).2.2.1 = some (tyX0 k) := by decide +kernel
abbrev cX0_init : ByteArray := prog_2_method_1_code
def yX0_init : MethodName := ⟨RX0, "<init>", "()V"⟩
abbrev cX0_count : ByteArray := prog_2_method_2_code
def yX0_count : MethodName := ⟨RX0, "count", "()I"⟩
abbrev cX0_isFull : ByteArray := prog_2_method_3_code
def yX0_isFull : MethodName := ⟨RX0, "isFull", "()Z"⟩
abbrev cX0_isThere : ByteArray := prog_2_method_4_code
def yX0_isThere : MethodName := ⟨RX0, "isThere", "(I)Z"⟩
abbrev cX0_typeAt : ByteArray := prog_2_method_5_code
def yX0_typeAt : MethodName := ⟨RX0, "typeAt", "(I)I"⟩
abbrev cX0_bodyAt : ByteArray := prog_2_method_6_code
def yX0_bodyAt : MethodName := ⟨RX0, "bodyAt", "(I)I"⟩
abbrev cX0_add : ByteArray := prog_2_method_7_code
def yX0_add : MethodName := ⟨RX0, "add", "(II)I"⟩
def RX1 : String := "TermJudge$Finder"
def TX1 : u_T := fun k => match k with
  | 0 => ("TermJudge$Finder", "nodes", "LTermJudge$Nodes;", true)
  | 1 => ("TermJudge$Finder", "known", "LTermJudge$Constants;", true)
  | 2 => ("TermJudge$Finder", "reducer", "LTermJudge$Reducer;", true)
  | 3 => ("TermJudge$Finder", "types", "[I", true)
  | _ => ("TermJudge$Finder", "typeCount", "I", false)
def tyX1 : Nat → FieldType := fun k => match k with
  | 0 => .object "TermJudge$Nodes"
  | 1 => .object "TermJudge$Constants"
  | 2 => .object "TermJudge$Reducer"
  | 3 => .array .int
  | _ => .int
abbrev wsX10 : List Cond := u_ws RX1 TX1 5
theorem nmX1 : ∀ a, a < 5 → ∀ b, b < 5 → a ≠ b → (TX1 a).2.1 ≠ (TX1 b).2.1 := by decide +kernel
theorem tyX1_ok : ∀ k, k < 5 → parseFieldDescriptor (TX1 k).2.2.1 = some (tyX1 k) := by decide +kernel
abbrev cX1_init : ByteArray := prog_3_method_1_code
def yX1_init : MethodName := ⟨RX1, "<init>", "(LTermJudge$Nodes;LTermJudge$Constants;LTermJudge$Reducer;)V"⟩
abbrev cX1_forgetTypes : ByteArray := prog_3_method_2_code
def yX1_forgetTypes : MethodName := ⟨RX1, "forgetTypes", "()V"⟩
abbrev cX1_typeFound : ByteArray := prog_3_method_3_code
def yX1_typeFound : MethodName := ⟨RX1, "typeFound", "(I)I"⟩
abbrev cX1_levelOf : ByteArray := prog_3_method_4_code
def yX1_levelOf : MethodName := ⟨RX1, "levelOf", "(I)I"⟩
abbrev cX1_typeOfVariable : ByteArray := prog_3_method_5_code
def yX1_typeOfVariable : MethodName := ⟨RX1, "typeOfVariable", "(I)I"⟩
abbrev cX1_typeOfPi : ByteArray := prog_3_method_6_code
def yX1_typeOfPi : MethodName := ⟨RX1, "typeOfPi", "(II)I"⟩
abbrev cX1_typeOfFunction : ByteArray := prog_3_method_7_code
def yX1_typeOfFunction : MethodName := ⟨RX1, "typeOfFunction", "(II)I"⟩
abbrev cX1_typeOfApplication : ByteArray := prog_3_method_8_code
def yX1_typeOfApplication : MethodName := ⟨RX1, "typeOfApplication", "(II)I"⟩
abbrev cX1_open : ByteArray := prog_3_method_9_code
def yX1_open : MethodName := ⟨RX1, "open", "(I)V"⟩
abbrev cX1_notTooMuch : ByteArray := prog_3_method_10_code
def yX1_notTooMuch : MethodName := ⟨RX1, "notTooMuch", "(I)I"⟩
def RX2 : String := "TermJudge$Marks"
def TX2 : u_T := fun k => match k with
  | 0 => ("TermJudge$Marks", "row", "[I", true)
  | 1 => ("TermJudge$Marks", "length", "I", false)
  | _ => ("TermJudge$Marks", "next", "I", false)
def tyX2 : Nat → FieldType := fun k => match k with
  | 0 => .array .int
  | 1 => .int
  | _ => .int
abbrev wsX20 : List Cond := u_ws RX2 TX2 3
theorem nmX2 : ∀ a, a < 3 → ∀ b, b < 3 → a ≠ b → (TX2 a).2.1 ≠ (TX2 b).2.1 := by decide +kernel
theorem tyX2_ok : ∀ k, k < 3 → parseFieldDescriptor (TX2 k).2.2.1 = some (tyX2 k) := by decide +kernel
abbrev cX2_init : ByteArray := prog_4_method_1_code
def yX2_init : MethodName := ⟨RX2, "<init>", "()V"⟩
abbrev cX2_isEmpty : ByteArray := prog_4_method_2_code
def yX2_isEmpty : MethodName := ⟨RX2, "isEmpty", "()Z"⟩
abbrev cX2_at : ByteArray := prog_4_method_3_code
def yX2_at : MethodName := ⟨RX2, "at", "(I)I"⟩
abbrev cX2_hasTooGreat : ByteArray := prog_4_method_4_code
def yX2_hasTooGreat : MethodName := ⟨RX2, "hasTooGreat", "(I)Z"⟩
abbrev cX2_write : ByteArray := prog_4_method_5_code
def yX2_write : MethodName := ⟨RX2, "write", "(LTermJudge$Nodes;I)I"⟩
abbrev cX2_writeNode : ByteArray := prog_4_method_6_code
def yX2_writeNode : MethodName := ⟨RX2, "writeNode", "(LTermJudge$Nodes;I)V"⟩
abbrev cX2_read : ByteArray := prog_4_method_7_code
def yX2_read : MethodName := ⟨RX2, "read", "(LTermJudge$Nodes;Z)I"⟩
abbrev cX2_readNode : ByteArray := prog_4_method_8_code
def yX2_readNode : MethodName := ⟨RX2, "readNode", "(LTermJudge$Nodes;Z)I"⟩
def RX3 : String := "TermJudge$Nodes"
def TX3 : u_T := fun k => match k with
  | 0 => ("TermJudge$Nodes", "kinds", "[I", false)
  | 1 => ("TermJudge$Nodes", "lefts", "[I", false)
  | 2 => ("TermJudge$Nodes", "rights", "[I", false)
  | 3 => ("TermJudge$Nodes", "sizes", "[I", false)
  | 4 => ("TermJudge$Nodes", "depths", "[I", false)
  | 5 => ("TermJudge$Nodes", "madeTerms", "I", false)
  | 6 => ("TermJudge$Nodes", "lastingEnd", "I", false)
  | _ => ("TermJudge$Nodes", "end", "I", false)
def tyX3 : Nat → FieldType := fun k => match k with
  | 0 => .array .int
  | 1 => .array .int
  | 2 => .array .int
  | 3 => .array .int
  | 4 => .array .int
  | 5 => .int
  | 6 => .int
  | _ => .int
abbrev wsX30 : List Cond := u_ws RX3 TX3 8
theorem nmX3 : ∀ a, a < 8 → ∀ b, b < 8 → a ≠ b → (TX3 a).2.1 ≠ (TX3 b).2.1 := by decide +kernel
theorem tyX3_ok : ∀ k, k < 8 → parseFieldDescriptor (TX3 k).2.2.1 = some (tyX3 k) := by decide +kernel
abbrev cX3_init : ByteArray := prog_5_method_1_code
def yX3_init : MethodName := ⟨RX3, "<init>", "()V"⟩
abbrev cX3_termCount : ByteArray := prog_5_method_2_code
def yX3_termCount : MethodName := ⟨RX3, "termCount", "()I"⟩
abbrev cX3_isTerm : ByteArray := prog_5_method_3_code
def yX3_isTerm : MethodName := ⟨RX3, "isTerm", "(I)Z"⟩
abbrev cX3_kindOf : ByteArray := prog_5_method_4_code
def yX3_kindOf : MethodName := ⟨RX3, "kindOf", "(I)I"⟩
abbrev cX3_leftOf : ByteArray := prog_5_method_5_code
def yX3_leftOf : MethodName := ⟨RX3, "leftOf", "(I)I"⟩
abbrev cX3_rightOf : ByteArray := prog_5_method_6_code
def yX3_rightOf : MethodName := ⟨RX3, "rightOf", "(I)I"⟩
abbrev cX3_sizeOf : ByteArray := prog_5_method_7_code
def yX3_sizeOf : MethodName := ⟨RX3, "sizeOf", "(I)I"⟩
abbrev cX3_depthOf : ByteArray := prog_5_method_8_code
def yX3_depthOf : MethodName := ⟨RX3, "depthOf", "(I)I"⟩
abbrev cX3_mayJoin : ByteArray := prog_5_method_9_code
def yX3_mayJoin : MethodName := ⟨RX3, "mayJoin", "(II)Z"⟩
abbrev cX3_isTooMuch : ByteArray := prog_5_method_10_code
def yX3_isTooMuch : MethodName := ⟨RX3, "isTooMuch", "(I)Z"⟩
abbrev cX3_addTerm : ByteArray := prog_5_method_11_code
def yX3_addTerm : MethodName := ⟨RX3, "addTerm", "(III)I"⟩
abbrev cX3_termLike : ByteArray := prog_5_method_12_code
def yX3_termLike : MethodName := ⟨RX3, "termLike", "(III)I"⟩
abbrev cX3_cutTerms : ByteArray := prog_5_method_13_code
def yX3_cutTerms : MethodName := ⟨RX3, "cutTerms", "(I)V"⟩
abbrev cX3_add : ByteArray := prog_5_method_14_code
def yX3_add : MethodName := ⟨RX3, "add", "(III)I"⟩
abbrev cX3_fill : ByteArray := prog_5_method_15_code
def yX3_fill : MethodName := ⟨RX3, "fill", "(IIII)V"⟩
abbrev cX3_grow : ByteArray := prog_5_method_16_code
def yX3_grow : MethodName := ⟨RX3, "grow", "()V"⟩
abbrev cX3_dropPassing : ByteArray := prog_5_method_17_code
def yX3_dropPassing : MethodName := ⟨RX3, "dropPassing", "()V"⟩
abbrev cX3_keepPassing : ByteArray := prog_5_method_18_code
def yX3_keepPassing : MethodName := ⟨RX3, "keepPassing", "()V"⟩
abbrev cX3_changed : ByteArray := prog_5_method_19_code
def yX3_changed : MethodName := ⟨RX3, "changed", "(IIII)I"⟩
abbrev cX3_withHead : ByteArray := prog_5_method_20_code
def yX3_withHead : MethodName := ⟨RX3, "withHead", "(III)I"⟩
def RX4 : String := "TermJudge$Reducer"
def TX4 : u_T := fun k => match k with
  | 0 => ("TermJudge$Reducer", "nodes", "LTermJudge$Nodes;", true)
  | 1 => ("TermJudge$Reducer", "known", "LTermJudge$Constants;", true)
  | 2 => ("TermJudge$Reducer", "firsts", "[I", true)
  | 3 => ("TermJudge$Reducer", "seconds", "[I", true)
  | 4 => ("TermJudge$Reducer", "openPairs", "I", false)
  | 5 => ("TermJudge$Reducer", "fuel", "I", false)
  | _ => ("TermJudge$Reducer", "made", "I", false)
def tyX4 : Nat → FieldType := fun k => match k with
  | 0 => .object "TermJudge$Nodes"
  | 1 => .object "TermJudge$Constants"
  | 2 => .array .int
  | 3 => .array .int
  | 4 => .int
  | 5 => .int
  | _ => .int
abbrev wsX40 : List Cond := u_ws RX4 TX4 7
theorem nmX4 : ∀ a, a < 7 → ∀ b, b < 7 → a ≠ b → (TX4 a).2.1 ≠ (TX4 b).2.1 := by decide +kernel
theorem tyX4_ok : ∀ k, k < 7 → parseFieldDescriptor (TX4 k).2.2.1 = some (tyX4 k) := by decide +kernel
abbrev cX4_init : ByteArray := prog_6_method_1_code
def yX4_init : MethodName := ⟨RX4, "<init>", "(LTermJudge$Nodes;LTermJudge$Constants;)V"⟩
abbrev cX4_refuel : ByteArray := prog_6_method_2_code
def yX4_refuel : MethodName := ⟨RX4, "refuel", "(I)V"⟩
abbrev cX4_madeCount : ByteArray := prog_6_method_3_code
def yX4_madeCount : MethodName := ⟨RX4, "madeCount", "()I"⟩
abbrev cX4_headForm : ByteArray := prog_6_method_4_code
def yX4_headForm : MethodName := ⟨RX4, "headForm", "(I)I"⟩
abbrev cX4_nextPlace : ByteArray := prog_6_method_5_code
def yX4_nextPlace : MethodName := ⟨RX4, "nextPlace", "(I)I"⟩
abbrev cX4_areSame : ByteArray := prog_6_method_6_code
def yX4_areSame : MethodName := ⟨RX4, "areSame", "(II)Z"⟩
abbrev cX4_valueOf : ByteArray := prog_6_method_7_code
def yX4_valueOf : MethodName := ⟨RX4, "valueOf", "([I)I"⟩
abbrev cX4_mayBeSame : ByteArray := prog_6_method_8_code
def yX4_mayBeSame : MethodName := ⟨RX4, "mayBeSame", "(II)Z"⟩
abbrev cX4_openParts : ByteArray := prog_6_method_9_code
def yX4_openParts : MethodName := ⟨RX4, "openParts", "(II)V"⟩
abbrev cX4_open : ByteArray := prog_6_method_10_code
def yX4_open : MethodName := ⟨RX4, "open", "(II)V"⟩
def RX5 : String := "TermJudge"
def TX5 : u_T := fun k => match k with
  | 0 => ("TermJudge", "nodes", "LTermJudge$Nodes;", true)
  | 1 => ("TermJudge", "known", "LTermJudge$Constants;", true)
  | 2 => ("TermJudge", "reducer", "LTermJudge$Reducer;", true)
  | 3 => ("TermJudge", "finder", "LTermJudge$Finder;", true)
  | 4 => ("TermJudge", "result", "LTermJudge$Marks;", true)
  | _ => ("TermJudge", "foundType", "LTermJudge$Marks;", true)
def tyX5 : Nat → FieldType := fun k => match k with
  | 0 => .object "TermJudge$Nodes"
  | 1 => .object "TermJudge$Constants"
  | 2 => .object "TermJudge$Reducer"
  | 3 => .object "TermJudge$Finder"
  | 4 => .object "TermJudge$Marks"
  | _ => .object "TermJudge$Marks"
abbrev wsX50 : List Cond := u_ws RX5 TX5 6
theorem nmX5 : ∀ a, a < 6 → ∀ b, b < 6 → a ≠ b → (TX5 a).2.1 ≠ (TX5 b).2.1 := by decide +kernel
theorem tyX5_ok : ∀ k, k < 6 → parseFieldDescriptor (TX5 k).2.2.1 = some (tyX5 k) := by decide +kernel
abbrev cX5_init : ByteArray := prog_1_method_1_code
def yX5_init : MethodName := ⟨RX5, "<init>", "()V"⟩
abbrev cX5_make : ByteArray := prog_1_method_2_code
def yX5_make : MethodName := ⟨RX5, "make", "(III)I"⟩
abbrev cX5_terms : ByteArray := prog_1_method_3_code
def yX5_terms : MethodName := ⟨RX5, "terms", "()I"⟩
abbrev cX5_infer : ByteArray := prog_1_method_5_code
def yX5_infer : MethodName := ⟨RX5, "infer", "(II)I"⟩
abbrev cX5_reduce : ByteArray := prog_1_method_6_code
def yX5_reduce : MethodName := ⟨RX5, "reduce", "(II)I"⟩
abbrev cX5_same : ByteArray := prog_1_method_7_code
def yX5_same : MethodName := ⟨RX5, "same", "(III)Z"⟩
abbrev cX5_check : ByteArray := prog_1_method_8_code
def yX5_check : MethodName := ⟨RX5, "check", "(III)Z"⟩
abbrev cX5_declare : ByteArray := prog_1_method_9_code
def yX5_declare : MethodName := ⟨RX5, "declare", "(II)I"⟩
abbrev cX5_define : ByteArray := prog_1_method_10_code
def yX5_define : MethodName := ⟨RX5, "define", "(II)I"⟩
abbrev cX5_constants : ByteArray := prog_1_method_11_code
def yX5_constants : MethodName := ⟨RX5, "constants", "()I"⟩
abbrev cX5_hasBody : ByteArray := prog_1_method_12_code
def yX5_hasBody : MethodName := ⟨RX5, "hasBody", "(I)Z"⟩
abbrev cX5_typeOf : ByteArray := prog_1_method_13_code
def yX5_typeOf : MethodName := ⟨RX5, "typeOf", "(I)I"⟩
abbrev cX5_keep : ByteArray := prog_1_method_15_code
def yX5_keep : MethodName := ⟨RX5, "keep", "()I"⟩
abbrev cX5_reduced : ByteArray := prog_1_method_16_code
def yX5_reduced : MethodName := ⟨RX5, "reduced", "()I"⟩
abbrev cX5_hasParts : ByteArray := prog_1_method_17_code
def yX5_hasParts : MethodName := ⟨RX5, "hasParts", "(I)Z"⟩
abbrev cX5_mayBeMade : ByteArray := prog_1_method_18_code
def yX5_mayBeMade : MethodName := ⟨RX5, "mayBeMade", "(III)Z"⟩
abbrev cX5_begin : ByteArray := prog_1_method_19_code
def yX5_begin : MethodName := ⟨RX5, "begin", "(III)V"⟩
abbrev cX5_refuseUnlooked : ByteArray := prog_1_method_20_code
def yX5_refuseUnlooked : MethodName := ⟨RX5, "refuseUnlooked", "()I"⟩
abbrev cX5_lasting : ByteArray := prog_1_method_21_code
def yX5_lasting : MethodName := ⟨RX5, "lasting", "(LTermJudge$Marks;)I"⟩
def RX6 : String := "TermJudgeModel"
def TX6 : u_T := fun k => match k with
  | _ => ("", "", "", false)
def tyX6 : Nat → FieldType := fun k => match k with
  | _ => .int
abbrev wsX60 : List Cond := u_ws RX6 TX6 0
theorem nmX6 : ∀ a, a < 0 → ∀ b, b < 0 → a ≠ b → (TX6 a).2.1 ≠ (TX6 b).2.1 := by decide +kernel
theorem tyX6_ok : ∀ k, k < 0 → parseFieldDescriptor (TX6 k).2.2.1 = some (tyX6 k) := by decide +kernel
def RJx145de : String := "java/io/Serializable"
def TJx145de : u_T := fun k => match k with
  | _ => ("", "", "", false)
def tyJx145de : Nat → FieldType := fun k => match k with
  | _ => .int
abbrev wsJx145de0 : List Cond := u_ws RJx145de TJx145de 0
theorem nmJx145de : ∀ a, a < 0 → ∀ b, b < 0 → a ≠ b → (TJx145de a).2.1 ≠ (TJx145de b).2.1 := by decide +kernel
theorem tyJx145de_ok : ∀ k, k < 0 → parseFieldDescriptor (TJx145de k).2.2.1 = some (tyJx145de k) := by decide +kernel
def RJx8e188 : String := "java/lang/Cloneable"
def TJx8e188 : u_T := fun k => match k with
  | _ => ("", "", "", false)
def tyJx8e188 : Nat → FieldType := fun k => match k with
  | _ => .int
abbrev wsJx8e1880 : List Cond := u_ws RJx8e188 TJx8e188 0
theorem nmJx8e188 : ∀ a, a < 0 → ∀ b, b < 0 → a ≠ b → (TJx8e188 a).2.1 ≠ (TJx8e188 b).2.1 := by decide +kernel
theorem tyJx8e188_ok : ∀ k, k < 0 → parseFieldDescriptor (TJx8e188 k).2.2.1 = some (tyJx8e188 k) := by decide +kernel
def RJ9 : String := "java/lang/Math"
def TJ9 : u_T := fun k => match k with
  | _ => ("", "", "", false)
def tyJ9 : Nat → FieldType := fun k => match k with
  | _ => .int
abbrev wsJ90 : List Cond := u_ws RJ9 TJ9 0
theorem nmJ9 : ∀ a, a < 0 → ∀ b, b < 0 → a ≠ b → (TJ9 a).2.1 ≠ (TJ9 b).2.1 := by decide +kernel
theorem tyJ9_ok : ∀ k, k < 0 → parseFieldDescriptor (TJ9 k).2.2.1 = some (tyJ9 k) := by decide +kernel
abbrev cJ9_max_7cf53 : ByteArray := prog_13_method_65_code
def yJ9_max_7cf53 : MethodName := ⟨RJ9, "max", "(II)I"⟩
abbrev cJ9_min_7cf53 : ByteArray := prog_13_method_69_code
def yJ9_min_7cf53 : MethodName := ⟨RJ9, "min", "(II)I"⟩
def RJ0 : String := "java/lang/String"
def TJ0 : u_T := fun k => match k with
  | _ => ("", "", "", false)
def tyJ0 : Nat → FieldType := fun k => match k with
  | _ => .int
abbrev wsJ00 : List Cond := u_ws RJ0 TJ0 0
theorem nmJ0 : ∀ a, a < 0 → ∀ b, b < 0 → a ≠ b → (TJ0 a).2.1 ≠ (TJ0 b).2.1 := by decide +kernel
theorem tyJ0_ok : ∀ k, k < 0 → parseFieldDescriptor (TJ0 k).2.2.1 = some (tyJ0 k) := by decide +kernel
def RJ10 : String := "java/lang/System"
def TJ10 : u_T := fun k => match k with
  | _ => ("", "", "", false)
def tyJ10 : Nat → FieldType := fun k => match k with
  | _ => .int
abbrev wsJ100 : List Cond := u_ws RJ10 TJ10 0
theorem nmJ10 : ∀ a, a < 0 → ∀ b, b < 0 → a ≠ b → (TJ10 a).2.1 ≠ (TJ10 b).2.1 := by decide +kernel
theorem tyJ10_ok : ∀ k, k < 0 → parseFieldDescriptor (TJ10 k).2.2.1 = some (tyJ10 k) := by decide +kernel
def RJ7 : String := "java/util/Arrays"
def TJ7 : u_T := fun k => match k with
  | _ => ("", "", "", false)
def tyJ7 : Nat → FieldType := fun k => match k with
  | _ => .int
abbrev wsJ70 : List Cond := u_ws RJ7 TJ7 0
theorem nmJ7 : ∀ a, a < 0 → ∀ b, b < 0 → a ≠ b → (TJ7 a).2.1 ≠ (TJ7 b).2.1 := by decide +kernel
theorem tyJ7_ok : ∀ k, k < 0 → parseFieldDescriptor (TJ7 k).2.2.1 = some (tyJ7 k) := by decide +kernel
abbrev cJ7_copyOf_59c91 : ByteArray := prog_19_method_123_code
def yJ7_copyOf_59c91 : MethodName := ⟨RJ7, "copyOf", "([II)[I"⟩
def RL : String := "TermJudgeLaw"
abbrev cL_infer : ByteArray := method_2_code
def yL_infer : MethodName := ⟨RL, "infer", "(LTermJudge;II)I"⟩
abbrev cL_reduce : ByteArray := method_3_code
def yL_reduce : MethodName := ⟨RL, "reduce", "(LTermJudge;II)I"⟩
abbrev cL_same : ByteArray := method_4_code
def yL_same : MethodName := ⟨RL, "same", "(LTermJudge;III)I"⟩
abbrev cL_check : ByteArray := method_5_code
def yL_check : MethodName := ⟨RL, "check", "(LTermJudge;III)I"⟩
abbrev cL_declare : ByteArray := method_6_code
def yL_declare : MethodName := ⟨RL, "declare", "(LTermJudge;II)I"⟩
abbrev cL_define : ByteArray := method_7_code
def yL_define : MethodName := ⟨RL, "define", "(LTermJudge;II)I"⟩
abbrev cL_world : ByteArray := method_8_code
def yL_world : MethodName := ⟨RL, "world", "(LTermJudge;)I"⟩
abbrev cL_law : ByteArray := code
def yL_law : MethodName := ⟨RL, "law", "([I)Z"⟩
abbrev cL_pick : ByteArray := method_10_code
def yL_pick : MethodName := ⟨RL, "pick", "(II)I"⟩
abbrev vwCl : List vw_C := [(RX0, TX0, 3), (RX1, TX1, 5), (RX2, TX2, 3), (RX3, TX3, 8), (RX4, TX4, 7), (RX5, TX5, 6)]
/-! ===== the machine as tables: methods by number ===== -/
abbrev am_I : Type := Instr × Nat × Nat × Nat
-- 0 TermJudge$Constants.<init>()V
-- 1 TermJudge$Constants.count()I
-- 2 TermJudge$Constants.isFull()Z
-- 3 TermJudge$Constants.isThere(I)Z
-- 4 TermJudge$Constants.typeAt(I)I
-- 5 TermJudge$Constants.bodyAt(I)I
-- 6 TermJudge$Constants.add(II)I
-- 7 TermJudge$Finder.<init>(LTermJudge$Nodes;LTermJudge$Constants;LTermJudge$Reducer;)V
-- 8 TermJudge$Finder.forgetTypes()V
-- 9 TermJudge$Finder.typeFound(I)I
-- 10 TermJudge$Finder.levelOf(I)I
-- 11 TermJudge$Finder.typeOfVariable(I)I
-- 12 TermJudge$Finder.typeOfPi(II)I
-- 13 TermJudge$Finder.typeOfFunction(II)I
-- 14 TermJudge$Finder.typeOfApplication(II)I
-- 15 TermJudge$Finder.open(I)V
-- 16 TermJudge$Finder.notTooMuch(I)I
-- 17 TermJudge$Marks.<init>()V
-- 18 TermJudge$Marks.isEmpty()Z
-- 19 TermJudge$Marks.at(I)I
-- 20 TermJudge$Marks.hasTooGreat(I)Z
-- 21 TermJudge$Marks.write(LTermJudge$Nodes;I)I
-- 22 TermJudge$Marks.writeNode(LTermJudge$Nodes;I)V
-- 23 TermJudge$Marks.read(LTermJudge$Nodes;Z)I
-- 24 TermJudge$Marks.readNode(LTermJudge$Nodes;Z)I
-- 25 TermJudge$Nodes.<init>()V
-- 26 TermJudge$Nodes.termCount()I
-- 27 TermJudge$Nodes.isTerm(I)Z
-- 28 TermJudge$Nodes.kindOf(I)I
-- 29 TermJudge$Nodes.leftOf(I)I
-- 30 TermJudge$Nodes.rightOf(I)I
-- 31 TermJudge$Nodes.sizeOf(I)I
-- 32 TermJudge$Nodes.depthOf(I)I
-- 33 TermJudge$Nodes.mayJoin(II)Z
-- 34 TermJudge$Nodes.isTooMuch(I)Z
-- 35 TermJudge$Nodes.addTerm(III)I
-- 36 TermJudge$Nodes.termLike(III)I
-- 37 TermJudge$Nodes.cutTerms(I)V
-- 38 TermJudge$Nodes.add(III)I
-- 39 TermJudge$Nodes.fill(IIII)V
-- 40 TermJudge$Nodes.grow()V
-- 41 TermJudge$Nodes.dropPassing()V
-- 42 TermJudge$Nodes.keepPassing()V
-- 43 TermJudge$Nodes.changed(IIII)I
-- 44 TermJudge$Nodes.withHead(III)I
-- 45 TermJudge$Reducer.<init>(LTermJudge$Nodes;LTermJudge$Constants;)V
-- 46 TermJudge$Reducer.refuel(I)V
-- 47 TermJudge$Reducer.madeCount()I
-- 48 TermJudge$Reducer.headForm(I)I
-- 49 TermJudge$Reducer.nextPlace(I)I
-- 50 TermJudge$Reducer.areSame(II)Z
-- 51 TermJudge$Reducer.valueOf([I)I
-- 52 TermJudge$Reducer.mayBeSame(II)Z
-- 53 TermJudge$Reducer.openParts(II)V
-- 54 TermJudge$Reducer.open(II)V
-- 55 TermJudge.<init>()V
-- 56 TermJudge.make(III)I
-- 57 TermJudge.terms()I
-- 58 TermJudge.infer(II)I
-- 59 TermJudge.reduce(II)I
-- 60 TermJudge.same(III)Z
-- 61 TermJudge.check(III)Z
-- 62 TermJudge.declare(II)I
-- 63 TermJudge.define(II)I
-- 64 TermJudge.constants()I
-- 65 TermJudge.hasBody(I)Z
-- 66 TermJudge.typeOf(I)I
-- 67 TermJudge.keep()I
-- 68 TermJudge.reduced()I
-- 69 TermJudge.hasParts(I)Z
-- 70 TermJudge.mayBeMade(III)Z
-- 71 TermJudge.begin(III)V
-- 72 TermJudge.refuseUnlooked()I
-- 73 TermJudge.lasting(LTermJudge$Marks;)I
-- 74 TermJudgeLaw.infer(LTermJudge;II)I
-- 75 TermJudgeLaw.reduce(LTermJudge;II)I
-- 76 TermJudgeLaw.same(LTermJudge;III)I
-- 77 TermJudgeLaw.check(LTermJudge;III)I
-- 78 TermJudgeLaw.declare(LTermJudge;II)I
-- 79 TermJudgeLaw.define(LTermJudge;II)I
-- 80 TermJudgeLaw.world(LTermJudge;)I
-- 81 TermJudgeLaw.law([I)Z
-- 82 TermJudgeLaw.pick(II)I
def am_y : Nat → MethodName := fun k => match k with
  | 0 => yX0_init
  | 1 => yX0_count
  | 2 => yX0_isFull
  | 3 => yX0_isThere
  | 4 => yX0_typeAt
  | 5 => yX0_bodyAt
  | 6 => yX0_add
  | 7 => yX1_init
  | 8 => yX1_forgetTypes
  | 9 => yX1_typeFound
  | 10 => yX1_levelOf
  | 11 => yX1_typeOfVariable
  | 12 => yX1_typeOfPi
  | 13 => yX1_typeOfFunction
  | 14 => yX1_typeOfApplication
  | 15 => yX1_open
  | 16 => yX1_notTooMuch
  | 17 => yX2_init
  | 18 => yX2_isEmpty
  | 19 => yX2_at
  | 20 => yX2_hasTooGreat
  | 21 => yX2_write
  | 22 => yX2_writeNode
  | 23 => yX2_read
  | 24 => yX2_readNode
  | 25 => yX3_init
  | 26 => yX3_termCount
  | 27 => yX3_isTerm
  | 28 => yX3_kindOf
  | 29 => yX3_leftOf
  | 30 => yX3_rightOf
  | 31 => yX3_sizeOf
  | 32 => yX3_depthOf
  | 33 => yX3_mayJoin
  | 34 => yX3_isTooMuch
  | 35 => yX3_addTerm
  | 36 => yX3_termLike
  | 37 => yX3_cutTerms
  | 38 => yX3_add
  | 39 => yX3_fill
  | 40 => yX3_grow
  | 41 => yX3_dropPassing
  | 42 => yX3_keepPassing
  | 43 => yX3_changed
  | 44 => yX3_withHead
  | 45 => yX4_init
  | 46 => yX4_refuel
  | 47 => yX4_madeCount
  | 48 => yX4_headForm
  | 49 => yX4_nextPlace
  | 50 => yX4_areSame
  | 51 => yX4_valueOf
  | 52 => yX4_mayBeSame
  | 53 => yX4_openParts
  | 54 => yX4_open
  | 55 => yX5_init
  | 56 => yX5_make
  | 57 => yX5_terms
  | 58 => yX5_infer
  | 59 => yX5_reduce
  | 60 => yX5_same
  | 61 => yX5_check
  | 62 => yX5_declare
  | 63 => yX5_define
  | 64 => yX5_constants
  | 65 => yX5_hasBody
  | 66 => yX5_typeOf
  | 67 => yX5_keep
  | 68 => yX5_reduced
  | 69 => yX5_hasParts
  | 70 => yX5_mayBeMade
  | 71 => yX5_begin
  | 72 => yX5_refuseUnlooked
  | 73 => yX5_lasting
  | 74 => yL_infer
  | 75 => yL_reduce
  | 76 => yL_same
  | 77 => yL_check
  | 78 => yL_declare
  | 79 => yL_define
  | 80 => yL_world
  | 81 => yL_law
  | 82 => yL_pick
  | _ => yL_law
def am_b : Nat → ByteArray := fun k => match k with
  | 0 => cX0_init
  | 1 => cX0_count
  | 2 => cX0_isFull
  | 3 => cX0_isThere
  | 4 => cX0_typeAt
  | 5 => cX0_bodyAt
  | 6 => cX0_add
  | 7 => cX1_init
  | 8 => cX1_forgetTypes
  | 9 => cX1_typeFound
  | 10 => cX1_levelOf
  | 11 => cX1_typeOfVariable
  | 12 => cX1_typeOfPi
  | 13 => cX1_typeOfFunction
  | 14 => cX1_typeOfApplication
  | 15 => cX1_open
  | 16 => cX1_notTooMuch
  | 17 => cX2_init
  | 18 => cX2_isEmpty
  | 19 => cX2_at
  | 20 => cX2_hasTooGreat
  | 21 => cX2_write
  | 22 => cX2_writeNode
  | 23 => cX2_read
  | 24 => cX2_readNode
  | 25 => cX3_init
  | 26 => cX3_termCount
  | 27 => cX3_isTerm
  | 28 => cX3_kindOf
  | 29 => cX3_leftOf
  | 30 => cX3_rightOf
  | 31 => cX3_sizeOf
  | 32 => cX3_depthOf
  | 33 => cX3_mayJoin
  | 34 => cX3_isTooMuch
  | 35 => cX3_addTerm
  | 36 => cX3_termLike
  | 37 => cX3_cutTerms
  | 38 => cX3_add
  | 39 => cX3_fill
  | 40 => cX3_grow
  | 41 => cX3_dropPassing
  | 42 => cX3_keepPassing
  | 43 => cX3_changed
  | 44 => cX3_withHead
  | 45 => cX4_init
  | 46 => cX4_refuel
  | 47 => cX4_madeCount
  | 48 => cX4_headForm
  | 49 => cX4_nextPlace
  | 50 => cX4_areSame
  | 51 => cX4_valueOf
  | 52 => cX4_mayBeSame
  | 53 => cX4_openParts
  | 54 => cX4_open
  | 55 => cX5_init
  | 56 => cX5_make
  | 57 => cX5_terms
  | 58 => cX5_infer
  | 59 => cX5_reduce
  | 60 => cX5_same
  | 61 => cX5_check
  | 62 => cX5_declare
  | 63 => cX5_define
  | 64 => cX5_constants
  | 65 => cX5_hasBody
  | 66 => cX5_typeOf
  | 67 => cX5_keep
  | 68 => cX5_reduced
  | 69 => cX5_hasParts
  | 70 => cX5_mayBeMade
  | 71 => cX5_begin
  | 72 => cX5_refuseUnlooked
  | 73 => cX5_lasting
  | 74 => cL_infer
  | 75 => cL_reduce
  | 76 => cL_same
  | 77 => cL_check
  | 78 => cL_declare
  | 79 => cL_define
  | 80 => cL_world
  | 81 => cL_law
  | 82 => cL_pick
  | _ => cL_law
def am_ml : Nat → Nat := fun k => match k with
  | 0 => 1
  | 1 => 1
  | 2 => 1
  | 3 => 2
  | 4 => 2
  | 5 => 2
  | 6 => 3
  | 7 => 4
  | 8 => 1
  | 9 => 4
  | 10 => 3
  | 11 => 3
  | 12 => 5
  | 13 => 4
  | 14 => 4
  | 15 => 2
  | 16 => 2
  | 17 => 1
  | 18 => 1
  | 19 => 2
  | 20 => 3
  | 21 => 3
  | 22 => 4
  | 23 => 3
  | 24 => 7
  | 25 => 1
  | 26 => 1
  | 27 => 2
  | 28 => 2
  | 29 => 2
  | 30 => 2
  | 31 => 2
  | 32 => 2
  | 33 => 3
  | 34 => 2
  | 35 => 4
  | 36 => 5
  | 37 => 2
  | 38 => 4
  | 39 => 6
  | 40 => 2
  | 41 => 1
  | 42 => 1
  | 43 => 10
  | 44 => 4
  | 45 => 3
  | 46 => 2
  | 47 => 1
  | 48 => 8
  | 49 => 6
  | 50 => 6
  | 51 => 2
  | 52 => 4
  | 53 => 3
  | 54 => 3
  | 55 => 1
  | 56 => 4
  | 57 => 1
  | 58 => 3
  | 59 => 3
  | 60 => 4
  | 61 => 4
  | 62 => 3
  | 63 => 3
  | 64 => 1
  | 65 => 2
  | 66 => 2
  | 67 => 3
  | 68 => 1
  | 69 => 1
  | 70 => 4
  | 71 => 4
  | 72 => 1
  | 73 => 3
  | 74 => 4
  | 75 => 4
  | 76 => 5
  | 77 => 5
  | 78 => 4
  | 79 => 4
  | 80 => 2
  | 81 => 19
  | 82 => 3
  | _ => 0
def am_rt : Nat → Option FieldType := fun k => match k with
  | 0 => none
  | 1 => some .int
  | 2 => some .boolean
  | 3 => some .boolean
  | 4 => some .int
  | 5 => some .int
  | 6 => some .int
  | 7 => none
  | 8 => none
  | 9 => some .int
  | 10 => some .int
  | 11 => some .int
  | 12 => some .int
  | 13 => some .int
  | 14 => some .int
  | 15 => none
  | 16 => some .int
  | 17 => none
  | 18 => some .boolean
  | 19 => some .int
  | 20 => some .boolean
  | 21 => some .int
  | 22 => none
  | 23 => some .int
  | 24 => some .int
  | 25 => none
  | 26 => some .int
  | 27 => some .boolean
  | 28 => some .int
  | 29 => some .int
  | 30 => some .int
  | 31 => some .int
  | 32 => some .int
  | 33 => some .boolean
  | 34 => some .boolean
  | 35 => some .int
  | 36 => some .int
  | 37 => none
  | 38 => some .int
  | 39 => none
  | 40 => none
  | 41 => none
  | 42 => none
  | 43 => some .int
  | 44 => some .int
  | 45 => none
  | 46 => none
  | 47 => some .int
  | 48 => some .int
  | 49 => some .int
  | 50 => some .boolean
  | 51 => some .int
  | 52 => some .boolean
  | 53 => none
  | 54 => none
  | 55 => none
  | 56 => some .int
  | 57 => some .int
  | 58 => some .int
  | 59 => some .int
  | 60 => some .boolean
  | 61 => some .boolean
  | 62 => some .int
  | 63 => some .int
  | 64 => some .int
  | 65 => some .boolean
  | 66 => some .int
  | 67 => some .int
  | 68 => some .int
  | 69 => some .boolean
  | 70 => some .boolean
  | 71 => none
  | 72 => some .int
  | 73 => some .int
  | 74 => some .int
  | 75 => some .int
  | 76 => some .int
  | 77 => some .int
  | 78 => some .int
  | 79 => some .int
  | 80 => some .int
  | 81 => some .boolean
  | 82 => some .int
  | _ => none
def am_own : Nat → String := fun k => match k with
  | 0 => RX0
  | 1 => RX0
  | 2 => RX0
  | 3 => RX0
  | 4 => RX0
  | 5 => RX0
  | 6 => RX0
  | 7 => RX1
  | 8 => RX1
  | 9 => RX1
  | 10 => RX1
  | 11 => RX1
  | 12 => RX1
  | 13 => RX1
  | 14 => RX1
  | 15 => RX1
  | 16 => RX1
  | 17 => RX2
  | 18 => RX2
  | 19 => RX2
  | 20 => RX2
  | 21 => RX2
  | 22 => RX2
  | 23 => RX2
  | 24 => RX2
  | 25 => RX3
  | 26 => RX3
  | 27 => RX3
  | 28 => RX3
  | 29 => RX3
  | 30 => RX3
  | 31 => RX3
  | 32 => RX3
  | 33 => RX3
  | 34 => RX3
  | 35 => RX3
  | 36 => RX3
  | 37 => RX3
  | 38 => RX3
  | 39 => RX3
  | 40 => RX3
  | 41 => RX3
  | 42 => RX3
  | 43 => RX3
  | 44 => RX3
  | 45 => RX4
  | 46 => RX4
  | 47 => RX4
  | 48 => RX4
  | 49 => RX4
  | 50 => RX4
  | 51 => RX4
  | 52 => RX4
  | 53 => RX4
  | 54 => RX4
  | 55 => RX5
  | 56 => RX5
  | 57 => RX5
  | 58 => RX5
  | 59 => RX5
  | 60 => RX5
  | 61 => RX5
  | 62 => RX5
  | 63 => RX5
  | 64 => RX5
  | 65 => RX5
  | 66 => RX5
  | 67 => RX5
  | 68 => RX5
  | 69 => RX5
  | 70 => RX5
  | 71 => RX5
  | 72 => RX5
  | 73 => RX5
  | 74 => RL
  | 75 => RL
  | 76 => RL
  | 77 => RL
  | 78 => RL
  | 79 => RL
  | 80 => RL
  | 81 => RL
  | 82 => RL
  | _ => RL
def am_hh : Nat → List (Nat × Nat × Nat × Nat) := fun k => match k with
  | 74 => [(0, 6, 7, 13), (0, 6, 10, 15), (0, 6, 14, 17)]
  | 75 => [(0, 6, 7, 13), (0, 6, 10, 17)]
  | 76 => [(0, 15, 16, 13), (0, 15, 20, 17)]
  | 77 => [(0, 15, 16, 13), (0, 15, 20, 15), (0, 15, 25, 17)]
  | 78 => [(0, 6, 7, 13), (0, 6, 11, 15), (0, 6, 15, 17)]
  | 79 => [(0, 6, 7, 13), (0, 6, 11, 15), (0, 6, 15, 17)]
  | _ => []
def am_mz : Nat → Nat × Nat × Nat × Nat := fun k => match k with
  | 0 => (80, 79, 0, 23)
  | 1 => (234, 232, 233, 23)
  | 2 => (607, 605, 606, 23)
  | 3 => (188, 186, 187, 23)
  | 4 => (251, 249, 250, 23)
  | 5 => (242, 240, 241, 23)
  | 6 => (623, 621, 622, 23)
  | 7 => (124, 123, 0, 25)
  | 8 => (451, 449, 450, 25)
  | 9 => (455, 453, 454, 25)
  | 10 => (496, 494, 495, 25)
  | 11 => (462, 461, 7, 25)
  | 12 => (491, 490, 8, 25)
  | 13 => (536, 535, 11, 25)
  | 14 => (546, 545, 13, 25)
  | 15 => (528, 527, 10, 25)
  | 16 => (540, 539, 12, 25)
  | 17 => (146, 145, 0, 26)
  | 18 => (280, 278, 279, 26)
  | 19 => (288, 286, 287, 26)
  | 20 => (284, 282, 283, 26)
  | 21 => (255, 253, 254, 26)
  | 22 => (259, 258, 2, 26)
  | 23 => (292, 290, 291, 26)
  | 24 => (296, 295, 3, 26)
  | 25 => (48, 47, 0, 22)
  | 26 => (226, 224, 225, 22)
  | 27 => (195, 193, 194, 22)
  | 28 => (263, 261, 262, 22)
  | 29 => (268, 266, 267, 22)
  | 30 => (272, 270, 271, 22)
  | 31 => (203, 201, 202, 22)
  | 32 => (207, 205, 206, 22)
  | 33 => (199, 197, 198, 22)
  | 34 => (521, 519, 520, 22)
  | 35 => (214, 212, 213, 22)
  | 36 => (300, 298, 299, 22)
  | 37 => (401, 399, 400, 22)
  | 38 => (308, 306, 307, 22)
  | 39 => (218, 217, 1, 22)
  | 40 => (312, 311, 4, 22)
  | 41 => (443, 441, 442, 22)
  | 42 => (619, 617, 618, 22)
  | 43 => (482, 480, 481, 22)
  | 44 => (516, 514, 515, 22)
  | 45 => (96, 95, 0, 24)
  | 46 => (447, 445, 446, 24)
  | 47 => (409, 407, 408, 24)
  | 48 => (500, 498, 499, 24)
  | 49 => (504, 503, 9, 24)
  | 50 => (551, 549, 550, 24)
  | 51 => (561, 560, 15, 24)
  | 52 => (566, 565, 16, 24)
  | 53 => (571, 570, 17, 24)
  | 54 => (555, 554, 14, 24)
  | 55 => (40, 39, 0, 21)
  | 56 => (180, 178, 179, 21)
  | 57 => (222, 220, 221, 21)
  | 58 => (419, 417, 418, 21)
  | 59 => (579, 577, 578, 21)
  | 60 => (587, 585, 586, 21)
  | 61 => (595, 593, 594, 21)
  | 62 => (633, 631, 632, 21)
  | 63 => (603, 601, 602, 21)
  | 64 => (230, 228, 229, 21)
  | 65 => (238, 236, 237, 21)
  | 66 => (247, 245, 246, 21)
  | 67 => (276, 274, 275, 21)
  | 68 => (405, 403, 404, 21)
  | 69 => (191, 190, 0, 21)
  | 70 => (184, 183, 0, 21)
  | 71 => (423, 422, 6, 21)
  | 72 => (611, 610, 18, 21)
  | 73 => (615, 614, 19, 21)
  | 74 => (412, 411, 0, 20)
  | 75 => (575, 574, 0, 20)
  | 76 => (583, 582, 0, 20)
  | 77 => (591, 590, 0, 20)
  | 78 => (629, 628, 0, 20)
  | 79 => (599, 598, 0, 20)
  | 80 => (626, 625, 0, 20)
  | 82 => (636, 635, 0, 20)
  | _ => (0, 0, 0, 0)
def am_na : Nat → Nat := fun k => match k with
  | 0 => 0
  | 1 => 0
  | 2 => 0
  | 3 => 1
  | 4 => 1
  | 5 => 1
  | 6 => 2
  | 7 => 3
  | 8 => 0
  | 9 => 1
  | 10 => 1
  | 11 => 1
  | 12 => 2
  | 13 => 2
  | 14 => 2
  | 15 => 1
  | 16 => 1
  | 17 => 0
  | 18 => 0
  | 19 => 1
  | 20 => 1
  | 21 => 2
  | 22 => 2
  | 23 => 2
  | 24 => 2
  | 25 => 0
  | 26 => 0
  | 27 => 1
  | 28 => 1
  | 29 => 1
  | 30 => 1
  | 31 => 1
  | 32 => 1
  | 33 => 2
  | 34 => 1
  | 35 => 3
  | 36 => 3
  | 37 => 1
  | 38 => 3
  | 39 => 4
  | 40 => 0
  | 41 => 0
  | 42 => 0
  | 43 => 4
  | 44 => 3
  | 45 => 2
  | 46 => 1
  | 47 => 0
  | 48 => 1
  | 49 => 1
  | 50 => 2
  | 51 => 1
  | 52 => 2
  | 53 => 2
  | 54 => 2
  | 55 => 0
  | 56 => 3
  | 57 => 0
  | 58 => 2
  | 59 => 2
  | 60 => 3
  | 61 => 3
  | 62 => 2
  | 63 => 2
  | 64 => 0
  | 65 => 1
  | 66 => 1
  | 67 => 0
  | 68 => 0
  | 69 => 1
  | 70 => 3
  | 71 => 3
  | 72 => 0
  | 73 => 1
  | 74 => 3
  | 75 => 3
  | 76 => 4
  | 77 => 4
  | 78 => 3
  | 79 => 3
  | 80 => 1
  | 81 => 1
  | 82 => 2
  | _ => 0
def am_oc : Nat → Nat := fun k => match k with
  | 0 => 0
  | 1 => 0
  | 2 => 0
  | 3 => 0
  | 4 => 0
  | 5 => 0
  | 6 => 0
  | 7 => 1
  | 8 => 1
  | 9 => 1
  | 10 => 1
  | 11 => 1
  | 12 => 1
  | 13 => 1
  | 14 => 1
  | 15 => 1
  | 16 => 1
  | 17 => 2
  | 18 => 2
  | 19 => 2
  | 20 => 2
  | 21 => 2
  | 22 => 2
  | 23 => 2
  | 24 => 2
  | 25 => 3
  | 26 => 3
  | 27 => 3
  | 28 => 3
  | 29 => 3
  | 30 => 3
  | 31 => 3
  | 32 => 3
  | 33 => 3
  | 34 => 3
  | 35 => 3
  | 36 => 3
  | 37 => 3
  | 38 => 3
  | 39 => 3
  | 40 => 3
  | 41 => 3
  | 42 => 3
  | 43 => 3
  | 44 => 3
  | 45 => 4
  | 46 => 4
  | 47 => 4
  | 48 => 4
  | 49 => 4
  | 50 => 4
  | 51 => 4
  | 52 => 4
  | 53 => 4
  | 54 => 4
  | 55 => 5
  | 56 => 5
  | 57 => 5
  | 58 => 5
  | 59 => 5
  | 60 => 5
  | 61 => 5
  | 62 => 5
  | 63 => 5
  | 64 => 5
  | 65 => 5
  | 66 => 5
  | 67 => 5
  | 68 => 5
  | 69 => 5
  | 70 => 5
  | 71 => 5
  | 72 => 5
  | 73 => 5
  | _ => 99
def am_T : Nat → u_T := fun k => match k with
  | 0 => TX0
  | 1 => TX1
  | 2 => TX2
  | 3 => TX3
  | 4 => TX4
  | 5 => TX5
  | _ => TX0
def am_C : Nat → String := fun k => match k with
  | 0 => RX0
  | 1 => RX1
  | 2 => RX2
  | 3 => RX3
  | 4 => RX4
  | 5 => RX5
  | _ => RL
def am_N : Nat → Nat := fun k => match k with
  | 0 => 3
  | 1 => 5
  | 2 => 3
  | 3 => 8
  | 4 => 7
  | 5 => 6
  | _ => 0
def am_ty : Nat → Nat → FieldType := fun k => match k with
  | 0 => tyX0
  | 1 => tyX1
  | 2 => tyX2
  | 3 => tyX3
  | 4 => tyX4
  | 5 => tyX5
  | _ => tyX0
def am_df : Nat → List Value := fun k => match k with
  | 0 => [.null, .null, .int 0]
  | 1 => [.null, .null, .null, .null, .int 0]
  | 2 => [.null, .int 0, .int 0]
  | 3 => [.null, .null, .null, .null, .null, .int 0, .int 0, .int 0]
  | 4 => [.null, .null, .null, .null, .int 0, .int 0, .int 0]
  | 5 => [.null, .null, .null, .null, .null, .null]
  | _ => []
def am_cz : Nat → Nat × Nat := fun k => match k with
  | 0 => (77, 23)
  | 1 => (121, 25)
  | 2 => (143, 26)
  | 3 => (45, 22)
  | 4 => (93, 24)
  | 5 => (37, 21)
  | _ => (0, 0)
def am_lz : Nat → List Nat := fun k => match k with
  | 0 => [85, 87, 89]
  | 1 => [131, 133, 135, 137, 139]
  | 2 => [151, 153, 155]
  | 3 => [58, 60, 62, 64, 66, 68, 70, 72]
  | 4 => [105, 107, 109, 111, 113, 115, 117]
  | 5 => [164, 166, 168, 170, 172, 174]
  | _ => []
def am_az : Nat → Nat := fun _ => 75
def am_oz : Nat × Nat := (42, 43)
def am_xz : Nat × Nat × Nat := (209, 27, 210)
def am_en : Nat → String := fun k => match k with
  | 0 => "java/lang/IllegalArgumentException"
  | 1 => "java/lang/IllegalStateException"
  | 2 => "java/lang/UnsupportedOperationException"
  | _ => ""
def am_cat : Nat → Nat := fun k => match k with
  | 13 => 0
  | 15 => 1
  | 17 => 2
  | _ => 9
def am_catz : Nat → Nat := fun k => match k with
  | 13 => 413
  | 15 => 414
  | 17 => 415
  | _ => 0
def am_c0 : List (List (Nat × am_I)) := [[(0, .aload_n 0, 0, 0, 0), (1, .invokespecial 3, 1001, 0, 81), (4, .aload_n 0, 0, 0, 0), (5, .bipush 16, 0, 0, 0), (7, .newarray .int, 0, 0, 0), (9, .putfield 9, 0, 0, 82), (12, .aload_n 0, 0, 0, 0), (13, .bipush 16, 0, 0, 0), (15, .newarray .int, 0, 0, 0), (17, .putfield 15, 0, 1, 83), (20, .aload_n 0, 0, 0, 0), (21, .iconst 0, 0, 0, 0), (22, .putfield 18, 0, 2, 84), (25, .return_, 0, 0, 0)]]
def am_c1 : List (List (Nat × am_I)) := [[(0, .aload_n 0, 0, 0, 0), (1, .getfield 18, 0, 2, 84), (4, .ireturn, 0, 0, 0)]]
def am_c2 : List (List (Nat × am_I)) := [[(0, .aload_n 0, 0, 0, 0), (1, .getfield 18, 0, 2, 84), (4, .bipush 16, 0, 0, 0), (6, .if_icmp .lt 7, 0, 0, 0), (9, .iconst 1, 0, 0, 0), (10, .goto 4, 0, 0, 0), (13, .iconst 0, 0, 0, 0), (14, .ireturn, 0, 0, 0)]]
def am_c3 : List (List (Nat × am_I)) := [[(0, .iload_n 1, 0, 0, 0), (1, .ifCond .lt 21, 0, 0, 0), (4, .iload_n 1, 0, 0, 0), (5, .aload_n 0, 0, 0, 0), (6, .getfield 18, 0, 2, 84), (9, .if_icmp .ge 13, 0, 0, 0), (12, .iload_n 1, 0, 0, 0), (13, .bipush 16, 0, 0, 0), (15, .if_icmp .ge 7, 0, 0, 0), (18, .iconst 1, 0, 0, 0), (19, .goto 4, 0, 0, 0), (22, .iconst 0, 0, 0, 0), (23, .ireturn, 0, 0, 0)]]
def am_c4 : List (List (Nat × am_I)) := [[(0, .aload_n 0, 0, 0, 0), (1, .iload_n 1, 0, 0, 0), (2, .invokevirtual 22, 3, 2, 243), (5, .ifCond .eq 12, 0, 0, 0), (8, .aload_n 0, 0, 0, 0), (9, .getfield 9, 0, 0, 82), (12, .iload_n 1, 0, 0, 0), (13, .iaload, 0, 0, 0), (14, .goto 4, 0, 0, 0), (17, .iconst (-1), 0, 0, 0), (18, .ireturn, 0, 0, 0)]]
def am_c5 : List (List (Nat × am_I)) := [[(0, .aload_n 0, 0, 0, 0), (1, .iload_n 1, 0, 0, 0), (2, .invokevirtual 22, 3, 2, 243), (5, .ifCond .eq 12, 0, 0, 0), (8, .aload_n 0, 0, 0, 0), (9, .getfield 15, 0, 1, 83), (12, .iload_n 1, 0, 0, 0), (13, .iaload, 0, 0, 0), (14, .goto 4, 0, 0, 0), (17, .iconst (-1), 0, 0, 0), (18, .ireturn, 0, 0, 0)]]
def am_c6 : List (List (Nat × am_I)) := [[(0, .aload_n 0, 0, 0, 0), (1, .getfield 18, 0, 2, 84), (4, .ifCond .lt 12, 0, 0, 0), (7, .aload_n 0, 0, 0, 0), (8, .getfield 18, 0, 2, 84), (11, .bipush 16, 0, 0, 0), (13, .if_icmp .lt 5, 0, 0, 0), (16, .iconst (-1), 0, 0, 0), (17, .ireturn, 0, 0, 0), (18, .aload_n 0, 0, 0, 0), (19, .getfield 9, 0, 0, 82), (22, .aload_n 0, 0, 0, 0), (23, .getfield 18, 0, 2, 84), (26, .iload_n 1, 0, 0, 0), (27, .iastore, 0, 0, 0), (28, .aload_n 0, 0, 0, 0), (29, .getfield 15, 0, 1, 83)],
  [(32, .aload_n 0, 0, 0, 0), (33, .getfield 18, 0, 2, 84), (36, .iload_n 2, 0, 0, 0), (37, .iastore, 0, 0, 0), (38, .aload_n 0, 0, 0, 0), (39, .dup, 0, 0, 0), (40, .getfield 18, 0, 2, 84), (43, .iconst 1, 0, 0, 0), (44, .iadd, 0, 0, 0), (45, .putfield 18, 0, 2, 84), (48, .aload_n 0, 0, 0, 0), (49, .getfield 18, 0, 2, 84), (52, .iconst 1, 0, 0, 0), (53, .isub, 0, 0, 0), (54, .ireturn, 0, 0, 0)]]
def am_c7 : List (List (Nat × am_I)) := [[(0, .aload_n 0, 0, 0, 0), (1, .invokespecial 3, 1001, 0, 125), (4, .aload_n 0, 0, 0, 0), (5, .bipush 12, 0, 0, 0), (7, .newarray .int, 0, 0, 0), (9, .putfield 9, 1, 3, 129), (12, .aload_n 0, 0, 0, 0), (13, .iconst 0, 0, 0, 0), (14, .putfield 15, 1, 4, 130), (17, .aload_n 0, 0, 0, 0), (18, .aload_n 1, 0, 0, 0), (19, .putfield 19, 1, 0, 126), (22, .aload_n 0, 0, 0, 0), (23, .aload_n 2, 0, 0, 0), (24, .putfield 23, 1, 1, 127), (27, .aload_n 0, 0, 0, 0), (28, .aload_n 3, 0, 0, 0), (29, .putfield 27, 1, 2, 128)],
  [(32, .return_, 0, 0, 0)]]
def am_c8 : List (List (Nat × am_I)) := [[(0, .aload_n 0, 0, 0, 0), (1, .iconst 0, 0, 0, 0), (2, .putfield 15, 1, 4, 130), (5, .return_, 0, 0, 0)]]
def am_c9 : List (List (Nat × am_I)) := [[(0, .aload_n 0, 0, 0, 0), (1, .getfield 19, 1, 0, 126), (4, .iload_n 1, 0, 0, 0), (5, .invokevirtual 31, 29, 2, 456), (8, .istore_n 2, 0, 0, 0), (9, .aload_n 0, 0, 0, 0), (10, .getfield 19, 1, 0, 126), (13, .iload_n 1, 0, 0, 0), (14, .invokevirtual 37, 30, 2, 457), (17, .istore_n 3, 0, 0, 0), (18, .aload_n 0, 0, 0, 0), (19, .getfield 19, 1, 0, 126), (22, .iload_n 1, 0, 0, 0), (23, .invokevirtual 40, 28, 2, 458), (26, .tableswitch 87 0 5 #[38, 44, 66, 73, 80, 57], 0, 38, 0)],
  [],
  [(64, .aload_n 0, 0, 0, 0), (65, .iload_n 2, 0, 0, 0), (66, .invokevirtual 43, 11, 2, 459), (69, .ireturn, 0, 0, 0), (70, .aload_n 0, 0, 0, 0), (71, .getfield 19, 1, 0, 126), (74, .iconst 1, 0, 0, 0), (75, .iload_n 2, 0, 0, 0), (76, .iconst 1, 0, 0, 0), (77, .iadd, 0, 0, 0), (78, .iconst (-1), 0, 0, 0), (79, .invokevirtual 46, 38, 6, 486), (82, .ireturn, 0, 0, 0), (83, .aload_n 0, 0, 0, 0), (84, .getfield 23, 1, 1, 127), (87, .iload_n 2, 0, 0, 0), (88, .invokevirtual 50, 4, 2, 487), (91, .ireturn, 0, 0, 0), (92, .aload_n 0, 0, 0, 0), (93, .iload_n 2, 0, 0, 0), (94, .iload_n 3, 0, 0, 0), (95, .invokevirtual 55, 12, 4, 488)],
  [(98, .ireturn, 0, 0, 0), (99, .aload_n 0, 0, 0, 0), (100, .iload_n 2, 0, 0, 0), (101, .iload_n 3, 0, 0, 0), (102, .invokevirtual 59, 13, 4, 533), (105, .ireturn, 0, 0, 0), (106, .aload_n 0, 0, 0, 0), (107, .iload_n 2, 0, 0, 0), (108, .iload_n 3, 0, 0, 0), (109, .invokevirtual 62, 14, 4, 543), (112, .ireturn, 0, 0, 0), (113, .iconst (-1), 0, 0, 0), (114, .ireturn, 0, 0, 0)]]
def am_c10 : List (List (Nat × am_I)) := [[(0, .aload_n 0, 0, 0, 0), (1, .getfield 27, 1, 2, 128), (4, .iload_n 1, 0, 0, 0), (5, .invokevirtual 65, 48, 2, 497), (8, .istore_n 2, 0, 0, 0), (9, .aload_n 0, 0, 0, 0), (10, .getfield 19, 1, 0, 126), (13, .iload_n 2, 0, 0, 0), (14, .invokevirtual 40, 28, 2, 458), (17, .iconst 1, 0, 0, 0), (18, .if_icmp .eq 13, 0, 0, 0), (21, .new 70, 1000, 1, 463), (31, .aload_n 0, 0, 0, 0)],
  [(32, .getfield 19, 1, 0, 126), (35, .iload_n 2, 0, 0, 0), (36, .invokevirtual 31, 29, 2, 456), (39, .ireturn, 0, 0, 0)]]
def am_c11 : List (List (Nat × am_I)) := [[(0, .aload_n 0, 0, 0, 0), (1, .getfield 15, 1, 4, 130), (4, .iconst 1, 0, 0, 0), (5, .isub, 0, 0, 0), (6, .iload_n 1, 0, 0, 0), (7, .isub, 0, 0, 0), (8, .istore_n 2, 0, 0, 0), (9, .iload_n 2, 0, 0, 0), (10, .ifCond .lt 17, 0, 0, 0), (13, .iload_n 2, 0, 0, 0), (14, .aload_n 0, 0, 0, 0), (15, .getfield 15, 1, 4, 130), (18, .if_icmp .ge 9, 0, 0, 0), (21, .iload_n 2, 0, 0, 0), (22, .bipush 12, 0, 0, 0), (24, .if_icmp .lt 13, 0, 0, 0), (27, .new 70, 1001, 1, 463)],
  [(37, .aload_n 0, 0, 0, 0), (38, .getfield 19, 1, 0, 126), (41, .aload_n 0, 0, 0, 0), (42, .getfield 9, 1, 3, 129), (45, .iload_n 2, 0, 0, 0), (46, .iaload, 0, 0, 0), (47, .iconst 0, 0, 0, 0), (48, .iconst (-1), 0, 0, 0), (49, .iload_n 1, 0, 0, 0), (50, .iconst 1, 0, 0, 0), (51, .iadd, 0, 0, 0), (52, .invokevirtual 79, 43, 8, 479), (55, .ireturn, 0, 0, 0)]]
def am_c12 : List (List (Nat × am_I)) := [[(0, .aload_n 0, 0, 0, 0), (1, .aload_n 0, 0, 0, 0), (2, .iload_n 1, 0, 0, 0), (3, .invokevirtual 83, 9, 2, 492), (6, .invokevirtual 86, 10, 2, 493), (9, .istore_n 3, 0, 0, 0), (10, .aload_n 0, 0, 0, 0), (11, .iload_n 1, 0, 0, 0), (12, .invokevirtual 89, 15, 2, 525), (15, .aload_n 0, 0, 0, 0), (16, .aload_n 0, 0, 0, 0), (17, .iload_n 2, 0, 0, 0), (18, .invokevirtual 83, 9, 2, 492), (21, .invokevirtual 86, 10, 2, 493), (24, .istore 4, 0, 0, 0), (26, .aload_n 0, 0, 0, 0), (27, .dup, 0, 0, 0), (28, .getfield 15, 1, 4, 130), (31, .iconst 1, 0, 0, 0)],
  [(32, .isub, 0, 0, 0), (33, .putfield 15, 1, 4, 130), (36, .aload_n 0, 0, 0, 0), (37, .getfield 19, 1, 0, 126), (40, .iconst 1, 0, 0, 0), (41, .iload_n 3, 0, 0, 0), (42, .iload 4, 0, 0, 0), (44, .invokestatic 93, 1002, 0, 532), (47, .iconst (-1), 0, 0, 0), (48, .invokevirtual 46, 38, 6, 486), (51, .ireturn, 0, 0, 0)]]
def am_c13 : List (List (Nat × am_I)) := [[(0, .aload_n 0, 0, 0, 0), (1, .aload_n 0, 0, 0, 0), (2, .iload_n 1, 0, 0, 0), (3, .invokevirtual 83, 9, 2, 492), (6, .invokevirtual 86, 10, 2, 493), (9, .pop, 0, 0, 0), (10, .aload_n 0, 0, 0, 0), (11, .iload_n 1, 0, 0, 0), (12, .invokevirtual 89, 15, 2, 525), (15, .aload_n 0, 0, 0, 0), (16, .iload_n 2, 0, 0, 0), (17, .invokevirtual 83, 9, 2, 492), (20, .istore_n 3, 0, 0, 0), (21, .aload_n 0, 0, 0, 0), (22, .dup, 0, 0, 0), (23, .getfield 15, 1, 4, 130), (26, .iconst 1, 0, 0, 0), (27, .isub, 0, 0, 0), (28, .putfield 15, 1, 4, 130), (31, .aload_n 0, 0, 0, 0)],
  [(32, .aload_n 0, 0, 0, 0), (33, .getfield 19, 1, 0, 126), (36, .iconst 2, 0, 0, 0), (37, .iload_n 1, 0, 0, 0), (38, .iload_n 3, 0, 0, 0), (39, .invokevirtual 46, 38, 6, 486), (42, .invokevirtual 98, 16, 2, 537), (45, .ireturn, 0, 0, 0)]]
def am_c14 : List (List (Nat × am_I)) := [[(0, .aload_n 0, 0, 0, 0), (1, .getfield 27, 1, 2, 128), (4, .aload_n 0, 0, 0, 0), (5, .iload_n 1, 0, 0, 0), (6, .invokevirtual 83, 9, 2, 492), (9, .invokevirtual 65, 48, 2, 497), (12, .istore_n 3, 0, 0, 0), (13, .aload_n 0, 0, 0, 0), (14, .getfield 19, 1, 0, 126), (17, .iload_n 3, 0, 0, 0), (18, .invokevirtual 40, 28, 2, 458), (21, .iconst 2, 0, 0, 0), (22, .if_icmp .eq 13, 0, 0, 0), (25, .new 70, 1002, 1, 463)],
  [(35, .aload_n 0, 0, 0, 0), (36, .getfield 27, 1, 2, 128), (39, .aload_n 0, 0, 0, 0), (40, .iload_n 2, 0, 0, 0), (41, .invokevirtual 83, 9, 2, 492), (44, .aload_n 0, 0, 0, 0), (45, .getfield 19, 1, 0, 126), (48, .iload_n 3, 0, 0, 0), (49, .invokevirtual 31, 29, 2, 456), (52, .invokevirtual 103, 50, 4, 548), (55, .ifCond .ne 13, 0, 0, 0), (58, .new 70, 1003, 1, 463)],
  [(68, .aload_n 0, 0, 0, 0), (69, .aload_n 0, 0, 0, 0), (70, .getfield 19, 1, 0, 126), (73, .aload_n 0, 0, 0, 0), (74, .getfield 19, 1, 0, 126), (77, .iload_n 3, 0, 0, 0), (78, .invokevirtual 37, 30, 2, 457), (81, .iconst 0, 0, 0, 0), (82, .iload_n 2, 0, 0, 0), (83, .iconst (-1), 0, 0, 0), (84, .invokevirtual 79, 43, 8, 479), (87, .invokevirtual 98, 16, 2, 537), (90, .ireturn, 0, 0, 0)]]
def am_c15 : List (List (Nat × am_I)) := [[(0, .aload_n 0, 0, 0, 0), (1, .getfield 15, 1, 4, 130), (4, .ifCond .lt 12, 0, 0, 0), (7, .aload_n 0, 0, 0, 0), (8, .getfield 15, 1, 4, 130), (11, .bipush 12, 0, 0, 0), (13, .if_icmp .lt 13, 0, 0, 0), (16, .new 109, 1004, 2, 529), (26, .aload_n 0, 0, 0, 0), (27, .getfield 9, 1, 3, 129), (30, .aload_n 0, 0, 0, 0), (31, .getfield 15, 1, 4, 130)],
  [(34, .iload_n 1, 0, 0, 0), (35, .iastore, 0, 0, 0), (36, .aload_n 0, 0, 0, 0), (37, .dup, 0, 0, 0), (38, .getfield 15, 1, 4, 130), (41, .iconst 1, 0, 0, 0), (42, .iadd, 0, 0, 0), (43, .putfield 15, 1, 4, 130), (46, .return_, 0, 0, 0)]]
def am_c16 : List (List (Nat × am_I)) := [[(0, .aload_n 0, 0, 0, 0), (1, .getfield 19, 1, 0, 126), (4, .iload_n 1, 0, 0, 0), (5, .invokevirtual 114, 34, 2, 541), (8, .ifCond .eq 13, 0, 0, 0), (11, .new 109, 1005, 2, 529), (21, .iload_n 1, 0, 0, 0), (22, .ireturn, 0, 0, 0)]]
def am_c17 : List (List (Nat × am_I)) := [[(0, .aload_n 0, 0, 0, 0), (1, .invokespecial 3, 1001, 0, 147), (4, .aload_n 0, 0, 0, 0), (5, .bipush 60, 0, 0, 0), (7, .newarray .int, 0, 0, 0), (9, .putfield 9, 2, 0, 148), (12, .aload_n 0, 0, 0, 0), (13, .iconst 0, 0, 0, 0), (14, .putfield 15, 2, 1, 149), (17, .aload_n 0, 0, 0, 0), (18, .iconst 0, 0, 0, 0), (19, .putfield 19, 2, 2, 150), (22, .return_, 0, 0, 0)]]
def am_c18 : List (List (Nat × am_I)) := [[(0, .aload_n 0, 0, 0, 0), (1, .getfield 15, 2, 1, 149), (4, .ifCond .ne 7, 0, 0, 0), (7, .iconst 1, 0, 0, 0), (8, .goto 4, 0, 0, 0), (11, .iconst 0, 0, 0, 0), (12, .ireturn, 0, 0, 0)]]
def am_c19 : List (List (Nat × am_I)) := [[(0, .iload_n 1, 0, 0, 0), (1, .ifCond .lt 26, 0, 0, 0), (4, .iload_n 1, 0, 0, 0), (5, .aload_n 0, 0, 0, 0), (6, .getfield 15, 2, 1, 149), (9, .if_icmp .ge 18, 0, 0, 0), (12, .iload_n 1, 0, 0, 0), (13, .bipush 60, 0, 0, 0), (15, .if_icmp .ge 12, 0, 0, 0), (18, .aload_n 0, 0, 0, 0), (19, .getfield 9, 2, 0, 148), (22, .iload_n 1, 0, 0, 0), (23, .iaload, 0, 0, 0), (24, .goto 4, 0, 0, 0), (27, .iconst (-1), 0, 0, 0), (28, .ireturn, 0, 0, 0)]]
def am_c20 : List (List (Nat × am_I)) := [[(0, .iconst 0, 0, 0, 0), (1, .istore_n 2, 0, 0, 0), (2, .iload_n 2, 0, 0, 0), (3, .aload_n 0, 0, 0, 0), (4, .getfield 15, 2, 1, 149), (7, .if_icmp .ge 36, 0, 0, 0), (10, .aload_n 0, 0, 0, 0), (11, .iload_n 2, 0, 0, 0), (12, .invokevirtual 22, 19, 2, 285), (15, .bipush 10, 0, 0, 0), (17, .irem, 0, 0, 0), (18, .iload_n 1, 0, 0, 0), (19, .if_icmp .ne 18, 0, 0, 0), (22, .aload_n 0, 0, 0, 0), (23, .iload_n 2, 0, 0, 0), (24, .invokevirtual 22, 19, 2, 285), (27, .bipush 10, 0, 0, 0), (29, .idiv, 0, 0, 0), (30, .bipush 9, 0, 0, 0)],
  [(32, .if_icmp .le 5, 0, 0, 0), (35, .iconst 1, 0, 0, 0), (36, .ireturn, 0, 0, 0), (37, .iinc 2 1, 0, 0, 0), (40, .goto (-38), 0, 0, 0), (43, .iconst 0, 0, 0, 0), (44, .ireturn, 0, 0, 0)]]
def am_c21 : List (List (Nat × am_I)) := [[(0, .aload_n 0, 0, 0, 0), (1, .iconst 0, 0, 0, 0), (2, .putfield 15, 2, 1, 149), (5, .aload_n 0, 0, 0, 0), (6, .aload_n 1, 0, 0, 0), (7, .iload_n 2, 0, 0, 0), (8, .invokevirtual 26, 22, 4, 256), (11, .aload_n 0, 0, 0, 0), (12, .getfield 15, 2, 1, 149), (15, .ireturn, 0, 0, 0)]]
def am_c22 : List (List (Nat × am_I)) := [[(0, .aload_n 0, 0, 0, 0), (1, .getfield 15, 2, 1, 149), (4, .ifCond .lt 12, 0, 0, 0), (7, .aload_n 0, 0, 0, 0), (8, .getfield 15, 2, 1, 149), (11, .bipush 60, 0, 0, 0), (13, .if_icmp .lt 4, 0, 0, 0), (16, .return_, 0, 0, 0), (17, .aload_n 1, 0, 0, 0), (18, .iload_n 2, 0, 0, 0), (19, .invokevirtual 30, 28, 2, 260), (22, .istore_n 3, 0, 0, 0), (23, .aload_n 0, 0, 0, 0), (24, .getfield 9, 2, 0, 148), (27, .aload_n 0, 0, 0, 0), (28, .getfield 15, 2, 1, 149), (31, .iload_n 3, 0, 0, 0)],
  [(32, .invokestatic 35, 69, 3, 264), (35, .ifCond .eq 7, 0, 0, 0), (38, .iload_n 3, 0, 0, 0), (39, .goto 13, 0, 0, 0), (42, .iload_n 3, 0, 0, 0), (43, .bipush 10, 0, 0, 0), (45, .aload_n 1, 0, 0, 0), (46, .iload_n 2, 0, 0, 0), (47, .invokevirtual 39, 29, 2, 265), (50, .imul, 0, 0, 0), (51, .iadd, 0, 0, 0), (52, .iastore, 0, 0, 0), (53, .aload_n 0, 0, 0, 0), (54, .dup, 0, 0, 0), (55, .getfield 15, 2, 1, 149), (58, .iconst 1, 0, 0, 0), (59, .iadd, 0, 0, 0), (60, .putfield 15, 2, 1, 149), (63, .iload_n 3, 0, 0, 0)],
  [(64, .invokestatic 35, 69, 3, 264), (67, .ifCond .eq 23, 0, 0, 0), (70, .aload_n 0, 0, 0, 0), (71, .aload_n 1, 0, 0, 0), (72, .aload_n 1, 0, 0, 0), (73, .iload_n 2, 0, 0, 0), (74, .invokevirtual 39, 29, 2, 265), (77, .invokevirtual 26, 22, 4, 256), (80, .aload_n 0, 0, 0, 0), (81, .aload_n 1, 0, 0, 0), (82, .aload_n 1, 0, 0, 0), (83, .iload_n 2, 0, 0, 0), (84, .invokevirtual 42, 30, 2, 269), (87, .invokevirtual 26, 22, 4, 256), (90, .return_, 0, 0, 0)]]
def am_c23 : List (List (Nat × am_I)) := [[(0, .aload_n 0, 0, 0, 0), (1, .iconst 0, 0, 0, 0), (2, .putfield 19, 2, 2, 150), (5, .aload_n 0, 0, 0, 0), (6, .aload_n 1, 0, 0, 0), (7, .iload_n 2, 0, 0, 0), (8, .invokevirtual 45, 24, 4, 293), (11, .ireturn, 0, 0, 0)]]
def am_c24 : List (List (Nat × am_I)) := [[(0, .aload_n 0, 0, 0, 0), (1, .aload_n 0, 0, 0, 0), (2, .getfield 19, 2, 2, 150), (5, .invokevirtual 22, 19, 2, 285), (8, .istore_n 3, 0, 0, 0), (9, .iload_n 3, 0, 0, 0), (10, .iconst (-1), 0, 0, 0), (11, .if_icmp .ne 5, 0, 0, 0), (14, .iconst (-1), 0, 0, 0), (15, .ireturn, 0, 0, 0), (16, .aload_n 0, 0, 0, 0), (17, .dup, 0, 0, 0), (18, .getfield 19, 2, 2, 150), (21, .iconst 1, 0, 0, 0), (22, .iadd, 0, 0, 0), (23, .putfield 19, 2, 2, 150), (26, .iload_n 3, 0, 0, 0), (27, .bipush 10, 0, 0, 0), (29, .irem, 0, 0, 0), (30, .istore 4, 0, 0, 0)],
  [(32, .iload_n 3, 0, 0, 0), (33, .bipush 10, 0, 0, 0), (35, .idiv, 0, 0, 0), (36, .istore 5, 0, 0, 0), (38, .iconst (-1), 0, 0, 0), (39, .istore 6, 0, 0, 0), (41, .iload 4, 0, 0, 0), (43, .invokestatic 35, 69, 3, 264), (46, .ifCond .eq 37, 0, 0, 0), (49, .aload_n 0, 0, 0, 0), (50, .aload_n 1, 0, 0, 0), (51, .iload_n 2, 0, 0, 0), (52, .invokevirtual 45, 24, 4, 293), (55, .istore 5, 0, 0, 0), (57, .iload 5, 0, 0, 0), (59, .iconst (-1), 0, 0, 0), (60, .if_icmp .ne 7, 0, 0, 0), (63, .iconst (-1), 0, 0, 0)],
  [(64, .goto 9, 0, 0, 0), (67, .aload_n 0, 0, 0, 0), (68, .aload_n 1, 0, 0, 0), (69, .iload_n 2, 0, 0, 0), (70, .invokevirtual 45, 24, 4, 293), (73, .istore 6, 0, 0, 0), (75, .iload 6, 0, 0, 0), (77, .iconst (-1), 0, 0, 0), (78, .if_icmp .ne 5, 0, 0, 0), (81, .iconst (-1), 0, 0, 0), (82, .ireturn, 0, 0, 0), (83, .iload_n 2, 0, 0, 0), (84, .ifCond .eq 16, 0, 0, 0), (87, .aload_n 1, 0, 0, 0), (88, .iload 4, 0, 0, 0), (90, .iload 5, 0, 0, 0), (92, .iload 6, 0, 0, 0), (94, .invokevirtual 49, 36, 6, 297)],
  [(97, .goto 13, 0, 0, 0), (100, .aload_n 1, 0, 0, 0), (101, .iload 4, 0, 0, 0), (103, .iload 5, 0, 0, 0), (105, .iload 6, 0, 0, 0), (107, .invokevirtual 53, 38, 6, 305), (110, .ireturn, 0, 0, 0)]]
def am_c25 : List (List (Nat × am_I)) := [[(0, .aload_n 0, 0, 0, 0), (1, .invokespecial 3, 1001, 0, 49), (4, .aload_n 0, 0, 0, 0), (5, .sipush 512, 0, 0, 0), (8, .newarray .int, 0, 0, 0), (10, .putfield 9, 3, 0, 50), (13, .aload_n 0, 0, 0, 0), (14, .sipush 512, 0, 0, 0), (17, .newarray .int, 0, 0, 0), (19, .putfield 15, 3, 1, 51), (22, .aload_n 0, 0, 0, 0), (23, .sipush 512, 0, 0, 0), (26, .newarray .int, 0, 0, 0), (28, .putfield 18, 3, 2, 52), (31, .aload_n 0, 0, 0, 0)],
  [(32, .sipush 512, 0, 0, 0), (35, .newarray .int, 0, 0, 0), (37, .putfield 21, 3, 3, 53), (40, .aload_n 0, 0, 0, 0), (41, .sipush 512, 0, 0, 0), (44, .newarray .int, 0, 0, 0), (46, .putfield 24, 3, 4, 54), (49, .aload_n 0, 0, 0, 0), (50, .iconst 0, 0, 0, 0), (51, .putfield 27, 3, 5, 55), (54, .aload_n 0, 0, 0, 0), (55, .bipush 120, 0, 0, 0), (57, .putfield 31, 3, 6, 56), (60, .aload_n 0, 0, 0, 0), (61, .bipush 120, 0, 0, 0), (63, .putfield 34, 3, 7, 57)],
  [(66, .return_, 0, 0, 0)]]
def am_c26 : List (List (Nat × am_I)) := [[(0, .aload_n 0, 0, 0, 0), (1, .getfield 27, 3, 5, 55), (4, .ireturn, 0, 0, 0)]]
def am_c27 : List (List (Nat × am_I)) := [[(0, .iload_n 1, 0, 0, 0), (1, .ifCond .lt 15, 0, 0, 0), (4, .iload_n 1, 0, 0, 0), (5, .aload_n 0, 0, 0, 0), (6, .getfield 27, 3, 5, 55), (9, .if_icmp .ge 7, 0, 0, 0), (12, .iconst 1, 0, 0, 0), (13, .goto 4, 0, 0, 0), (16, .iconst 0, 0, 0, 0), (17, .ireturn, 0, 0, 0)]]
def am_c28 : List (List (Nat × am_I)) := [[(0, .iload_n 1, 0, 0, 0), (1, .ifCond .lt 21, 0, 0, 0), (4, .iload_n 1, 0, 0, 0), (5, .aload_n 0, 0, 0, 0), (6, .getfield 9, 3, 0, 50), (9, .arraylength, 0, 0, 0), (10, .if_icmp .ge 12, 0, 0, 0), (13, .aload_n 0, 0, 0, 0), (14, .getfield 9, 3, 0, 50), (17, .iload_n 1, 0, 0, 0), (18, .iaload, 0, 0, 0), (19, .goto 4, 0, 0, 0), (22, .iconst (-1), 0, 0, 0), (23, .ireturn, 0, 0, 0)]]
def am_c29 : List (List (Nat × am_I)) := [[(0, .iload_n 1, 0, 0, 0), (1, .ifCond .lt 21, 0, 0, 0), (4, .iload_n 1, 0, 0, 0), (5, .aload_n 0, 0, 0, 0), (6, .getfield 15, 3, 1, 51), (9, .arraylength, 0, 0, 0), (10, .if_icmp .ge 12, 0, 0, 0), (13, .aload_n 0, 0, 0, 0), (14, .getfield 15, 3, 1, 51), (17, .iload_n 1, 0, 0, 0), (18, .iaload, 0, 0, 0), (19, .goto 4, 0, 0, 0), (22, .iconst (-1), 0, 0, 0), (23, .ireturn, 0, 0, 0)]]
def am_c30 : List (List (Nat × am_I)) := [[(0, .iload_n 1, 0, 0, 0), (1, .ifCond .lt 21, 0, 0, 0), (4, .iload_n 1, 0, 0, 0), (5, .aload_n 0, 0, 0, 0), (6, .getfield 18, 3, 2, 52), (9, .arraylength, 0, 0, 0), (10, .if_icmp .ge 12, 0, 0, 0), (13, .aload_n 0, 0, 0, 0), (14, .getfield 18, 3, 2, 52), (17, .iload_n 1, 0, 0, 0), (18, .iaload, 0, 0, 0), (19, .goto 4, 0, 0, 0), (22, .iconst (-1), 0, 0, 0), (23, .ireturn, 0, 0, 0)]]
def am_c31 : List (List (Nat × am_I)) := [[(0, .iload_n 1, 0, 0, 0), (1, .ifCond .lt 21, 0, 0, 0), (4, .iload_n 1, 0, 0, 0), (5, .aload_n 0, 0, 0, 0), (6, .getfield 21, 3, 3, 53), (9, .arraylength, 0, 0, 0), (10, .if_icmp .ge 12, 0, 0, 0), (13, .aload_n 0, 0, 0, 0), (14, .getfield 21, 3, 3, 53), (17, .iload_n 1, 0, 0, 0), (18, .iaload, 0, 0, 0), (19, .goto 4, 0, 0, 0), (22, .iconst (-1), 0, 0, 0), (23, .ireturn, 0, 0, 0)]]
def am_c32 : List (List (Nat × am_I)) := [[(0, .iload_n 1, 0, 0, 0), (1, .ifCond .lt 21, 0, 0, 0), (4, .iload_n 1, 0, 0, 0), (5, .aload_n 0, 0, 0, 0), (6, .getfield 24, 3, 4, 54), (9, .arraylength, 0, 0, 0), (10, .if_icmp .ge 12, 0, 0, 0), (13, .aload_n 0, 0, 0, 0), (14, .getfield 24, 3, 4, 54), (17, .iload_n 1, 0, 0, 0), (18, .iaload, 0, 0, 0), (19, .goto 4, 0, 0, 0), (22, .iconst (-1), 0, 0, 0), (23, .ireturn, 0, 0, 0)]]
def am_c33 : List (List (Nat × am_I)) := [[(0, .iconst 1, 0, 0, 0), (1, .aload_n 0, 0, 0, 0), (2, .iload_n 1, 0, 0, 0), (3, .invokevirtual 37, 31, 2, 200), (6, .iadd, 0, 0, 0), (7, .aload_n 0, 0, 0, 0), (8, .iload_n 2, 0, 0, 0), (9, .invokevirtual 37, 31, 2, 200), (12, .iadd, 0, 0, 0), (13, .bipush 60, 0, 0, 0), (15, .if_icmp .gt 27, 0, 0, 0), (18, .iconst 1, 0, 0, 0), (19, .aload_n 0, 0, 0, 0), (20, .iload_n 1, 0, 0, 0), (21, .invokevirtual 41, 32, 2, 204), (24, .aload_n 0, 0, 0, 0), (25, .iload_n 2, 0, 0, 0), (26, .invokevirtual 41, 32, 2, 204), (29, .invokestatic 44, 1002, 0, 208)],
  [(32, .iadd, 0, 0, 0), (33, .bipush 12, 0, 0, 0), (35, .if_icmp .gt 7, 0, 0, 0), (38, .iconst 1, 0, 0, 0), (39, .goto 4, 0, 0, 0), (42, .iconst 0, 0, 0, 0), (43, .ireturn, 0, 0, 0)]]
def am_c34 : List (List (Nat × am_I)) := [[(0, .aload_n 0, 0, 0, 0), (1, .iload_n 1, 0, 0, 0), (2, .invokevirtual 37, 31, 2, 200), (5, .bipush 60, 0, 0, 0), (7, .if_icmp .gt 13, 0, 0, 0), (10, .aload_n 0, 0, 0, 0), (11, .iload_n 1, 0, 0, 0), (12, .invokevirtual 41, 32, 2, 204), (15, .bipush 12, 0, 0, 0), (17, .if_icmp .le 7, 0, 0, 0), (20, .iconst 1, 0, 0, 0), (21, .goto 4, 0, 0, 0), (24, .iconst 0, 0, 0, 0), (25, .ireturn, 0, 0, 0)]]
def am_c35 : List (List (Nat × am_I)) := [[(0, .aload_n 0, 0, 0, 0), (1, .getfield 27, 3, 5, 55), (4, .bipush 120, 0, 0, 0), (6, .if_icmp .lt 5, 0, 0, 0), (9, .iconst (-1), 0, 0, 0), (10, .ireturn, 0, 0, 0), (11, .aload_n 0, 0, 0, 0), (12, .aload_n 0, 0, 0, 0), (13, .getfield 27, 3, 5, 55), (16, .iload_n 1, 0, 0, 0), (17, .iload_n 2, 0, 0, 0), (18, .iload_n 3, 0, 0, 0), (19, .invokevirtual 50, 39, 8, 215), (22, .aload_n 0, 0, 0, 0), (23, .dup, 0, 0, 0), (24, .getfield 27, 3, 5, 55), (27, .iconst 1, 0, 0, 0), (28, .iadd, 0, 0, 0), (29, .putfield 27, 3, 5, 55)],
  [(32, .aload_n 0, 0, 0, 0), (33, .getfield 27, 3, 5, 55), (36, .iconst 1, 0, 0, 0), (37, .isub, 0, 0, 0), (38, .ireturn, 0, 0, 0)]]
def am_c36 : List (List (Nat × am_I)) := [[(0, .iconst 0, 0, 0, 0), (1, .istore 4, 0, 0, 0), (3, .iload 4, 0, 0, 0), (5, .aload_n 0, 0, 0, 0), (6, .getfield 27, 3, 5, 55), (9, .if_icmp .ge 42, 0, 0, 0), (12, .aload_n 0, 0, 0, 0), (13, .iload 4, 0, 0, 0), (15, .invokevirtual 54, 28, 2, 301), (18, .iload_n 1, 0, 0, 0), (19, .if_icmp .ne 26, 0, 0, 0), (22, .aload_n 0, 0, 0, 0), (23, .iload 4, 0, 0, 0), (25, .invokevirtual 57, 29, 2, 302), (28, .iload_n 2, 0, 0, 0), (29, .if_icmp .ne 16, 0, 0, 0)],
  [(32, .aload_n 0, 0, 0, 0), (33, .iload 4, 0, 0, 0), (35, .invokevirtual 60, 30, 2, 303), (38, .iload_n 3, 0, 0, 0), (39, .if_icmp .ne 6, 0, 0, 0), (42, .iload 4, 0, 0, 0), (44, .ireturn, 0, 0, 0), (45, .iinc 4 1, 0, 0, 0), (48, .goto (-45), 0, 0, 0), (51, .aload_n 0, 0, 0, 0), (52, .iload_n 1, 0, 0, 0), (53, .iload_n 2, 0, 0, 0), (54, .iload_n 3, 0, 0, 0), (55, .invokevirtual 63, 35, 6, 304), (58, .ireturn, 0, 0, 0)]]
def am_c37 : List (List (Nat × am_I)) := [[(0, .aload_n 0, 0, 0, 0), (1, .iload_n 1, 0, 0, 0), (2, .putfield 27, 3, 5, 55), (5, .return_, 0, 0, 0)]]
def am_c38 : List (List (Nat × am_I)) := [[(0, .aload_n 0, 0, 0, 0), (1, .getfield 34, 3, 7, 57), (4, .aload_n 0, 0, 0, 0), (5, .getfield 9, 3, 0, 50), (8, .arraylength, 0, 0, 0), (9, .if_icmp .lt 7, 0, 0, 0), (12, .aload_n 0, 0, 0, 0), (13, .invokevirtual 67, 40, 0, 309), (16, .aload_n 0, 0, 0, 0), (17, .aload_n 0, 0, 0, 0), (18, .getfield 34, 3, 7, 57), (21, .iload_n 1, 0, 0, 0), (22, .iload_n 2, 0, 0, 0), (23, .iload_n 3, 0, 0, 0), (24, .invokevirtual 50, 39, 8, 215), (27, .aload_n 0, 0, 0, 0), (28, .dup, 0, 0, 0), (29, .getfield 34, 3, 7, 57)],
  [(32, .iconst 1, 0, 0, 0), (33, .iadd, 0, 0, 0), (34, .putfield 34, 3, 7, 57), (37, .aload_n 0, 0, 0, 0), (38, .getfield 34, 3, 7, 57), (41, .iconst 1, 0, 0, 0), (42, .isub, 0, 0, 0), (43, .ireturn, 0, 0, 0)]]
def am_c39 : List (List (Nat × am_I)) := [[(0, .aload_n 0, 0, 0, 0), (1, .getfield 9, 3, 0, 50), (4, .arraylength, 0, 0, 0), (5, .istore 5, 0, 0, 0), (7, .iload_n 1, 0, 0, 0), (8, .ifCond .lt 9, 0, 0, 0), (11, .iload_n 1, 0, 0, 0), (12, .iload 5, 0, 0, 0), (14, .if_icmp .lt 4, 0, 0, 0), (17, .return_, 0, 0, 0), (18, .aload_n 0, 0, 0, 0), (19, .getfield 9, 3, 0, 50), (22, .iload_n 1, 0, 0, 0), (23, .iload_n 2, 0, 0, 0), (24, .iastore, 0, 0, 0), (25, .aload_n 0, 0, 0, 0), (26, .getfield 15, 3, 1, 51), (29, .iload_n 1, 0, 0, 0), (30, .iload_n 3, 0, 0, 0), (31, .iastore, 0, 0, 0)],
  [(32, .aload_n 0, 0, 0, 0), (33, .getfield 18, 3, 2, 52), (36, .iload_n 1, 0, 0, 0), (37, .iload 4, 0, 0, 0), (39, .iastore, 0, 0, 0), (40, .aload_n 0, 0, 0, 0), (41, .getfield 21, 3, 3, 53), (44, .iload_n 1, 0, 0, 0), (45, .iconst 1, 0, 0, 0), (46, .iastore, 0, 0, 0), (47, .aload_n 0, 0, 0, 0), (48, .getfield 24, 3, 4, 54), (51, .iload_n 1, 0, 0, 0), (52, .iconst 1, 0, 0, 0), (53, .iastore, 0, 0, 0), (54, .iload 4, 0, 0, 0), (56, .iconst (-1), 0, 0, 0), (57, .if_icmp .eq 71, 0, 0, 0), (60, .iload_n 3, 0, 0, 0), (61, .ifCond .lt 67, 0, 0, 0)],
  [(64, .iload_n 3, 0, 0, 0), (65, .iload 5, 0, 0, 0), (67, .if_icmp .ge 61, 0, 0, 0), (70, .iload 4, 0, 0, 0), (72, .ifCond .lt 56, 0, 0, 0), (75, .iload 4, 0, 0, 0), (77, .iload 5, 0, 0, 0), (79, .if_icmp .ge 49, 0, 0, 0), (82, .aload_n 0, 0, 0, 0), (83, .getfield 21, 3, 3, 53), (86, .iload_n 1, 0, 0, 0), (87, .iconst 1, 0, 0, 0), (88, .aload_n 0, 0, 0, 0), (89, .getfield 21, 3, 3, 53), (92, .iload_n 3, 0, 0, 0), (93, .iaload, 0, 0, 0), (94, .iadd, 0, 0, 0), (95, .aload_n 0, 0, 0, 0)],
  [(96, .getfield 21, 3, 3, 53), (99, .iload 4, 0, 0, 0), (101, .iaload, 0, 0, 0), (102, .iadd, 0, 0, 0), (103, .iastore, 0, 0, 0), (104, .aload_n 0, 0, 0, 0), (105, .getfield 24, 3, 4, 54), (108, .iload_n 1, 0, 0, 0), (109, .iconst 1, 0, 0, 0), (110, .aload_n 0, 0, 0, 0), (111, .getfield 24, 3, 4, 54), (114, .iload_n 3, 0, 0, 0), (115, .iaload, 0, 0, 0), (116, .aload_n 0, 0, 0, 0), (117, .getfield 24, 3, 4, 54), (120, .iload 4, 0, 0, 0), (122, .iaload, 0, 0, 0), (123, .invokestatic 44, 1002, 0, 208), (126, .iadd, 0, 0, 0), (127, .iastore, 0, 0, 0)],
  [(128, .return_, 0, 0, 0)]]
def am_c40 : List (List (Nat × am_I)) := [[(0, .aload_n 0, 0, 0, 0), (1, .getfield 9, 3, 0, 50), (4, .arraylength, 0, 0, 0), (5, .iconst 2, 0, 0, 0), (6, .imul, 0, 0, 0), (7, .istore_n 1, 0, 0, 0), (8, .iload_n 1, 0, 0, 0), (9, .ldc 70, 65536, 0, 313), (11, .if_icmp .le 13, 0, 0, 0), (14, .new 71, 1006, 2, 314), (24, .aload_n 0, 0, 0, 0), (25, .aload_n 0, 0, 0, 0), (26, .getfield 9, 3, 0, 50), (29, .iload_n 1, 0, 0, 0), (30, .invokestatic 78, 1003, 0, 0)],
  [(33, .putfield 9, 3, 0, 50), (36, .aload_n 0, 0, 0, 0), (37, .aload_n 0, 0, 0, 0), (38, .getfield 15, 3, 1, 51), (41, .iload_n 1, 0, 0, 0), (42, .invokestatic 78, 1003, 0, 0), (45, .putfield 15, 3, 1, 51), (48, .aload_n 0, 0, 0, 0), (49, .aload_n 0, 0, 0, 0), (50, .getfield 18, 3, 2, 52), (53, .iload_n 1, 0, 0, 0), (54, .invokestatic 78, 1003, 0, 0), (57, .putfield 18, 3, 2, 52), (60, .aload_n 0, 0, 0, 0), (61, .aload_n 0, 0, 0, 0), (62, .getfield 21, 3, 3, 53)],
  [(65, .iload_n 1, 0, 0, 0), (66, .invokestatic 78, 1003, 0, 0), (69, .putfield 21, 3, 3, 53), (72, .aload_n 0, 0, 0, 0), (73, .aload_n 0, 0, 0, 0), (74, .getfield 24, 3, 4, 54), (77, .iload_n 1, 0, 0, 0), (78, .invokestatic 78, 1003, 0, 0), (81, .putfield 24, 3, 4, 54), (84, .return_, 0, 0, 0)]]
def am_c41 : List (List (Nat × am_I)) := [[(0, .aload_n 0, 0, 0, 0), (1, .aload_n 0, 0, 0, 0), (2, .getfield 31, 3, 6, 56), (5, .putfield 34, 3, 7, 57), (8, .return_, 0, 0, 0)]]
def am_c42 : List (List (Nat × am_I)) := [[(0, .aload_n 0, 0, 0, 0), (1, .aload_n 0, 0, 0, 0), (2, .getfield 34, 3, 7, 57), (5, .putfield 31, 3, 6, 56), (8, .return_, 0, 0, 0)]]
def am_c43 : List (List (Nat × am_I)) := [[(0, .aload_n 0, 0, 0, 0), (1, .iload_n 1, 0, 0, 0), (2, .invokevirtual 54, 28, 2, 301), (5, .istore 5, 0, 0, 0), (7, .aload_n 0, 0, 0, 0), (8, .iload_n 1, 0, 0, 0), (9, .invokevirtual 57, 29, 2, 302), (12, .istore 6, 0, 0, 0), (14, .iload 5, 0, 0, 0), (16, .ifCond .ne 58, 0, 0, 0), (19, .iload_n 3, 0, 0, 0), (20, .iconst (-1), 0, 0, 0), (21, .if_icmp .eq 26, 0, 0, 0), (24, .iload 6, 0, 0, 0), (26, .iload_n 2, 0, 0, 0), (27, .if_icmp .ne 20, 0, 0, 0), (30, .iload_n 2, 0, 0, 0), (31, .ifCond .ne 7, 0, 0, 0)],
  [(34, .iload_n 3, 0, 0, 0), (35, .goto 11, 0, 0, 0), (38, .aload_n 0, 0, 0, 0), (39, .iload_n 3, 0, 0, 0), (40, .iconst 0, 0, 0, 0), (41, .iconst (-1), 0, 0, 0), (42, .iload_n 2, 0, 0, 0), (43, .invokevirtual 84, 43, 8, 483), (46, .ireturn, 0, 0, 0), (47, .iload 6, 0, 0, 0), (49, .iload_n 2, 0, 0, 0), (50, .if_icmp .lt 8, 0, 0, 0), (53, .iload 4, 0, 0, 0), (55, .ifCond .ne 7, 0, 0, 0), (58, .iload_n 1, 0, 0, 0), (59, .goto 14, 0, 0, 0), (62, .aload_n 0, 0, 0, 0), (63, .iconst 0, 0, 0, 0)],
  [(64, .iload 6, 0, 0, 0), (66, .iload 4, 0, 0, 0), (68, .iadd, 0, 0, 0), (69, .iconst (-1), 0, 0, 0), (70, .invokevirtual 88, 38, 6, 484), (73, .ireturn, 0, 0, 0), (74, .iload 5, 0, 0, 0), (76, .invokestatic 91, 69, 3, 485), (79, .ifCond .ne 5, 0, 0, 0), (82, .iload_n 1, 0, 0, 0), (83, .ireturn, 0, 0, 0), (84, .aload_n 0, 0, 0, 0), (85, .iload_n 1, 0, 0, 0), (86, .invokevirtual 60, 30, 2, 303), (89, .istore 7, 0, 0, 0), (91, .aload_n 0, 0, 0, 0), (92, .iload 6, 0, 0, 0), (94, .iload_n 2, 0, 0, 0), (95, .iload_n 3, 0, 0, 0)],
  [(96, .iload 4, 0, 0, 0), (98, .invokevirtual 84, 43, 8, 483), (101, .istore 8, 0, 0, 0), (103, .aload_n 0, 0, 0, 0), (104, .iload 7, 0, 0, 0), (106, .iload 5, 0, 0, 0), (108, .iconst 4, 0, 0, 0), (109, .if_icmp .ne 7, 0, 0, 0), (112, .iload_n 2, 0, 0, 0), (113, .goto 6, 0, 0, 0), (116, .iload_n 2, 0, 0, 0), (117, .iconst 1, 0, 0, 0), (118, .iadd, 0, 0, 0), (119, .iload_n 3, 0, 0, 0), (120, .iload 4, 0, 0, 0), (122, .invokevirtual 84, 43, 8, 483), (125, .istore 9, 0, 0, 0), (127, .iload 8, 0, 0, 0)],
  [(129, .iload 6, 0, 0, 0), (131, .if_icmp .ne 14, 0, 0, 0), (134, .iload 9, 0, 0, 0), (136, .iload 7, 0, 0, 0), (138, .if_icmp .ne 7, 0, 0, 0), (141, .iload_n 1, 0, 0, 0), (142, .goto 13, 0, 0, 0), (145, .aload_n 0, 0, 0, 0), (146, .iload 5, 0, 0, 0), (148, .iload 8, 0, 0, 0), (150, .iload 9, 0, 0, 0), (152, .invokevirtual 88, 38, 6, 484), (155, .ireturn, 0, 0, 0)]]
def am_c44 : List (List (Nat × am_I)) := [[(0, .iload_n 1, 0, 0, 0), (1, .iload_n 2, 0, 0, 0), (2, .if_icmp .eq 12, 0, 0, 0), (5, .aload_n 0, 0, 0, 0), (6, .iload_n 1, 0, 0, 0), (7, .invokevirtual 54, 28, 2, 301), (10, .iconst 4, 0, 0, 0), (11, .if_icmp .eq 5, 0, 0, 0), (14, .iload_n 3, 0, 0, 0), (15, .ireturn, 0, 0, 0), (16, .aload_n 0, 0, 0, 0), (17, .iconst 4, 0, 0, 0), (18, .aload_n 0, 0, 0, 0), (19, .aload_n 0, 0, 0, 0), (20, .iload_n 1, 0, 0, 0), (21, .invokevirtual 57, 29, 2, 302), (24, .iload_n 2, 0, 0, 0), (25, .iload_n 3, 0, 0, 0), (26, .invokevirtual 95, 44, 6, 517), (29, .aload_n 0, 0, 0, 0), (30, .iload_n 1, 0, 0, 0), (31, .invokevirtual 60, 30, 2, 303)],
  [(34, .invokevirtual 88, 38, 6, 484), (37, .ireturn, 0, 0, 0)]]
def am_c45 : List (List (Nat × am_I)) := [[(0, .aload_n 0, 0, 0, 0), (1, .invokespecial 3, 1001, 0, 97), (4, .aload_n 0, 0, 0, 0), (5, .sipush 512, 0, 0, 0), (8, .newarray .int, 0, 0, 0), (10, .putfield 9, 4, 2, 100), (13, .aload_n 0, 0, 0, 0), (14, .sipush 512, 0, 0, 0), (17, .newarray .int, 0, 0, 0), (19, .putfield 15, 4, 3, 101), (22, .aload_n 0, 0, 0, 0), (23, .iconst 0, 0, 0, 0), (24, .putfield 18, 4, 4, 102), (27, .aload_n 0, 0, 0, 0), (28, .iconst 0, 0, 0, 0), (29, .putfield 22, 4, 5, 103)],
  [(32, .aload_n 0, 0, 0, 0), (33, .iconst 0, 0, 0, 0), (34, .putfield 25, 4, 6, 104), (37, .aload_n 0, 0, 0, 0), (38, .aload_n 1, 0, 0, 0), (39, .putfield 28, 4, 0, 98), (42, .aload_n 0, 0, 0, 0), (43, .aload_n 2, 0, 0, 0), (44, .putfield 32, 4, 1, 99), (47, .return_, 0, 0, 0)]]
def am_c46 : List (List (Nat × am_I)) := [[(0, .aload_n 0, 0, 0, 0), (1, .iload_n 1, 0, 0, 0), (2, .putfield 22, 4, 5, 103), (5, .aload_n 0, 0, 0, 0), (6, .iconst 0, 0, 0, 0), (7, .putfield 25, 4, 6, 104), (10, .return_, 0, 0, 0)]]
def am_c47 : List (List (Nat × am_I)) := [[(0, .aload_n 0, 0, 0, 0), (1, .getfield 25, 4, 6, 104), (4, .ireturn, 0, 0, 0)]]
def am_c48 : List (List (Nat × am_I)) := [[(0, .iload_n 1, 0, 0, 0), (1, .istore_n 2, 0, 0, 0), (2, .iconst 0, 0, 0, 0), (3, .istore_n 3, 0, 0, 0), (4, .iload_n 3, 0, 0, 0), (5, .bipush 30, 0, 0, 0), (7, .if_icmp .gt 166, 0, 0, 0), (10, .aload_n 0, 0, 0, 0), (11, .iload_n 2, 0, 0, 0), (12, .invokevirtual 36, 49, 2, 501), (15, .istore 4, 0, 0, 0), (17, .iload 4, 0, 0, 0), (19, .iconst (-1), 0, 0, 0), (20, .if_icmp .ne 5, 0, 0, 0), (23, .iload_n 2, 0, 0, 0), (24, .ireturn, 0, 0, 0), (25, .aload_n 0, 0, 0, 0), (26, .getfield 25, 4, 6, 104), (29, .aload_n 0, 0, 0, 0), (30, .getfield 22, 4, 5, 103)],
  [(33, .if_icmp .lt 13, 0, 0, 0), (36, .new 40, 1007, 2, 508), (46, .aload_n 0, 0, 0, 0), (47, .getfield 28, 4, 0, 98), (50, .iload 4, 0, 0, 0), (52, .invokevirtual 47, 29, 2, 506), (55, .istore 5, 0, 0, 0), (57, .aload_n 0, 0, 0, 0), (58, .getfield 28, 4, 0, 98), (61, .iload 4, 0, 0, 0), (63, .invokevirtual 52, 28, 2, 505)],
  [(66, .iconst 5, 0, 0, 0), (67, .if_icmp .ne 7, 0, 0, 0), (70, .iconst 1, 0, 0, 0), (71, .goto 4, 0, 0, 0), (74, .iconst 0, 0, 0, 0), (75, .istore 6, 0, 0, 0), (77, .iload 6, 0, 0, 0), (79, .ifCond .eq 15, 0, 0, 0), (82, .aload_n 0, 0, 0, 0), (83, .getfield 32, 4, 1, 99), (86, .iload 5, 0, 0, 0), (88, .invokevirtual 55, 5, 2, 507), (91, .goto 30, 0, 0, 0), (94, .aload_n 0, 0, 0, 0), (95, .getfield 28, 4, 0, 98)],
  [(98, .aload_n 0, 0, 0, 0), (99, .getfield 28, 4, 0, 98), (102, .iload 5, 0, 0, 0), (104, .invokevirtual 60, 30, 2, 511), (107, .iconst 0, 0, 0, 0), (108, .aload_n 0, 0, 0, 0), (109, .getfield 28, 4, 0, 98), (112, .iload 4, 0, 0, 0), (114, .invokevirtual 60, 30, 2, 511), (117, .iconst (-1), 0, 0, 0), (118, .invokevirtual 63, 43, 8, 512), (121, .istore 7, 0, 0, 0), (123, .aload_n 0, 0, 0, 0), (124, .getfield 28, 4, 0, 98), (127, .iload_n 2, 0, 0, 0)],
  [(128, .iload 4, 0, 0, 0), (130, .iload 7, 0, 0, 0), (132, .invokevirtual 67, 44, 6, 513), (135, .istore_n 2, 0, 0, 0), (136, .aload_n 0, 0, 0, 0), (137, .getfield 28, 4, 0, 98), (140, .iload_n 2, 0, 0, 0), (141, .invokevirtual 71, 34, 2, 518), (144, .ifCond .eq 13, 0, 0, 0), (147, .new 40, 1008, 2, 508), (157, .aload_n 0, 0, 0, 0), (158, .dup, 0, 0, 0), (159, .getfield 25, 4, 6, 104)],
  [(162, .iconst 1, 0, 0, 0), (163, .iadd, 0, 0, 0), (164, .putfield 25, 4, 6, 104), (167, .iinc 3 1, 0, 0, 0), (170, .goto (-166), 0, 0, 0), (173, .new 40, 1009, 2, 508)]]
def am_c49 : List (List (Nat × am_I)) := [[(0, .iload_n 1, 0, 0, 0), (1, .istore_n 2, 0, 0, 0), (2, .iconst (-1), 0, 0, 0), (3, .istore_n 3, 0, 0, 0), (4, .iconst 0, 0, 0, 0), (5, .istore 4, 0, 0, 0), (7, .iload 4, 0, 0, 0), (9, .bipush 12, 0, 0, 0), (11, .if_icmp .ge 32, 0, 0, 0), (14, .aload_n 0, 0, 0, 0), (15, .getfield 28, 4, 0, 98), (18, .iload_n 2, 0, 0, 0), (19, .invokevirtual 52, 28, 2, 505), (22, .iconst 4, 0, 0, 0), (23, .if_icmp .ne 20, 0, 0, 0), (26, .iload_n 2, 0, 0, 0), (27, .istore_n 3, 0, 0, 0), (28, .aload_n 0, 0, 0, 0), (29, .getfield 28, 4, 0, 98)],
  [(32, .iload_n 2, 0, 0, 0), (33, .invokevirtual 47, 29, 2, 506), (36, .istore_n 2, 0, 0, 0), (37, .iinc 4 1, 0, 0, 0), (40, .goto (-33), 0, 0, 0), (43, .aload_n 0, 0, 0, 0), (44, .getfield 28, 4, 0, 98), (47, .iload_n 2, 0, 0, 0), (48, .invokevirtual 52, 28, 2, 505), (51, .istore 4, 0, 0, 0), (53, .iload 4, 0, 0, 0), (55, .iconst 3, 0, 0, 0), (56, .if_icmp .ne 5, 0, 0, 0), (59, .iload_n 3, 0, 0, 0), (60, .ireturn, 0, 0, 0), (61, .iload 4, 0, 0, 0), (63, .iconst 5, 0, 0, 0)],
  [(64, .if_icmp .ne 26, 0, 0, 0), (67, .aload_n 0, 0, 0, 0), (68, .getfield 32, 4, 1, 99), (71, .aload_n 0, 0, 0, 0), (72, .getfield 28, 4, 0, 98), (75, .iload_n 2, 0, 0, 0), (76, .invokevirtual 47, 29, 2, 506), (79, .invokevirtual 55, 5, 2, 507), (82, .iconst (-1), 0, 0, 0), (83, .if_icmp .eq 7, 0, 0, 0), (86, .iconst 1, 0, 0, 0), (87, .goto 4, 0, 0, 0), (90, .iconst 0, 0, 0, 0), (91, .istore 5, 0, 0, 0), (93, .iload 5, 0, 0, 0), (95, .ifCond .eq 7, 0, 0, 0)],
  [(98, .iload_n 2, 0, 0, 0), (99, .goto 4, 0, 0, 0), (102, .iconst (-1), 0, 0, 0), (103, .ireturn, 0, 0, 0)]]
def am_c50 : List (List (Nat × am_I)) := [[(0, .aload_n 0, 0, 0, 0), (1, .iconst 0, 0, 0, 0), (2, .putfield 18, 4, 4, 102), (5, .aload_n 0, 0, 0, 0), (6, .iload_n 1, 0, 0, 0), (7, .iload_n 2, 0, 0, 0), (8, .invokevirtual 79, 54, 4, 552), (11, .iconst 0, 0, 0, 0), (12, .istore_n 3, 0, 0, 0), (13, .aload_n 0, 0, 0, 0), (14, .getfield 18, 4, 4, 102), (17, .ifCond .le 89, 0, 0, 0), (20, .iload_n 3, 0, 0, 0), (21, .ldc 83, 1000000, 0, 557), (23, .if_icmp .ge 83, 0, 0, 0), (26, .aload_n 0, 0, 0, 0), (27, .dup, 0, 0, 0), (28, .getfield 18, 4, 4, 102), (31, .iconst 1, 0, 0, 0)],
  [(32, .isub, 0, 0, 0), (33, .putfield 18, 4, 4, 102), (36, .aload_n 0, 0, 0, 0), (37, .aload_n 0, 0, 0, 0), (38, .aload_n 0, 0, 0, 0), (39, .getfield 9, 4, 2, 100), (42, .invokevirtual 84, 51, 2, 558), (45, .invokevirtual 88, 48, 2, 562), (48, .istore 4, 0, 0, 0), (50, .aload_n 0, 0, 0, 0), (51, .aload_n 0, 0, 0, 0), (52, .aload_n 0, 0, 0, 0), (53, .getfield 15, 4, 3, 101), (56, .invokevirtual 84, 51, 2, 558), (59, .invokevirtual 88, 48, 2, 562), (62, .istore 5, 0, 0, 0)],
  [(64, .aload_n 0, 0, 0, 0), (65, .iload 4, 0, 0, 0), (67, .iload 5, 0, 0, 0), (69, .invokevirtual 91, 52, 4, 563), (72, .ifCond .ne 5, 0, 0, 0), (75, .iconst 0, 0, 0, 0), (76, .ireturn, 0, 0, 0), (77, .aload_n 0, 0, 0, 0), (78, .getfield 28, 4, 0, 98), (81, .iload 4, 0, 0, 0), (83, .invokevirtual 52, 28, 2, 505), (86, .invokestatic 95, 69, 3, 567), (89, .ifCond .eq 11, 0, 0, 0), (92, .aload_n 0, 0, 0, 0), (93, .iload 4, 0, 0, 0), (95, .iload 5, 0, 0, 0)],
  [(97, .invokevirtual 98, 53, 4, 568), (100, .iinc 3 1, 0, 0, 0), (103, .goto (-90), 0, 0, 0), (106, .aload_n 0, 0, 0, 0), (107, .getfield 18, 4, 4, 102), (110, .ifCond .ne 7, 0, 0, 0), (113, .iconst 1, 0, 0, 0), (114, .goto 4, 0, 0, 0), (117, .iconst 0, 0, 0, 0), (118, .ireturn, 0, 0, 0)]]
def am_c51 : List (List (Nat × am_I)) := [[(0, .aload_n 0, 0, 0, 0), (1, .getfield 18, 4, 4, 102), (4, .ifCond .lt 21, 0, 0, 0), (7, .aload_n 0, 0, 0, 0), (8, .getfield 18, 4, 4, 102), (11, .aload_n 1, 0, 0, 0), (12, .arraylength, 0, 0, 0), (13, .if_icmp .ge 12, 0, 0, 0), (16, .aload_n 1, 0, 0, 0), (17, .aload_n 0, 0, 0, 0), (18, .getfield 18, 4, 4, 102), (21, .iaload, 0, 0, 0), (22, .goto 4, 0, 0, 0), (25, .iconst (-1), 0, 0, 0), (26, .ireturn, 0, 0, 0)]]
def am_c52 : List (List (Nat × am_I)) := [[(0, .aload_n 0, 0, 0, 0), (1, .getfield 28, 4, 0, 98), (4, .iload_n 1, 0, 0, 0), (5, .invokevirtual 52, 28, 2, 505), (8, .istore_n 3, 0, 0, 0), (9, .iload_n 3, 0, 0, 0), (10, .aload_n 0, 0, 0, 0), (11, .getfield 28, 4, 0, 98), (14, .iload_n 2, 0, 0, 0), (15, .invokevirtual 52, 28, 2, 505), (18, .if_icmp .eq 5, 0, 0, 0), (21, .iconst 0, 0, 0, 0), (22, .ireturn, 0, 0, 0), (23, .iload_n 3, 0, 0, 0), (24, .invokestatic 95, 69, 3, 567), (27, .ifCond .ne 22, 0, 0, 0), (30, .aload_n 0, 0, 0, 0), (31, .getfield 28, 4, 0, 98)],
  [(34, .iload_n 1, 0, 0, 0), (35, .invokevirtual 47, 29, 2, 506), (38, .aload_n 0, 0, 0, 0), (39, .getfield 28, 4, 0, 98), (42, .iload_n 2, 0, 0, 0), (43, .invokevirtual 47, 29, 2, 506), (46, .if_icmp .ne 7, 0, 0, 0), (49, .iconst 1, 0, 0, 0), (50, .goto 4, 0, 0, 0), (53, .iconst 0, 0, 0, 0), (54, .ireturn, 0, 0, 0)]]
def am_c53 : List (List (Nat × am_I)) := [[(0, .aload_n 0, 0, 0, 0), (1, .aload_n 0, 0, 0, 0), (2, .getfield 28, 4, 0, 98), (5, .iload_n 1, 0, 0, 0), (6, .invokevirtual 60, 30, 2, 511), (9, .aload_n 0, 0, 0, 0), (10, .getfield 28, 4, 0, 98), (13, .iload_n 2, 0, 0, 0), (14, .invokevirtual 60, 30, 2, 511), (17, .invokevirtual 79, 54, 4, 552), (20, .aload_n 0, 0, 0, 0), (21, .aload_n 0, 0, 0, 0), (22, .getfield 28, 4, 0, 98), (25, .iload_n 1, 0, 0, 0), (26, .invokevirtual 47, 29, 2, 506), (29, .aload_n 0, 0, 0, 0), (30, .getfield 28, 4, 0, 98)],
  [(33, .iload_n 2, 0, 0, 0), (34, .invokevirtual 47, 29, 2, 506), (37, .invokevirtual 79, 54, 4, 552), (40, .return_, 0, 0, 0)]]
def am_c54 : List (List (Nat × am_I)) := [[(0, .aload_n 0, 0, 0, 0), (1, .getfield 18, 4, 4, 102), (4, .ifCond .lt 13, 0, 0, 0), (7, .aload_n 0, 0, 0, 0), (8, .getfield 18, 4, 4, 102), (11, .sipush 512, 0, 0, 0), (14, .if_icmp .lt 13, 0, 0, 0), (17, .new 40, 1010, 2, 508), (27, .aload_n 0, 0, 0, 0), (28, .getfield 9, 4, 2, 100), (31, .aload_n 0, 0, 0, 0)],
  [(32, .getfield 18, 4, 4, 102), (35, .iload_n 1, 0, 0, 0), (36, .iastore, 0, 0, 0), (37, .aload_n 0, 0, 0, 0), (38, .getfield 15, 4, 3, 101), (41, .aload_n 0, 0, 0, 0), (42, .getfield 18, 4, 4, 102), (45, .iload_n 2, 0, 0, 0), (46, .iastore, 0, 0, 0), (47, .aload_n 0, 0, 0, 0), (48, .dup, 0, 0, 0), (49, .getfield 18, 4, 4, 102), (52, .iconst 1, 0, 0, 0), (53, .iadd, 0, 0, 0), (54, .putfield 18, 4, 4, 102), (57, .return_, 0, 0, 0)]]
def am_c55 : List (List (Nat × am_I)) := [[(0, .aload_n 0, 0, 0, 0), (1, .invokespecial 1, 1001, 0, 41), (4, .aload_n 0, 0, 0, 0), (5, .new 7, 3, 0, 44), (8, .dup, 0, 0, 0), (9, .invokespecial 9, 25, 1, 46), (12, .putfield 10, 5, 0, 158), (15, .aload_n 0, 0, 0, 0), (16, .new 16, 0, 0, 76), (19, .dup, 0, 0, 0), (20, .invokespecial 18, 0, 1, 78), (23, .putfield 19, 5, 1, 159), (26, .aload_n 0, 0, 0, 0), (27, .new 23, 4, 0, 92), (30, .dup, 0, 0, 0), (31, .aload_n 0, 0, 0, 0)],
  [(32, .getfield 10, 5, 0, 158), (35, .aload_n 0, 0, 0, 0), (36, .getfield 19, 5, 1, 159), (39, .invokespecial 25, 45, 4, 94), (42, .putfield 28, 5, 2, 160), (45, .aload_n 0, 0, 0, 0), (46, .new 32, 1, 0, 120), (49, .dup, 0, 0, 0), (50, .aload_n 0, 0, 0, 0), (51, .getfield 10, 5, 0, 158), (54, .aload_n 0, 0, 0, 0), (55, .getfield 19, 5, 1, 159), (58, .aload_n 0, 0, 0, 0), (59, .getfield 28, 5, 2, 160), (62, .invokespecial 34, 7, 6, 122)],
  [(65, .putfield 37, 5, 3, 161), (68, .aload_n 0, 0, 0, 0), (69, .new 41, 2, 0, 142), (72, .dup, 0, 0, 0), (73, .invokespecial 43, 17, 1, 144), (76, .putfield 44, 5, 4, 162), (79, .aload_n 0, 0, 0, 0), (80, .new 41, 2, 0, 142), (83, .dup, 0, 0, 0), (84, .invokespecial 43, 17, 1, 144), (87, .putfield 48, 5, 5, 163), (90, .return_, 0, 0, 0)]]
def am_c56 : List (List (Nat × am_I)) := [[(0, .aload_n 0, 0, 0, 0), (1, .iload_n 1, 0, 0, 0), (2, .iload_n 2, 0, 0, 0), (3, .iload_n 3, 0, 0, 0), (4, .invokevirtual 51, 70, 6, 181), (7, .ifCond .ne 5, 0, 0, 0), (10, .iconst (-1), 0, 0, 0), (11, .ireturn, 0, 0, 0), (12, .aload_n 0, 0, 0, 0), (13, .getfield 10, 5, 0, 158), (16, .iload_n 1, 0, 0, 0), (17, .iload_n 2, 0, 0, 0), (18, .iload_n 1, 0, 0, 0), (19, .invokestatic 55, 69, 2, 189), (22, .ifCond .eq 7, 0, 0, 0), (25, .iload_n 3, 0, 0, 0), (26, .goto 4, 0, 0, 0), (29, .iconst (-1), 0, 0, 0), (30, .invokevirtual 59, 35, 6, 211)],
  [(33, .ireturn, 0, 0, 0)]]
def am_c57 : List (List (Nat × am_I)) := [[(0, .aload_n 0, 0, 0, 0), (1, .getfield 10, 5, 0, 158), (4, .invokevirtual 63, 26, 0, 223), (7, .ireturn, 0, 0, 0)]]
def am_c58 : List (List (Nat × am_I)) := [[(0, .aload_n 0, 0, 0, 0), (1, .iload_n 1, 0, 0, 0), (2, .iload_n 1, 0, 0, 0), (3, .iload_n 2, 0, 0, 0), (4, .invokevirtual 86, 71, 6, 420), (7, .aload_n 0, 0, 0, 0), (8, .getfield 44, 5, 4, 162), (11, .aload_n 0, 0, 0, 0), (12, .getfield 10, 5, 0, 158), (15, .aload_n 0, 0, 0, 0), (16, .getfield 37, 5, 3, 161), (19, .iload_n 1, 0, 0, 0), (20, .invokevirtual 90, 9, 2, 452), (23, .invokevirtual 93, 21, 4, 252), (26, .ireturn, 0, 0, 0)]]
def am_c59 : List (List (Nat × am_I)) := [[(0, .aload_n 0, 0, 0, 0), (1, .iload_n 1, 0, 0, 0), (2, .iload_n 1, 0, 0, 0), (3, .iload_n 2, 0, 0, 0), (4, .invokevirtual 86, 71, 6, 420), (7, .aload_n 0, 0, 0, 0), (8, .getfield 44, 5, 4, 162), (11, .aload_n 0, 0, 0, 0), (12, .getfield 10, 5, 0, 158), (15, .aload_n 0, 0, 0, 0), (16, .getfield 28, 5, 2, 160), (19, .iload_n 1, 0, 0, 0), (20, .invokevirtual 97, 48, 2, 580), (23, .invokevirtual 93, 21, 4, 252), (26, .ireturn, 0, 0, 0)]]
def am_c60 : List (List (Nat × am_I)) := [[(0, .aload_n 0, 0, 0, 0), (1, .iload_n 1, 0, 0, 0), (2, .iload_n 2, 0, 0, 0), (3, .iload_n 3, 0, 0, 0), (4, .invokevirtual 86, 71, 6, 420), (7, .aload_n 0, 0, 0, 0), (8, .getfield 28, 5, 2, 160), (11, .iload_n 1, 0, 0, 0), (12, .iload_n 2, 0, 0, 0), (13, .invokevirtual 100, 50, 4, 588), (16, .ireturn, 0, 0, 0)]]
def am_c61 : List (List (Nat × am_I)) := [[(0, .aload_n 0, 0, 0, 0), (1, .iload_n 1, 0, 0, 0), (2, .iload_n 2, 0, 0, 0), (3, .iload_n 3, 0, 0, 0), (4, .invokevirtual 86, 71, 6, 420), (7, .aload_n 0, 0, 0, 0), (8, .getfield 37, 5, 3, 161), (11, .aload_n 0, 0, 0, 0), (12, .getfield 37, 5, 3, 161), (15, .iload_n 2, 0, 0, 0), (16, .invokevirtual 90, 9, 2, 452), (19, .invokevirtual 104, 10, 2, 596), (22, .pop, 0, 0, 0), (23, .aload_n 0, 0, 0, 0), (24, .getfield 28, 5, 2, 160), (27, .aload_n 0, 0, 0, 0), (28, .getfield 37, 5, 3, 161), (31, .iload_n 1, 0, 0, 0)],
  [(32, .invokevirtual 90, 9, 2, 452), (35, .iload_n 2, 0, 0, 0), (36, .invokevirtual 100, 50, 4, 588), (39, .ireturn, 0, 0, 0)]]
def am_c62 : List (List (Nat × am_I)) := [[(0, .aload_n 0, 0, 0, 0), (1, .getfield 19, 5, 1, 159), (4, .invokevirtual 107, 2, 0, 604), (7, .ifCond .eq 8, 0, 0, 0), (10, .aload_n 0, 0, 0, 0), (11, .invokevirtual 111, 72, 0, 608), (14, .ireturn, 0, 0, 0), (15, .aload_n 0, 0, 0, 0), (16, .iload_n 1, 0, 0, 0), (17, .iload_n 1, 0, 0, 0), (18, .iload_n 2, 0, 0, 0), (19, .invokevirtual 86, 71, 6, 420), (22, .aload_n 0, 0, 0, 0), (23, .getfield 37, 5, 3, 161), (26, .aload_n 0, 0, 0, 0), (27, .getfield 37, 5, 3, 161), (30, .iload_n 1, 0, 0, 0), (31, .invokevirtual 90, 9, 2, 452)],
  [(34, .invokevirtual 104, 10, 2, 596), (37, .pop, 0, 0, 0), (38, .aload_n 0, 0, 0, 0), (39, .getfield 19, 5, 1, 159), (42, .iload_n 1, 0, 0, 0), (43, .iconst (-1), 0, 0, 0), (44, .invokevirtual 114, 6, 4, 620), (47, .ireturn, 0, 0, 0)]]
def am_c63 : List (List (Nat × am_I)) := [[(0, .aload_n 0, 0, 0, 0), (1, .getfield 19, 5, 1, 159), (4, .invokevirtual 107, 2, 0, 604), (7, .ifCond .eq 8, 0, 0, 0), (10, .aload_n 0, 0, 0, 0), (11, .invokevirtual 111, 72, 0, 608), (14, .ireturn, 0, 0, 0), (15, .aload_n 0, 0, 0, 0), (16, .iload_n 1, 0, 0, 0), (17, .iload_n 1, 0, 0, 0), (18, .iload_n 2, 0, 0, 0), (19, .invokevirtual 86, 71, 6, 420), (22, .aload_n 0, 0, 0, 0), (23, .getfield 48, 5, 5, 163), (26, .aload_n 0, 0, 0, 0), (27, .getfield 10, 5, 0, 158), (30, .aload_n 0, 0, 0, 0), (31, .getfield 37, 5, 3, 161)],
  [(34, .iload_n 1, 0, 0, 0), (35, .invokevirtual 90, 9, 2, 452), (38, .invokevirtual 93, 21, 4, 252), (41, .pop, 0, 0, 0), (42, .aload_n 0, 0, 0, 0), (43, .getfield 48, 5, 5, 163), (46, .iconst 1, 0, 0, 0), (47, .invokevirtual 118, 20, 2, 281), (50, .ifCond .eq 5, 0, 0, 0), (53, .iconst (-1), 0, 0, 0), (54, .ireturn, 0, 0, 0), (55, .aload_n 0, 0, 0, 0), (56, .getfield 19, 5, 1, 159), (59, .aload_n 0, 0, 0, 0), (60, .aload_n 0, 0, 0, 0), (61, .getfield 48, 5, 5, 163)],
  [(64, .invokevirtual 121, 73, 2, 612), (67, .iload_n 1, 0, 0, 0), (68, .invokevirtual 114, 6, 4, 620), (71, .ireturn, 0, 0, 0)]]
def am_c64 : List (List (Nat × am_I)) := [[(0, .aload_n 0, 0, 0, 0), (1, .getfield 19, 5, 1, 159), (4, .invokevirtual 125, 1, 0, 231), (7, .ireturn, 0, 0, 0)]]
def am_c65 : List (List (Nat × am_I)) := [[(0, .aload_n 0, 0, 0, 0), (1, .getfield 19, 5, 1, 159), (4, .iload_n 1, 0, 0, 0), (5, .invokevirtual 128, 5, 2, 239), (8, .iconst (-1), 0, 0, 0), (9, .if_icmp .eq 7, 0, 0, 0), (12, .iconst 1, 0, 0, 0), (13, .goto 4, 0, 0, 0), (16, .iconst 0, 0, 0, 0), (17, .ireturn, 0, 0, 0)]]
def am_c66 : List (List (Nat × am_I)) := [[(0, .aload_n 0, 0, 0, 0), (1, .getfield 19, 5, 1, 159), (4, .iload_n 1, 0, 0, 0), (5, .invokevirtual 131, 3, 2, 185), (8, .ifCond .ne 5, 0, 0, 0), (11, .iconst (-1), 0, 0, 0), (12, .ireturn, 0, 0, 0), (13, .aload_n 0, 0, 0, 0), (14, .getfield 44, 5, 4, 162), (17, .aload_n 0, 0, 0, 0), (18, .getfield 10, 5, 0, 158), (21, .aload_n 0, 0, 0, 0), (22, .getfield 19, 5, 1, 159), (25, .iload_n 1, 0, 0, 0), (26, .invokevirtual 134, 4, 2, 248), (29, .invokevirtual 93, 21, 4, 252)],
  [(32, .ireturn, 0, 0, 0)]]
def am_c67 : List (List (Nat × am_I)) := [[(0, .aload_n 0, 0, 0, 0), (1, .getfield 44, 5, 4, 162), (4, .invokevirtual 140, 18, 0, 277), (7, .ifCond .ne 25, 0, 0, 0), (10, .aload_n 0, 0, 0, 0), (11, .getfield 44, 5, 4, 162), (14, .iconst 1, 0, 0, 0), (15, .invokevirtual 118, 20, 2, 281), (18, .ifCond .ne 14, 0, 0, 0), (21, .aload_n 0, 0, 0, 0), (22, .getfield 44, 5, 4, 162), (25, .iconst 0, 0, 0, 0), (26, .invokevirtual 118, 20, 2, 281), (29, .ifCond .eq 5, 0, 0, 0)],
  [(32, .iconst (-1), 0, 0, 0), (33, .ireturn, 0, 0, 0), (34, .aload_n 0, 0, 0, 0), (35, .getfield 10, 5, 0, 158), (38, .invokevirtual 63, 26, 0, 223), (41, .istore_n 1, 0, 0, 0), (42, .aload_n 0, 0, 0, 0), (43, .getfield 44, 5, 4, 162), (46, .aload_n 0, 0, 0, 0), (47, .getfield 10, 5, 0, 158), (50, .iconst 1, 0, 0, 0), (51, .invokevirtual 143, 23, 4, 289), (54, .istore_n 2, 0, 0, 0), (55, .iload_n 2, 0, 0, 0), (56, .iconst (-1), 0, 0, 0), (57, .if_icmp .ne 11, 0, 0, 0), (60, .aload_n 0, 0, 0, 0), (61, .getfield 10, 5, 0, 158)],
  [(64, .iload_n 1, 0, 0, 0), (65, .invokevirtual 147, 37, 2, 398), (68, .iload_n 2, 0, 0, 0), (69, .ireturn, 0, 0, 0)]]
def am_c68 : List (List (Nat × am_I)) := [[(0, .aload_n 0, 0, 0, 0), (1, .getfield 28, 5, 2, 160), (4, .invokevirtual 151, 47, 0, 406), (7, .ireturn, 0, 0, 0)]]
def am_c69 : List (List (Nat × am_I)) := [[(0, .iload_n 0, 0, 0, 0), (1, .iconst 2, 0, 0, 0), (2, .if_icmp .eq 13, 0, 0, 0), (5, .iload_n 0, 0, 0, 0), (6, .iconst 3, 0, 0, 0), (7, .if_icmp .eq 8, 0, 0, 0), (10, .iload_n 0, 0, 0, 0), (11, .iconst 4, 0, 0, 0), (12, .if_icmp .ne 7, 0, 0, 0), (15, .iconst 1, 0, 0, 0), (16, .goto 4, 0, 0, 0), (19, .iconst 0, 0, 0, 0), (20, .ireturn, 0, 0, 0)]]
def am_c70 : List (List (Nat × am_I)) := [[(0, .iload_n 1, 0, 0, 0), (1, .ifCond .eq 8, 0, 0, 0), (4, .iload_n 1, 0, 0, 0), (5, .iconst 1, 0, 0, 0), (6, .if_icmp .ne 19, 0, 0, 0), (9, .iload_n 2, 0, 0, 0), (10, .ifCond .lt 13, 0, 0, 0), (13, .iload_n 2, 0, 0, 0), (14, .bipush 9, 0, 0, 0), (16, .if_icmp .gt 7, 0, 0, 0), (19, .iconst 1, 0, 0, 0), (20, .goto 4, 0, 0, 0), (23, .iconst 0, 0, 0, 0), (24, .ireturn, 0, 0, 0), (25, .iload_n 1, 0, 0, 0), (26, .iconst 5, 0, 0, 0), (27, .if_icmp .ne 12, 0, 0, 0), (30, .aload_n 0, 0, 0, 0), (31, .getfield 19, 5, 1, 159)],
  [(34, .iload_n 2, 0, 0, 0), (35, .invokevirtual 131, 3, 2, 185), (38, .ireturn, 0, 0, 0), (39, .iload_n 1, 0, 0, 0), (40, .invokestatic 55, 69, 2, 189), (43, .ifCond .eq 41, 0, 0, 0), (46, .aload_n 0, 0, 0, 0), (47, .getfield 10, 5, 0, 158), (50, .iload_n 2, 0, 0, 0), (51, .invokevirtual 67, 27, 2, 192), (54, .ifCond .eq 30, 0, 0, 0), (57, .aload_n 0, 0, 0, 0), (58, .getfield 10, 5, 0, 158), (61, .iload_n 3, 0, 0, 0), (62, .invokevirtual 67, 27, 2, 192)],
  [(65, .ifCond .eq 19, 0, 0, 0), (68, .aload_n 0, 0, 0, 0), (69, .getfield 10, 5, 0, 158), (72, .iload_n 2, 0, 0, 0), (73, .iload_n 3, 0, 0, 0), (74, .invokevirtual 154, 33, 4, 196), (77, .ifCond .eq 7, 0, 0, 0), (80, .iconst 1, 0, 0, 0), (81, .goto 4, 0, 0, 0), (84, .iconst 0, 0, 0, 0), (85, .ireturn, 0, 0, 0)]]
def am_c71 : List (List (Nat × am_I)) := [[(0, .aload_n 0, 0, 0, 0), (1, .getfield 10, 5, 0, 158), (4, .iload_n 1, 0, 0, 0), (5, .invokevirtual 67, 27, 2, 192), (8, .ifCond .eq 24, 0, 0, 0), (11, .aload_n 0, 0, 0, 0), (12, .getfield 10, 5, 0, 158), (15, .iload_n 2, 0, 0, 0), (16, .invokevirtual 67, 27, 2, 192), (19, .ifCond .eq 13, 0, 0, 0), (22, .iload_n 3, 0, 0, 0), (23, .ifCond .lt 9, 0, 0, 0), (26, .iload_n 3, 0, 0, 0), (27, .bipush 30, 0, 0, 0), (29, .if_icmp .le 13, 0, 0, 0)],
  [(32, .new 157, 1011, 0, 424), (42, .aload_n 0, 0, 0, 0), (43, .getfield 10, 5, 0, 158), (46, .invokevirtual 164, 41, 0, 440), (49, .aload_n 0, 0, 0, 0), (50, .getfield 28, 5, 2, 160), (53, .iload_n 3, 0, 0, 0), (54, .invokevirtual 167, 46, 2, 444), (57, .aload_n 0, 0, 0, 0), (58, .getfield 37, 5, 3, 161), (61, .invokevirtual 170, 8, 0, 448)],
  [(64, .return_, 0, 0, 0)]]
def am_c72 : List (List (Nat × am_I)) := [[(0, .aload_n 0, 0, 0, 0), (1, .getfield 28, 5, 2, 160), (4, .iconst 0, 0, 0, 0), (5, .invokevirtual 167, 46, 2, 444), (8, .iconst (-1), 0, 0, 0), (9, .ireturn, 0, 0, 0)]]
def am_c73 : List (List (Nat × am_I)) := [[(0, .aload_n 0, 0, 0, 0), (1, .getfield 10, 5, 0, 158), (4, .invokevirtual 164, 41, 0, 440), (7, .aload_n 1, 0, 0, 0), (8, .aload_n 0, 0, 0, 0), (9, .getfield 10, 5, 0, 158), (12, .iconst 0, 0, 0, 0), (13, .invokevirtual 143, 23, 4, 289), (16, .istore_n 2, 0, 0, 0), (17, .aload_n 0, 0, 0, 0), (18, .getfield 10, 5, 0, 158), (21, .invokevirtual 173, 42, 0, 616), (24, .iload_n 2, 0, 0, 0), (25, .ireturn, 0, 0, 0)]]
def am_c74 : List (List (Nat × am_I)) := [[(0, .aload_n 0, 0, 0, 0), (1, .iload_n 1, 0, 0, 0), (2, .iload_n 2, 0, 0, 0), (3, .invokevirtual 7, 58, 4, 416), (6, .ireturn, 0, 0, 0), (7, .astore_n 3, 0, 0, 0), (8, .iconst (-1), 0, 0, 0), (9, .ireturn, 0, 0, 0), (10, .astore_n 3, 0, 0, 0), (11, .bipush (-2), 0, 0, 0), (13, .ireturn, 0, 0, 0), (14, .astore_n 3, 0, 0, 0), (15, .bipush (-3), 0, 0, 0), (17, .ireturn, 0, 0, 0)]]
def am_c75 : List (List (Nat × am_I)) := [[(0, .aload_n 0, 0, 0, 0), (1, .iload_n 1, 0, 0, 0), (2, .iload_n 2, 0, 0, 0), (3, .invokevirtual 19, 59, 4, 576), (6, .ireturn, 0, 0, 0), (7, .astore_n 3, 0, 0, 0), (8, .iconst (-1), 0, 0, 0), (9, .ireturn, 0, 0, 0), (10, .astore_n 3, 0, 0, 0), (11, .bipush (-3), 0, 0, 0), (13, .ireturn, 0, 0, 0)]]
def am_c76 : List (List (Nat × am_I)) := [[(0, .aload_n 0, 0, 0, 0), (1, .iload_n 1, 0, 0, 0), (2, .iload_n 2, 0, 0, 0), (3, .iload_n 3, 0, 0, 0), (4, .invokevirtual 22, 60, 6, 584), (7, .ifCond .eq 7, 0, 0, 0), (10, .iconst 1, 0, 0, 0), (11, .goto 4, 0, 0, 0), (14, .iconst 0, 0, 0, 0), (15, .ireturn, 0, 0, 0), (16, .astore 4, 0, 0, 0), (18, .iconst (-1), 0, 0, 0), (19, .ireturn, 0, 0, 0), (20, .astore 4, 0, 0, 0), (22, .bipush (-3), 0, 0, 0), (24, .ireturn, 0, 0, 0)]]
def am_c77 : List (List (Nat × am_I)) := [[(0, .aload_n 0, 0, 0, 0), (1, .iload_n 1, 0, 0, 0), (2, .iload_n 2, 0, 0, 0), (3, .iload_n 3, 0, 0, 0), (4, .invokevirtual 26, 61, 6, 592), (7, .ifCond .eq 7, 0, 0, 0), (10, .iconst 1, 0, 0, 0), (11, .goto 4, 0, 0, 0), (14, .iconst 0, 0, 0, 0), (15, .ireturn, 0, 0, 0), (16, .astore 4, 0, 0, 0), (18, .iconst (-1), 0, 0, 0), (19, .ireturn, 0, 0, 0), (20, .astore 4, 0, 0, 0), (22, .bipush (-2), 0, 0, 0), (24, .ireturn, 0, 0, 0), (25, .astore 4, 0, 0, 0), (27, .bipush (-3), 0, 0, 0), (29, .ireturn, 0, 0, 0)]]
def am_c78 : List (List (Nat × am_I)) := [[(0, .aload_n 0, 0, 0, 0), (1, .iload_n 1, 0, 0, 0), (2, .iload_n 2, 0, 0, 0), (3, .invokevirtual 29, 62, 4, 630), (6, .ireturn, 0, 0, 0), (7, .astore_n 3, 0, 0, 0), (8, .bipush (-4), 0, 0, 0), (10, .ireturn, 0, 0, 0), (11, .astore_n 3, 0, 0, 0), (12, .bipush (-2), 0, 0, 0), (14, .ireturn, 0, 0, 0), (15, .astore_n 3, 0, 0, 0), (16, .bipush (-3), 0, 0, 0), (18, .ireturn, 0, 0, 0)]]
def am_c79 : List (List (Nat × am_I)) := [[(0, .aload_n 0, 0, 0, 0), (1, .iload_n 1, 0, 0, 0), (2, .iload_n 2, 0, 0, 0), (3, .invokevirtual 32, 63, 4, 600), (6, .ireturn, 0, 0, 0), (7, .astore_n 3, 0, 0, 0), (8, .bipush (-4), 0, 0, 0), (10, .ireturn, 0, 0, 0), (11, .astore_n 3, 0, 0, 0), (12, .bipush (-2), 0, 0, 0), (14, .ireturn, 0, 0, 0), (15, .astore_n 3, 0, 0, 0), (16, .bipush (-3), 0, 0, 0), (18, .ireturn, 0, 0, 0)]]
def am_c80 : List (List (Nat × am_I)) := [[(0, .aload_n 0, 0, 0, 0), (1, .iconst 1, 0, 0, 0), (2, .iconst 0, 0, 0, 0), (3, .iconst 0, 0, 0, 0), (4, .invokevirtual 35, 56, 6, 177), (7, .ifCond .ne 103, 0, 0, 0), (10, .aload_n 0, 0, 0, 0), (11, .iconst 0, 0, 0, 0), (12, .iconst 0, 0, 0, 0), (13, .invokestatic 39, 78, 6, 627), (16, .ifCond .ne 94, 0, 0, 0), (19, .aload_n 0, 0, 0, 0), (20, .iconst 5, 0, 0, 0), (21, .iconst 0, 0, 0, 0), (22, .iconst 0, 0, 0, 0), (23, .invokevirtual 35, 56, 6, 177), (26, .iconst 1, 0, 0, 0), (27, .if_icmp .ne 83, 0, 0, 0), (30, .aload_n 0, 0, 0, 0), (31, .iconst 2, 0, 0, 0)],
  [(32, .iconst 1, 0, 0, 0), (33, .iconst 1, 0, 0, 0), (34, .invokevirtual 35, 56, 6, 177), (37, .iconst 2, 0, 0, 0), (38, .if_icmp .ne 72, 0, 0, 0), (41, .aload_n 0, 0, 0, 0), (42, .iconst 1, 0, 0, 0), (43, .iconst 0, 0, 0, 0), (44, .invokestatic 39, 78, 6, 627), (47, .iconst 1, 0, 0, 0), (48, .if_icmp .ne 62, 0, 0, 0), (51, .aload_n 0, 0, 0, 0), (52, .iconst 2, 0, 0, 0), (53, .iconst 0, 0, 0, 0), (54, .invokestatic 39, 78, 6, 627), (57, .iconst 2, 0, 0, 0), (58, .if_icmp .ne 52, 0, 0, 0), (61, .aload_n 0, 0, 0, 0), (62, .iconst 5, 0, 0, 0), (63, .iconst 1, 0, 0, 0)],
  [(64, .iconst 0, 0, 0, 0), (65, .invokevirtual 35, 56, 6, 177), (68, .iconst 3, 0, 0, 0), (69, .if_icmp .ne 41, 0, 0, 0), (72, .aload_n 0, 0, 0, 0), (73, .iconst 5, 0, 0, 0), (74, .iconst 2, 0, 0, 0), (75, .iconst 0, 0, 0, 0), (76, .invokevirtual 35, 56, 6, 177), (79, .iconst 4, 0, 0, 0), (80, .if_icmp .ne 30, 0, 0, 0), (83, .aload_n 0, 0, 0, 0), (84, .iconst 0, 0, 0, 0), (85, .iconst 0, 0, 0, 0), (86, .iconst 0, 0, 0, 0), (87, .invokevirtual 35, 56, 6, 177), (90, .iconst 5, 0, 0, 0), (91, .if_icmp .ne 19, 0, 0, 0), (94, .aload_n 0, 0, 0, 0), (95, .iconst 0, 0, 0, 0)],
  [(96, .iconst 1, 0, 0, 0), (97, .iconst 0, 0, 0, 0), (98, .invokevirtual 35, 56, 6, 177), (101, .bipush 6, 0, 0, 0), (103, .if_icmp .ne 7, 0, 0, 0), (106, .iconst 1, 0, 0, 0), (107, .goto 4, 0, 0, 0), (110, .iconst 0, 0, 0, 0), (111, .istore_n 1, 0, 0, 0), (112, .iload_n 1, 0, 0, 0), (113, .ifCond .eq 57, 0, 0, 0), (116, .aload_n 0, 0, 0, 0), (117, .iconst 3, 0, 0, 0), (118, .iconst 1, 0, 0, 0), (119, .iconst 5, 0, 0, 0), (120, .invokevirtual 35, 56, 6, 177), (123, .bipush 7, 0, 0, 0), (125, .if_icmp .ne 45, 0, 0, 0)],
  [(128, .aload_n 0, 0, 0, 0), (129, .iconst 4, 0, 0, 0), (130, .iconst 4, 0, 0, 0), (131, .iconst 5, 0, 0, 0), (132, .invokevirtual 35, 56, 6, 177), (135, .bipush 8, 0, 0, 0), (137, .if_icmp .ne 33, 0, 0, 0), (140, .aload_n 0, 0, 0, 0), (141, .iconst 4, 0, 0, 0), (142, .iconst 4, 0, 0, 0), (143, .bipush 8, 0, 0, 0), (145, .invokevirtual 35, 56, 6, 177), (148, .bipush 9, 0, 0, 0), (150, .if_icmp .ne 20, 0, 0, 0), (153, .aload_n 0, 0, 0, 0), (154, .iconst 3, 0, 0, 0), (155, .iconst 1, 0, 0, 0), (156, .bipush 9, 0, 0, 0), (158, .invokevirtual 35, 56, 6, 177)],
  [(161, .bipush 10, 0, 0, 0), (163, .if_icmp .ne 7, 0, 0, 0), (166, .iconst 1, 0, 0, 0), (167, .goto 4, 0, 0, 0), (170, .iconst 0, 0, 0, 0), (171, .istore_n 1, 0, 0, 0), (172, .iload_n 1, 0, 0, 0), (173, .ifCond .eq 60, 0, 0, 0), (176, .aload_n 0, 0, 0, 0), (177, .iconst 4, 0, 0, 0), (178, .bipush 6, 0, 0, 0), (180, .iconst 5, 0, 0, 0), (181, .invokevirtual 35, 56, 6, 177), (184, .bipush 11, 0, 0, 0), (186, .if_icmp .ne 47, 0, 0, 0), (189, .aload_n 0, 0, 0, 0), (190, .iconst 4, 0, 0, 0), (191, .bipush 6, 0, 0, 0)],
  [(193, .bipush 11, 0, 0, 0), (195, .invokevirtual 35, 56, 6, 177), (198, .bipush 12, 0, 0, 0), (200, .if_icmp .ne 33, 0, 0, 0), (203, .aload_n 0, 0, 0, 0), (204, .iconst 3, 0, 0, 0), (205, .iconst 1, 0, 0, 0), (206, .bipush 12, 0, 0, 0), (208, .invokevirtual 35, 56, 6, 177), (211, .bipush 13, 0, 0, 0), (213, .if_icmp .ne 20, 0, 0, 0), (216, .aload_n 0, 0, 0, 0), (217, .iconst 3, 0, 0, 0), (218, .iconst 2, 0, 0, 0), (219, .bipush 13, 0, 0, 0), (221, .invokevirtual 35, 56, 6, 177)],
  [(224, .bipush 14, 0, 0, 0), (226, .if_icmp .ne 7, 0, 0, 0), (229, .iconst 1, 0, 0, 0), (230, .goto 4, 0, 0, 0), (233, .iconst 0, 0, 0, 0), (234, .istore_n 1, 0, 0, 0), (235, .iload_n 1, 0, 0, 0), (236, .ifCond .eq 78, 0, 0, 0), (239, .aload_n 0, 0, 0, 0), (240, .iconst 3, 0, 0, 0), (241, .iconst 5, 0, 0, 0), (242, .iconst 5, 0, 0, 0), (243, .invokevirtual 35, 56, 6, 177), (246, .bipush 15, 0, 0, 0), (248, .if_icmp .ne 66, 0, 0, 0), (251, .aload_n 0, 0, 0, 0), (252, .iconst 3, 0, 0, 0), (253, .iconst 0, 0, 0, 0), (254, .bipush 15, 0, 0, 0)],
  [(256, .invokevirtual 35, 56, 6, 177), (259, .bipush 16, 0, 0, 0), (261, .if_icmp .ne 53, 0, 0, 0), (264, .aload_n 0, 0, 0, 0), (265, .bipush 14, 0, 0, 0), (267, .iconst 0, 0, 0, 0), (268, .invokestatic 44, 79, 6, 597), (271, .iconst 3, 0, 0, 0), (272, .if_icmp .ne 42, 0, 0, 0), (275, .aload_n 0, 0, 0, 0), (276, .iconst 5, 0, 0, 0), (277, .iconst 3, 0, 0, 0), (278, .iconst 0, 0, 0, 0), (279, .invokevirtual 35, 56, 6, 177), (282, .bipush 17, 0, 0, 0), (284, .if_icmp .ne 30, 0, 0, 0), (287, .aload_n 0, 0, 0, 0)],
  [(288, .bipush 10, 0, 0, 0), (290, .iconst 0, 0, 0, 0), (291, .invokestatic 44, 79, 6, 597), (294, .iconst 4, 0, 0, 0), (295, .if_icmp .ne 19, 0, 0, 0), (298, .aload_n 0, 0, 0, 0), (299, .iconst 5, 0, 0, 0), (300, .iconst 4, 0, 0, 0), (301, .iconst 0, 0, 0, 0), (302, .invokevirtual 35, 56, 6, 177), (305, .bipush 18, 0, 0, 0), (307, .if_icmp .ne 7, 0, 0, 0), (310, .iconst 1, 0, 0, 0), (311, .goto 4, 0, 0, 0), (314, .iconst 0, 0, 0, 0), (315, .istore_n 1, 0, 0, 0), (316, .iload_n 1, 0, 0, 0), (317, .ifCond .eq 8, 0, 0, 0)],
  [(320, .bipush 19, 0, 0, 0), (322, .goto 4, 0, 0, 0), (325, .iconst (-1), 0, 0, 0), (326, .ireturn, 0, 0, 0)]]
def am_c81 : List (List (Nat × am_I)) := [[(0, .new 8, 5, 0, 36), (3, .dup, 0, 0, 0), (4, .invokespecial 46, 55, 0, 38), (7, .astore_n 1, 0, 0, 0), (8, .aload_n 1, 0, 0, 0), (9, .invokestatic 47, 80, 2, 624), (12, .istore_n 2, 0, 0, 0), (13, .iload_n 2, 0, 0, 0), (14, .bipush 19, 0, 0, 0), (16, .if_icmp .eq 5, 0, 0, 0), (19, .iconst 0, 0, 0, 0), (20, .ireturn, 0, 0, 0), (21, .iconst 0, 0, 0, 0), (22, .istore_n 3, 0, 0, 0), (23, .iload_n 3, 0, 0, 0), (24, .aload_n 0, 0, 0, 0), (25, .arraylength, 0, 0, 0), (26, .if_icmp .ge 503, 0, 0, 0), (29, .aload_n 1, 0, 0, 0), (30, .invokevirtual 51, 57, 0, 219)],
  [(33, .bipush 80, 0, 0, 0), (35, .if_icmp .ge 494, 0, 0, 0), (38, .aload_n 0, 0, 0, 0), (39, .iload_n 3, 0, 0, 0), (40, .iaload, 0, 0, 0), (41, .istore 4, 0, 0, 0), (43, .iload 4, 0, 0, 0), (45, .iconst 3, 0, 0, 0), (46, .ishr, 0, 0, 0), (47, .sipush 255, 0, 0, 0), (50, .iand, 0, 0, 0), (51, .aload_n 1, 0, 0, 0), (52, .invokevirtual 51, 57, 0, 219), (55, .invokestatic 55, 82, 4, 634), (58, .istore 5, 0, 0, 0), (60, .iload 4, 0, 0, 0), (62, .bipush 11, 0, 0, 0)],
  [(64, .ishr, 0, 0, 0), (65, .sipush 255, 0, 0, 0), (68, .iand, 0, 0, 0), (69, .aload_n 1, 0, 0, 0), (70, .invokevirtual 51, 57, 0, 219), (73, .invokestatic 55, 82, 4, 634), (76, .istore 6, 0, 0, 0), (78, .iload 4, 0, 0, 0), (80, .bipush 7, 0, 0, 0), (82, .iand, 0, 0, 0), (83, .istore 7, 0, 0, 0), (85, .iload 7, 0, 0, 0), (87, .bipush 6, 0, 0, 0), (89, .if_icmp .ge 15, 0, 0, 0), (92, .aload_n 1, 0, 0, 0), (93, .iconst 4, 0, 0, 0), (94, .iload 5, 0, 0, 0)],
  [(96, .iload 6, 0, 0, 0), (98, .invokevirtual 35, 56, 6, 177), (101, .goto 44, 0, 0, 0), (104, .iload 7, 0, 0, 0), (106, .bipush 6, 0, 0, 0), (108, .if_icmp .ne 28, 0, 0, 0), (111, .aload_n 1, 0, 0, 0), (112, .iconst 3, 0, 0, 0), (113, .iload 4, 0, 0, 0), (115, .bipush 19, 0, 0, 0), (117, .ishr, 0, 0, 0), (118, .iconst 1, 0, 0, 0), (119, .iand, 0, 0, 0), (120, .ifCond .ne 7, 0, 0, 0), (123, .iconst 1, 0, 0, 0), (124, .goto 4, 0, 0, 0), (127, .iconst 2, 0, 0, 0)],
  [(128, .iload 5, 0, 0, 0), (130, .invokevirtual 35, 56, 6, 177), (133, .goto 12, 0, 0, 0), (136, .aload_n 1, 0, 0, 0), (137, .iconst 2, 0, 0, 0), (138, .iload 5, 0, 0, 0), (140, .iload 6, 0, 0, 0), (142, .invokevirtual 35, 56, 6, 177), (145, .istore 8, 0, 0, 0), (147, .iload 8, 0, 0, 0), (149, .ifCond .ge 6, 0, 0, 0), (152, .goto 371, 0, 0, 0), (155, .aload_n 1, 0, 0, 0), (156, .iload 8, 0, 0, 0), (158, .bipush 30, 0, 0, 0)],
  [(160, .invokestatic 58, 74, 6, 410), (163, .istore 9, 0, 0, 0), (165, .iload 9, 0, 0, 0), (167, .ifCond .ge 6, 0, 0, 0), (170, .goto 353, 0, 0, 0), (173, .aload_n 1, 0, 0, 0), (174, .invokevirtual 60, 67, 0, 273), (177, .istore 10, 0, 0, 0), (179, .iload 10, 0, 0, 0), (181, .ifCond .ge 6, 0, 0, 0), (184, .goto 339, 0, 0, 0), (187, .aload_n 1, 0, 0, 0), (188, .iload 10, 0, 0, 0), (190, .bipush 30, 0, 0, 0)],
  [(192, .invokestatic 58, 74, 6, 410), (195, .istore 11, 0, 0, 0), (197, .iload 11, 0, 0, 0), (199, .bipush (-2), 0, 0, 0), (201, .if_icmp .eq 38, 0, 0, 0), (204, .iload 11, 0, 0, 0), (206, .iconst (-1), 0, 0, 0), (207, .if_icmp .eq 32, 0, 0, 0), (210, .aload_n 1, 0, 0, 0), (211, .iload 8, 0, 0, 0), (213, .iload 10, 0, 0, 0), (215, .bipush 30, 0, 0, 0), (217, .invokestatic 63, 77, 8, 589), (220, .iconst 1, 0, 0, 0), (221, .if_icmp .eq 20, 0, 0, 0)],
  [(224, .aload_n 1, 0, 0, 0), (225, .iload 8, 0, 0, 0), (227, .iload 10, 0, 0, 0), (229, .bipush 30, 0, 0, 0), (231, .invokestatic 63, 77, 8, 589), (234, .bipush (-3), 0, 0, 0), (236, .if_icmp .eq 5, 0, 0, 0), (239, .iconst 0, 0, 0, 0), (240, .ireturn, 0, 0, 0), (241, .aload_n 1, 0, 0, 0), (242, .iload 8, 0, 0, 0), (244, .bipush 30, 0, 0, 0), (246, .invokestatic 66, 75, 6, 573), (249, .ifCond .ge 6, 0, 0, 0), (252, .goto 271, 0, 0, 0), (255, .aload_n 1, 0, 0, 0)],
  [(256, .invokevirtual 68, 68, 0, 402), (259, .istore 12, 0, 0, 0), (261, .aload_n 1, 0, 0, 0), (262, .invokevirtual 60, 67, 0, 273), (265, .istore 13, 0, 0, 0), (267, .iload 13, 0, 0, 0), (269, .ifCond .ge 6, 0, 0, 0), (272, .goto 251, 0, 0, 0), (275, .aload_n 1, 0, 0, 0), (276, .iload 13, 0, 0, 0), (278, .iload 10, 0, 0, 0), (280, .bipush 30, 0, 0, 0), (282, .invokestatic 63, 77, 8, 589), (285, .istore 14, 0, 0, 0), (287, .aload_n 1, 0, 0, 0)],
  [(288, .iload 8, 0, 0, 0), (290, .iload 13, 0, 0, 0), (292, .bipush 30, 0, 0, 0), (294, .invokestatic 71, 76, 8, 581), (297, .istore 15, 0, 0, 0), (299, .iload 14, 0, 0, 0), (301, .iconst 1, 0, 0, 0), (302, .if_icmp .eq 10, 0, 0, 0), (305, .iload 14, 0, 0, 0), (307, .bipush (-3), 0, 0, 0), (309, .if_icmp .ne 34, 0, 0, 0), (312, .iload 15, 0, 0, 0), (314, .iconst 1, 0, 0, 0), (315, .if_icmp .eq 10, 0, 0, 0), (318, .iload 15, 0, 0, 0)],
  [(320, .bipush (-3), 0, 0, 0), (322, .if_icmp .ne 21, 0, 0, 0), (325, .aload_n 1, 0, 0, 0), (326, .iload 13, 0, 0, 0), (328, .iconst 0, 0, 0, 0), (329, .invokestatic 66, 75, 6, 573), (332, .iconst 1, 0, 0, 0), (333, .if_icmp .lt 10, 0, 0, 0), (336, .aload_n 1, 0, 0, 0), (337, .invokevirtual 68, 68, 0, 402), (340, .ifCond .eq 5, 0, 0, 0), (343, .iconst 0, 0, 0, 0), (344, .ireturn, 0, 0, 0), (345, .iload 4, 0, 0, 0), (347, .bipush 20, 0, 0, 0), (349, .ishr, 0, 0, 0), (350, .bipush 7, 0, 0, 0)],
  [(352, .iand, 0, 0, 0), (353, .ifCond .ne 170, 0, 0, 0), (356, .aload_n 1, 0, 0, 0), (357, .invokevirtual 73, 64, 0, 227), (360, .bipush 9, 0, 0, 0), (362, .if_icmp .ge 161, 0, 0, 0), (365, .aload_n 1, 0, 0, 0), (366, .iload 8, 0, 0, 0), (368, .bipush 30, 0, 0, 0), (370, .invokestatic 44, 79, 6, 597), (373, .istore 16, 0, 0, 0), (375, .iload 16, 0, 0, 0), (377, .ifCond .ge 13, 0, 0, 0), (380, .iload 16, 0, 0, 0), (382, .bipush (-3), 0, 0, 0)],
  [(384, .if_icmp .eq 28, 0, 0, 0), (387, .goto 23, 0, 0, 0), (390, .iload 16, 0, 0, 0), (392, .aload_n 1, 0, 0, 0), (393, .invokevirtual 73, 64, 0, 227), (396, .iconst 1, 0, 0, 0), (397, .isub, 0, 0, 0), (398, .if_icmp .ne 12, 0, 0, 0), (401, .aload_n 1, 0, 0, 0), (402, .iload 16, 0, 0, 0), (404, .invokevirtual 76, 65, 2, 235), (407, .ifCond .ne 5, 0, 0, 0), (410, .iconst 0, 0, 0, 0), (411, .ireturn, 0, 0, 0), (412, .iload 16, 0, 0, 0), (414, .ifCond .ge 6, 0, 0, 0)],
  [(417, .goto 106, 0, 0, 0), (420, .aload_n 1, 0, 0, 0), (421, .iconst 5, 0, 0, 0), (422, .iload 16, 0, 0, 0), (424, .iconst 0, 0, 0, 0), (425, .invokevirtual 35, 56, 6, 177), (428, .istore 17, 0, 0, 0), (430, .iload 17, 0, 0, 0), (432, .ifCond .ge 8, 0, 0, 0), (435, .bipush (-3), 0, 0, 0), (437, .goto 13, 0, 0, 0), (440, .aload_n 1, 0, 0, 0), (441, .iload 17, 0, 0, 0), (443, .iload 8, 0, 0, 0), (445, .bipush 30, 0, 0, 0), (447, .invokestatic 71, 76, 8, 581)],
  [(450, .istore 18, 0, 0, 0), (452, .iload 18, 0, 0, 0), (454, .iconst 1, 0, 0, 0), (455, .if_icmp .eq 10, 0, 0, 0), (458, .iload 18, 0, 0, 0), (460, .bipush (-3), 0, 0, 0), (462, .if_icmp .ne 59, 0, 0, 0), (465, .aload_n 1, 0, 0, 0), (466, .iload 16, 0, 0, 0), (468, .invokevirtual 80, 66, 2, 244), (471, .iconst 1, 0, 0, 0), (472, .if_icmp .lt 49, 0, 0, 0), (475, .iload 17, 0, 0, 0), (477, .ifCond .lt 46, 0, 0, 0)],
  [(480, .aload_n 1, 0, 0, 0), (481, .iload 17, 0, 0, 0), (483, .iconst 0, 0, 0, 0), (484, .invokestatic 66, 75, 6, 573), (487, .bipush (-3), 0, 0, 0), (489, .if_icmp .ne 32, 0, 0, 0), (492, .aload_n 1, 0, 0, 0), (493, .iload 17, 0, 0, 0), (495, .bipush 30, 0, 0, 0), (497, .invokestatic 66, 75, 6, 573), (500, .ifCond .lt 23, 0, 0, 0), (503, .iload 12, 0, 0, 0), (505, .bipush 30, 0, 0, 0), (507, .if_icmp .ge 16, 0, 0, 0), (510, .aload_n 1, 0, 0, 0), (511, .invokevirtual 68, 68, 0, 402)],
  [(514, .iload 12, 0, 0, 0), (516, .iconst 1, 0, 0, 0), (517, .iadd, 0, 0, 0), (518, .if_icmp .eq 5, 0, 0, 0), (521, .iconst 0, 0, 0, 0), (522, .ireturn, 0, 0, 0), (523, .iinc 3 1, 0, 0, 0), (526, .goto (-503), 0, 0, 0), (529, .iconst 1, 0, 0, 0), (530, .ireturn, 0, 0, 0)]]
def am_c82 : List (List (Nat × am_I)) := [[(0, .iload_n 0, 0, 0, 0), (1, .iload_n 1, 0, 0, 0), (2, .bipush 9, 0, 0, 0), (4, .isub, 0, 0, 0), (5, .irem, 0, 0, 0), (6, .istore_n 2, 0, 0, 0), (7, .iload_n 2, 0, 0, 0), (8, .ifCond .ne 7, 0, 0, 0), (11, .iconst 1, 0, 0, 0), (12, .goto 110, 0, 0, 0), (15, .iload_n 2, 0, 0, 0), (16, .iconst 1, 0, 0, 0), (17, .if_icmp .ne 7, 0, 0, 0), (20, .iconst 3, 0, 0, 0), (21, .goto 101, 0, 0, 0), (24, .iload_n 2, 0, 0, 0), (25, .iconst 2, 0, 0, 0), (26, .if_icmp .ne 7, 0, 0, 0), (29, .iconst 4, 0, 0, 0), (30, .goto 92, 0, 0, 0)],
  [(33, .iload_n 2, 0, 0, 0), (34, .iconst 3, 0, 0, 0), (35, .if_icmp .ne 8, 0, 0, 0), (38, .bipush 7, 0, 0, 0), (40, .goto 82, 0, 0, 0), (43, .iload_n 2, 0, 0, 0), (44, .iconst 4, 0, 0, 0), (45, .if_icmp .ne 8, 0, 0, 0), (48, .bipush 10, 0, 0, 0), (50, .goto 72, 0, 0, 0), (53, .iload_n 2, 0, 0, 0), (54, .iconst 5, 0, 0, 0), (55, .if_icmp .ne 8, 0, 0, 0), (58, .bipush 14, 0, 0, 0), (60, .goto 62, 0, 0, 0), (63, .iload_n 2, 0, 0, 0)],
  [(64, .bipush 6, 0, 0, 0), (66, .if_icmp .ne 8, 0, 0, 0), (69, .bipush 16, 0, 0, 0), (71, .goto 51, 0, 0, 0), (74, .iload_n 2, 0, 0, 0), (75, .bipush 7, 0, 0, 0), (77, .if_icmp .ne 8, 0, 0, 0), (80, .bipush 17, 0, 0, 0), (82, .goto 40, 0, 0, 0), (85, .iload_n 2, 0, 0, 0), (86, .bipush 8, 0, 0, 0), (88, .if_icmp .ne 8, 0, 0, 0), (91, .bipush 18, 0, 0, 0), (93, .goto 29, 0, 0, 0)],
  [(96, .iload_n 2, 0, 0, 0), (97, .bipush 9, 0, 0, 0), (99, .if_icmp .ne 7, 0, 0, 0), (102, .iconst 0, 0, 0, 0), (103, .goto 19, 0, 0, 0), (106, .iload_n 2, 0, 0, 0), (107, .bipush 9, 0, 0, 0), (109, .iadd, 0, 0, 0), (110, .iload_n 1, 0, 0, 0), (111, .if_icmp .ge 10, 0, 0, 0), (114, .iload_n 2, 0, 0, 0), (115, .bipush 9, 0, 0, 0), (117, .iadd, 0, 0, 0), (118, .goto 4, 0, 0, 0), (121, .iconst 3, 0, 0, 0), (122, .ireturn, 0, 0, 0)]]
def am_code : Nat → List (List (Nat × am_I)) := fun k => match k with
  | 0 => am_c0
  | 1 => am_c1
  | 2 => am_c2
  | 3 => am_c3
  | 4 => am_c4
  | 5 => am_c5
  | 6 => am_c6
  | 7 => am_c7
  | 8 => am_c8
  | 9 => am_c9
  | 10 => am_c10
  | 11 => am_c11
  | 12 => am_c12
  | 13 => am_c13
  | 14 => am_c14
  | 15 => am_c15
  | 16 => am_c16
  | 17 => am_c17
  | 18 => am_c18
  | 19 => am_c19
  | 20 => am_c20
  | 21 => am_c21
  | 22 => am_c22
  | 23 => am_c23
  | 24 => am_c24
  | 25 => am_c25
  | 26 => am_c26
  | 27 => am_c27
  | 28 => am_c28
  | 29 => am_c29
  | 30 => am_c30
  | 31 => am_c31
  | 32 => am_c32
  | 33 => am_c33
  | 34 => am_c34
  | 35 => am_c35
  | 36 => am_c36
  | 37 => am_c37
  | 38 => am_c38
  | 39 => am_c39
  | 40 => am_c40
  | 41 => am_c41
  | 42 => am_c42
  | 43 => am_c43
  | 44 => am_c44
  | 45 => am_c45
  | 46 => am_c46
  | 47 => am_c47
  | 48 => am_c48
  | 49 => am_c49
  | 50 => am_c50
  | 51 => am_c51
  | 52 => am_c52
  | 53 => am_c53
  | 54 => am_c54
  | 55 => am_c55
  | 56 => am_c56
  | 57 => am_c57
  | 58 => am_c58
  | 59 => am_c59
  | 60 => am_c60
  | 61 => am_c61
  | 62 => am_c62
  | 63 => am_c63
  | 64 => am_c64
  | 65 => am_c65
  | 66 => am_c66
  | 67 => am_c67
  | 68 => am_c68
  | 69 => am_c69
  | 70 => am_c70
  | 71 => am_c71
  | 72 => am_c72
  | 73 => am_c73
  | 74 => am_c74
  | 75 => am_c75
  | 76 => am_c76
  | 77 => am_c77
  | 78 => am_c78
  | 79 => am_c79
  | 80 => am_c80
  | 81 => am_c81
  | 82 => am_c82
  | _ => []
def am_nm : Nat := 83
/-- the throws: method, pc, class link, string, constructor, class, text -/
def am_thr : List (Nat × Nat × Nat × Nat × Nat × Nat × String × Nat) := [(10, 21, 70, 72, 74, 1, "what should be a type is none", 463),
  (11, 27, 70, 77, 74, 1, "no type of this variable is known", 463),
  (14, 25, 70, 101, 74, 1, "what is applied is no function", 463),
  (14, 58, 70, 107, 74, 1, "a function is applied to another type than its own", 463),
  (15, 16, 109, 111, 113, 2, "too many variables are bound", 529),
  (16, 11, 109, 118, 113, 2, "a type is too large", 529),
  (40, 14, 71, 73, 75, 2, "too many nodes in one call", 314),
  (48, 36, 40, 42, 44, 2, "one reduction more than fuel", 508),
  (48, 147, 40, 75, 44, 2, "a reduction's term is too large", 508),
  (48, 173, 40, 77, 44, 2, "too many reductions", 508),
  (54, 17, 40, 101, 44, 2, "too many pairs in one comparison", 508),
  (71, 32, 157, 159, 161, 0, "no such term, or no such fuel", 424)]
def am_G : Nat := 40
def am_M : Nat := 81
