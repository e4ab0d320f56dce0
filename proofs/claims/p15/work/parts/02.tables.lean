def RX0 : String := "TermJudge$Constants"
def TX0 : u_T := fun k => match k with
  | 0 => ("TermJudge$Constants", "types", "[I", true)
  | 1 => ("TermJudge$Constants", "bodies", "[I", true)
  | _ => ("TermJudge$Constants", "made", "I", false)
def tyX0 : Nat → FieldType := fun k => match k with
  | 0 => .array .int
  | 1 => .array .int
  | _ => .int
abbrev wsX00 : List Cond := u_ws RX0 TX0 3
theorem nmX0 : ∀ a, a < 3 → ∀ b, b < 3 → a ≠ b → (TX0 a).2.1 ≠ (TX0 b).2.1 := by decide +kernel
theorem tyX0_ok : ∀ k, k < 3 → parseFieldDescriptor (TX0 k).2.2.1 = some (tyX0 k) := by decide +kernel
abbrev cX0_init : ByteArray := prog_2_method_1_code
def yX0_init : MethodName := ⟨RX0, "<init>", "()V"⟩
abbrev cX0_count : ByteArray := prog_2_method_2_code
def yX0_count : MethodName := ⟨RX0, "count", "()I"⟩
abbrev cX0_isFull : ByteArray := prog_2_method_3_code
def yX0_isFull : MethodName := ⟨RX0, "isFull", "()Z"⟩
abbrev cX0_isThere : ByteArray := prog_2_method_4_code
def yX0_isThere : MethodName := ⟨RX0, "isThere", "(I)Z"⟩
abbrev cX0_typeAt : ByteArray := prog_2_method_5_code
def yX0_typeAt : MethodName := ⟨RX0, "typeAt", "(I)I"⟩
abbrev cX0_bodyAt : ByteArray := prog_2_method_6_code
def yX0_bodyAt : MethodName := ⟨RX0, "bodyAt", "(I)I"⟩
abbrev cX0_add : ByteArray := prog_2_method_7_code
def yX0_add : MethodName := ⟨RX0, "add", "(II)I"⟩
def RX1 : String := "TermJudge$Finder"
def TX1 : u_T := fun k => match k with
  | 0 => ("TermJudge$Finder", "nodes", "LTermJudge$Nodes;", true)
  | 1 => ("TermJudge$Finder", "known", "LTermJudge$Constants;", true)
  | 2 => ("TermJudge$Finder", "reducer", "LTermJudge$Reducer;", true)
  | 3 => ("TermJudge$Finder", "types", "[I", true)
  | _ => ("TermJudge$Finder", "typeCount", "I", false)
def tyX1 : Nat → FieldType := fun k => match k with
  | 0 => .object "TermJudge$Nodes"
  | 1 => .object "TermJudge$Constants"
  | 2 => .object "TermJudge$Reducer"
  | 3 => .array .int
  | _ => .int
abbrev wsX10 : List Cond := u_ws RX1 TX1 5
theorem nmX1 : ∀ a, a < 5 → ∀ b, b < 5 → a ≠ b → (TX1 a).2.1 ≠ (TX1 b).2.1 := by decide +kernel
theorem tyX1_ok : ∀ k, k < 5 → parseFieldDescriptor (TX1 k).2.2.1 = some (tyX1 k) := by decide +kernel
abbrev cX1_init : ByteArray := prog_3_method_1_code
def yX1_init : MethodName := ⟨RX1, "<init>", "(LTermJudge$Nodes;LTermJudge$Constants;LTermJudge$Reducer;)V"⟩
abbrev cX1_forgetTypes : ByteArray := prog_3_method_2_code
def yX1_forgetTypes : MethodName := ⟨RX1, "forgetTypes", "()V"⟩
abbrev cX1_typeFound : ByteArray := prog_3_method_3_code
def yX1_typeFound : MethodName := ⟨RX1, "typeFound", "(I)I"⟩
abbrev cX1_levelOf : ByteArray := prog_3_method_4_code
def yX1_levelOf : MethodName := ⟨RX1, "levelOf", "(I)I"⟩
abbrev cX1_typeOfVariable : ByteArray := prog_3_method_5_code
def yX1_typeOfVariable : MethodName := ⟨RX1, "typeOfVariable", "(I)I"⟩
abbrev cX1_typeOfPi : ByteArray := prog_3_method_6_code
def yX1_typeOfPi : MethodName := ⟨RX1, "typeOfPi", "(II)I"⟩
abbrev cX1_typeOfFunction : ByteArray := prog_3_method_7_code
def yX1_typeOfFunction : MethodName := ⟨RX1, "typeOfFunction", "(II)I"⟩
abbrev cX1_typeOfApplication : ByteArray := prog_3_method_8_code
def yX1_typeOfApplication : MethodName := ⟨RX1, "typeOfApplication", "(II)I"⟩
abbrev cX1_open : ByteArray := prog_3_method_9_code
def yX1_open : MethodName := ⟨RX1, "open", "(I)V"⟩
abbrev cX1_notTooMuch : ByteArray := prog_3_method_10_code
def yX1_notTooMuch : MethodName := ⟨RX1, "notTooMuch", "(I)I"⟩
def RX2 : String := "TermJudge$Marks"
def TX2 : u_T := fun k => match k with
  | 0 => ("TermJudge$Marks", "row", "[I", true)
  | 1 => ("TermJudge$Marks", "length", "I", false)
  | _ => ("TermJudge$Marks", "next", "I", false)
def tyX2 : Nat → FieldType := fun k => match k with
  | 0 => .array .int
  | 1 => .int
  | _ => .int
abbrev wsX20 : List Cond := u_ws RX2 TX2 3
theorem nmX2 : ∀ a, a < 3 → ∀ b, b < 3 → a ≠ b → (TX2 a).2.1 ≠ (TX2 b).2.1 := by decide +kernel
theorem tyX2_ok : ∀ k, k < 3 → parseFieldDescriptor (TX2 k).2.2.1 = some (tyX2 k) := by decide +kernel
abbrev cX2_init : ByteArray := prog_4_method_1_code
def yX2_init : MethodName := ⟨RX2, "<init>", "()V"⟩
abbrev cX2_isEmpty : ByteArray := prog_4_method_2_code
def yX2_isEmpty : MethodName := ⟨RX2, "isEmpty", "()Z"⟩
abbrev cX2_at : ByteArray := prog_4_method_3_code
def yX2_at : MethodName := ⟨RX2, "at", "(I)I"⟩
abbrev cX2_hasTooGreat : ByteArray := prog_4_method_4_code
def yX2_hasTooGreat : MethodName := ⟨RX2, "hasTooGreat", "(I)Z"⟩
abbrev cX2_write : ByteArray := prog_4_method_5_code
def yX2_write : MethodName := ⟨RX2, "write", "(LTermJudge$Nodes;I)I"⟩
abbrev cX2_writeNode : ByteArray := prog_4_method_6_code
def yX2_writeNode : MethodName := ⟨RX2, "writeNode", "(LTermJudge$Nodes;I)V"⟩
abbrev cX2_read : ByteArray := prog_4_method_7_code
def yX2_read : MethodName := ⟨RX2, "read", "(LTermJudge$Nodes;Z)I"⟩
abbrev cX2_readNode : ByteArray := prog_4_method_8_code
def yX2_readNode : MethodName := ⟨RX2, "readNode", "(LTermJudge$Nodes;Z)I"⟩
def RX3 : String := "TermJudge$Nodes"
def TX3 : u_T := fun k => match k with
  | 0 => ("TermJudge$Nodes", "kinds", "[I", false)
  | 1 => ("TermJudge$Nodes", "lefts", "[I", false)
  | 2 => ("TermJudge$Nodes", "rights", "[I", false)
  | 3 => ("TermJudge$Nodes", "sizes", "[I", false)
  | 4 => ("TermJudge$Nodes", "depths", "[I", false)
  | 5 => ("TermJudge$Nodes", "madeTerms", "I", false)
  | 6 => ("TermJudge$Nodes", "lastingEnd", "I", false)
  | _ => ("TermJudge$Nodes", "end", "I", false)
def tyX3 : Nat → FieldType := fun k => match k with
  | 0 => .array .int
  | 1 => .array .int
  | 2 => .array .int
  | 3 => .array .int
  | 4 => .array .int
  | 5 => .int
  | 6 => .int
  | _ => .int
abbrev wsX30 : List Cond := u_ws RX3 TX3 8
theorem nmX3 : ∀ a, a < 8 → ∀ b, b < 8 → a ≠ b → (TX3 a).2.1 ≠ (TX3 b).2.1 := by decide +kernel
theorem tyX3_ok : ∀ k, k < 8 → parseFieldDescriptor (TX3 k).2.2.1 = some (tyX3 k) := by decide +kernel
abbrev cX3_init : ByteArray := prog_5_method_1_code
def yX3_init : MethodName := ⟨RX3, "<init>", "()V"⟩
abbrev cX3_termCount : ByteArray := prog_5_method_2_code
def yX3_termCount : MethodName := ⟨RX3, "termCount", "()I"⟩
abbrev cX3_isTerm : ByteArray := prog_5_method_3_code
def yX3_isTerm : MethodName := ⟨RX3, "isTerm", "(I)Z"⟩
abbrev cX3_kindOf : ByteArray := prog_5_method_4_code
def yX3_kindOf : MethodName := ⟨RX3, "kindOf", "(I)I"⟩
abbrev cX3_leftOf : ByteArray := prog_5_method_5_code
def yX3_leftOf : MethodName := ⟨RX3, "leftOf", "(I)I"⟩
abbrev cX3_rightOf : ByteArray := prog_5_method_6_code
def yX3_rightOf : MethodName := ⟨RX3, "rightOf", "(I)I"⟩
abbrev cX3_sizeOf : ByteArray := prog_5_method_7_code
def yX3_sizeOf : MethodName := ⟨RX3, "sizeOf", "(I)I"⟩
abbrev cX3_depthOf : ByteArray := prog_5_method_8_code
def yX3_depthOf : MethodName := ⟨RX3, "depthOf", "(I)I"⟩
abbrev cX3_mayJoin : ByteArray := prog_5_method_9_code
def yX3_mayJoin : MethodName := ⟨RX3, "mayJoin", "(II)Z"⟩
abbrev cX3_isTooMuch : ByteArray := prog_5_method_10_code
def yX3_isTooMuch : MethodName := ⟨RX3, "isTooMuch", "(I)Z"⟩
abbrev cX3_addTerm : ByteArray := prog_5_method_11_code
def yX3_addTerm : MethodName := ⟨RX3, "addTerm", "(III)I"⟩
abbrev cX3_termLike : ByteArray := prog_5_method_12_code
def yX3_termLike : MethodName := ⟨RX3, "termLike", "(III)I"⟩
abbrev cX3_cutTerms : ByteArray := prog_5_method_13_code
def yX3_cutTerms : MethodName := ⟨RX3, "cutTerms", "(I)V"⟩
abbrev cX3_add : ByteArray := prog_5_method_14_code
def yX3_add : MethodName := ⟨RX3, "add", "(III)I"⟩
abbrev cX3_fill : ByteArray := prog_5_method_15_code
def yX3_fill : MethodName := ⟨RX3, "fill", "(IIII)V"⟩
abbrev cX3_grow : ByteArray := prog_5_method_16_code
def yX3_grow : MethodName := ⟨RX3, "grow", "()V"⟩
abbrev cX3_dropPassing : ByteArray := prog_5_method_17_code
def yX3_dropPassing : MethodName := ⟨RX3, "dropPassing", "()V"⟩
abbrev cX3_keepPassing : ByteArray := prog_5_method_18_code
def yX3_keepPassing : MethodName := ⟨RX3, "keepPassing", "()V"⟩
abbrev cX3_changed : ByteArray := prog_5_method_19_code
def yX3_changed : MethodName := ⟨RX3, "changed", "(IIII)I"⟩
abbrev cX3_withHead : ByteArray := prog_5_method_20_code
def yX3_withHead : MethodName := ⟨RX3, "withHead", "(III)I"⟩
def RX4 : String := "TermJudge$Reducer"
def TX4 : u_T := fun k => match k with
  | 0 => ("TermJudge$Reducer", "nodes", "LTermJudge$Nodes;", true)
  | 1 => ("TermJudge$Reducer", "known", "LTermJudge$Constants;", true)
  | 2 => ("TermJudge$Reducer", "firsts", "[I", true)
  | 3 => ("TermJudge$Reducer", "seconds", "[I", true)
  | 4 => ("TermJudge$Reducer", "openPairs", "I", false)
  | 5 => ("TermJudge$Reducer", "fuel", "I", false)
  | _ => ("TermJudge$Reducer", "made", "I", false)
def tyX4 : Nat → FieldType := fun k => match k with
  | 0 => .object "TermJudge$Nodes"
  | 1 => .object "TermJudge$Constants"
  | 2 => .array .int
  | 3 => .array .int
  | 4 => .int
  | 5 => .int
  | _ => .int
abbrev wsX40 : List Cond := u_ws RX4 TX4 7
theorem nmX4 : ∀ a, a < 7 → ∀ b, b < 7 → a ≠ b → (TX4 a).2.1 ≠ (TX4 b).2.1 := by decide +kernel
theorem tyX4_ok : ∀ k, k < 7 → parseFieldDescriptor (TX4 k).2.2.1 = some (tyX4 k) := by decide +kernel
abbrev cX4_init : ByteArray := prog_6_method_1_code
def yX4_init : MethodName := ⟨RX4, "<init>", "(LTermJudge$Nodes;LTermJudge$Constants;)V"⟩
abbrev cX4_refuel : ByteArray := prog_6_method_2_code
def yX4_refuel : MethodName := ⟨RX4, "refuel", "(I)V"⟩
abbrev cX4_madeCount : ByteArray := prog_6_method_3_code
def yX4_madeCount : MethodName := ⟨RX4, "madeCount", "()I"⟩
abbrev cX4_headForm : ByteArray := prog_6_method_4_code
def yX4_headForm : MethodName := ⟨RX4, "headForm", "(I)I"⟩
abbrev cX4_nextPlace : ByteArray := prog_6_method_5_code
def yX4_nextPlace : MethodName := ⟨RX4, "nextPlace", "(I)I"⟩
abbrev cX4_areSame : ByteArray := prog_6_method_6_code
def yX4_areSame : MethodName := ⟨RX4, "areSame", "(II)Z"⟩
abbrev cX4_valueOf : ByteArray := prog_6_method_7_code
def yX4_valueOf : MethodName := ⟨RX4, "valueOf", "([I)I"⟩
abbrev cX4_mayBeSame : ByteArray := prog_6_method_8_code
def yX4_mayBeSame : MethodName := ⟨RX4, "mayBeSame", "(II)Z"⟩
abbrev cX4_openParts : ByteArray := prog_6_method_9_code
def yX4_openParts : MethodName := ⟨RX4, "openParts", "(II)V"⟩
abbrev cX4_open : ByteArray := prog_6_method_10_code
def yX4_open : MethodName := ⟨RX4, "open", "(II)V"⟩
def RX5 : String := "TermJudge"
def TX5 : u_T := fun k => match k with
  | 0 => ("TermJudge", "nodes", "LTermJudge$Nodes;", true)
  | 1 => ("TermJudge", "known", "LTermJudge$Constants;", true)
  | 2 => ("TermJudge", "reducer", "LTermJudge$Reducer;", true)
  | 3 => ("TermJudge", "finder", "LTermJudge$Finder;", true)
  | 4 => ("TermJudge", "result", "LTermJudge$Marks;", true)
  | _ => ("TermJudge", "foundType", "LTermJudge$Marks;", true)
def tyX5 : Nat → FieldType := fun k => match k with
  | 0 => .object "TermJudge$Nodes"
  | 1 => .object "TermJudge$Constants"
  | 2 => .object "TermJudge$Reducer"
  | 3 => .object "TermJudge$Finder"
  | 4 => .object "TermJudge$Marks"
  | _ => .object "TermJudge$Marks"
abbrev wsX50 : List Cond := u_ws RX5 TX5 6
theorem nmX5 : ∀ a, a < 6 → ∀ b, b < 6 → a ≠ b → (TX5 a).2.1 ≠ (TX5 b).2.1 := by decide +kernel
theorem tyX5_ok : ∀ k, k < 6 → parseFieldDescriptor (TX5 k).2.2.1 = some (tyX5 k) := by decide +kernel
abbrev cX5_init : ByteArray := prog_1_method_1_code
def yX5_init : MethodName := ⟨RX5, "<init>", "()V"⟩
abbrev cX5_make : ByteArray := prog_1_method_2_code
def yX5_make : MethodName := ⟨RX5, "make", "(III)I"⟩
abbrev cX5_terms : ByteArray := prog_1_method_3_code
def yX5_terms : MethodName := ⟨RX5, "terms", "()I"⟩
abbrev cX5_term : ByteArray := prog_1_method_4_code
def yX5_term : MethodName := ⟨RX5, "term", "(II)I"⟩
abbrev cX5_infer : ByteArray := prog_1_method_5_code
def yX5_infer : MethodName := ⟨RX5, "infer", "(II)I"⟩
abbrev cX5_reduce : ByteArray := prog_1_method_6_code
def yX5_reduce : MethodName := ⟨RX5, "reduce", "(II)I"⟩
abbrev cX5_same : ByteArray := prog_1_method_7_code
def yX5_same : MethodName := ⟨RX5, "same", "(III)Z"⟩
abbrev cX5_check : ByteArray := prog_1_method_8_code
def yX5_check : MethodName := ⟨RX5, "check", "(III)Z"⟩
abbrev cX5_declare : ByteArray := prog_1_method_9_code
def yX5_declare : MethodName := ⟨RX5, "declare", "(II)I"⟩
abbrev cX5_define : ByteArray := prog_1_method_10_code
def yX5_define : MethodName := ⟨RX5, "define", "(II)I"⟩
abbrev cX5_constants : ByteArray := prog_1_method_11_code
def yX5_constants : MethodName := ⟨RX5, "constants", "()I"⟩
abbrev cX5_hasBody : ByteArray := prog_1_method_12_code
def yX5_hasBody : MethodName := ⟨RX5, "hasBody", "(I)Z"⟩
abbrev cX5_typeOf : ByteArray := prog_1_method_13_code
def yX5_typeOf : MethodName := ⟨RX5, "typeOf", "(I)I"⟩
abbrev cX5_mark : ByteArray := prog_1_method_14_code
def yX5_mark : MethodName := ⟨RX5, "mark", "(I)I"⟩
abbrev cX5_keep : ByteArray := prog_1_method_15_code
def yX5_keep : MethodName := ⟨RX5, "keep", "()I"⟩
abbrev cX5_reduced : ByteArray := prog_1_method_16_code
def yX5_reduced : MethodName := ⟨RX5, "reduced", "()I"⟩
abbrev cX5_hasParts : ByteArray := prog_1_method_17_code
def yX5_hasParts : MethodName := ⟨RX5, "hasParts", "(I)Z"⟩
abbrev cX5_mayBeMade : ByteArray := prog_1_method_18_code
def yX5_mayBeMade : MethodName := ⟨RX5, "mayBeMade", "(III)Z"⟩
abbrev cX5_begin : ByteArray := prog_1_method_19_code
def yX5_begin : MethodName := ⟨RX5, "begin", "(III)V"⟩
abbrev cX5_refuseUnlooked : ByteArray := prog_1_method_20_code
def yX5_refuseUnlooked : MethodName := ⟨RX5, "refuseUnlooked", "()I"⟩
abbrev cX5_lasting : ByteArray := prog_1_method_21_code
def yX5_lasting : MethodName := ⟨RX5, "lasting", "(LTermJudge$Marks;)I"⟩
def RX6 : String := "TermJudgeModel"
def TX6 : u_T := fun k => match k with
  | 0 => ("TermJudgeModel", "code", "I", false)
  | 1 => ("TermJudgeModel", "terms", "I", false)
  | 2 => ("TermJudgeModel", "kind", "[I", true)
  | 3 => ("TermJudgeModel", "partA", "[I", true)
  | 4 => ("TermJudgeModel", "partB", "[I", true)
  | 5 => ("TermJudgeModel", "nodes", "[I", true)
  | 6 => ("TermJudgeModel", "deep", "[I", true)
  | 7 => ("TermJudgeModel", "constants", "I", false)
  | 8 => ("TermJudgeModel", "hasBody", "[Z", true)
  | 9 => ("TermJudgeModel", "hasResult", "Z", false)
  | 10 => ("TermJudgeModel", "row", "[I", true)
  | 11 => ("TermJudgeModel", "length", "[I", true)
  | 12 => ("TermJudgeModel", "made", "I", false)
  | 13 => ("TermJudgeModel", "out", "[I", true)
  | 14 => ("TermJudgeModel", "great", "Z", false)
  | 15 => ("TermJudgeModel", "pile", "[I", true)
  | 16 => ("TermJudgeModel", "inner", "[I", true)
  | 17 => ("TermJudgeModel", "fuel", "I", false)
  | 18 => ("TermJudgeModel", "used", "I", false)
  | 19 => ("TermJudgeModel", "fault", "I", false)
  | 20 => ("TermJudgeModel", "open", "I", false)
  | 21 => ("TermJudgeModel", "asked", "[I", true)
  | 22 => ("TermJudgeModel", "state", "[I", true)
  | 23 => ("TermJudgeModel", "level", "[I", true)
  | 24 => ("TermJudgeModel", "top", "I", false)
  | 25 => ("TermJudgeModel", "known", "I", false)
  | 26 => ("TermJudgeModel", "context", "[I", true)
  | 27 => ("TermJudgeModel", "waiting", "I", false)
  | 28 => ("TermJudgeModel", "cells", "I", false)
  | 29 => ("TermJudgeModel", "waits", "[I", true)
  | 30 => ("TermJudgeModel", "leftLength", "[I", true)
  | _ => ("TermJudgeModel", "rightLength", "[I", true)
def tyX6 : Nat → FieldType := fun k => match k with
  | 0 => .int
  | 1 => .int
  | 2 => .array .int
  | 3 => .array .int
  | 4 => .array .int
  | 5 => .array .int
  | 6 => .array .int
  | 7 => .int
  | 8 => .array .boolean
  | 9 => .boolean
  | 10 => .array .int
  | 11 => .array .int
  | 12 => .int
  | 13 => .array .int
  | 14 => .boolean
  | 15 => .array .int
  | 16 => .array .int
  | 17 => .int
  | 18 => .int
  | 19 => .int
  | 20 => .int
  | 21 => .array .int
  | 22 => .array .int
  | 23 => .array .int
  | 24 => .int
  | 25 => .int
  | 26 => .array .int
  | 27 => .int
  | 28 => .int
  | 29 => .array .int
  | 30 => .array .int
  | _ => .array .int
abbrev wsX60 : List Cond := u_ws RX6 TX6 32
theorem nmX6 : ∀ a, a < 32 → ∀ b, b < 32 → a ≠ b → (TX6 a).2.1 ≠ (TX6 b).2.1 := by decide +kernel
theorem tyX6_ok : ∀ k, k < 32 → parseFieldDescriptor (TX6 k).2.2.1 = some (tyX6 k) := by decide +kernel
abbrev cX6_init : ByteArray := prog_8_method_1_code
def yX6_init : MethodName := ⟨RX6, "<init>", "()V"⟩
abbrev cX6_fail : ByteArray := prog_8_method_3_code
def yX6_fail : MethodName := ⟨RX6, "fail", "(I)I"⟩
abbrev cX6_kindOf : ByteArray := prog_8_method_4_code
def yX6_kindOf : MethodName := ⟨RX6, "kindOf", "(I)I"⟩
abbrev cX6_hasParts : ByteArray := prog_8_method_5_code
def yX6_hasParts : MethodName := ⟨RX6, "hasParts", "(I)Z"⟩
abbrev cX6_bindsIn : ByteArray := prog_8_method_6_code
def yX6_bindsIn : MethodName := ⟨RX6, "bindsIn", "(I)Z"⟩
abbrev cX6_at : ByteArray := prog_8_method_7_code
def yX6_at : MethodName := ⟨RX6, "at", "(II)I"⟩
abbrev cX6_endOf : ByteArray := prog_8_method_8_code
def yX6_endOf : MethodName := ⟨RX6, "endOf", "(II)I"⟩
abbrev cX6_copyPart : ByteArray := prog_8_method_9_code
def yX6_copyPart : MethodName := ⟨RX6, "copyPart", "(III)V"⟩
abbrev cX6_copy : ByteArray := prog_8_method_10_code
def yX6_copy : MethodName := ⟨RX6, "copy", "(II)V"⟩
abbrev cX6_setAtom : ByteArray := prog_8_method_11_code
def yX6_setAtom : MethodName := ⟨RX6, "setAtom", "(II)V"⟩
abbrev cX6_deepOf : ByteArray := prog_8_method_12_code
def yX6_deepOf : MethodName := ⟨RX6, "deepOf", "(I)I"⟩
abbrev cX6_raise : ByteArray := prog_8_method_13_code
def yX6_raise : MethodName := ⟨RX6, "raise", "(II)V"⟩
abbrev cX6_begin : ByteArray := prog_8_method_14_code
def yX6_begin : MethodName := ⟨RX6, "begin", "()V"⟩
abbrev cX6_put : ByteArray := prog_8_method_15_code
def yX6_put : MethodName := ⟨RX6, "put", "(I)V"⟩
abbrev cX6_putAll : ByteArray := prog_8_method_16_code
def yX6_putAll : MethodName := ⟨RX6, "putAll", "(III)V"⟩
abbrev cX6_putRaised : ByteArray := prog_8_method_17_code
def yX6_putRaised : MethodName := ⟨RX6, "putRaised", "(IIII)V"⟩
abbrev cX6_putFor : ByteArray := prog_8_method_18_code
def yX6_putFor : MethodName := ⟨RX6, "putFor", "(IIIIII)V"⟩
abbrev cX6_take : ByteArray := prog_8_method_19_code
def yX6_take : MethodName := ⟨RX6, "take", "(I)Z"⟩
abbrev cX6_toHead : ByteArray := prog_8_method_20_code
def yX6_toHead : MethodName := ⟨RX6, "toHead", "(I)V"⟩
abbrev cX6_pushRest : ByteArray := prog_8_method_21_code
def yX6_pushRest : MethodName := ⟨RX6, "pushRest", "(II)V"⟩
abbrev cX6_pop : ByteArray := prog_8_method_22_code
def yX6_pop : MethodName := ⟨RX6, "pop", "(II)V"⟩
abbrev cX6_areSame : ByteArray := prog_8_method_23_code
def yX6_areSame : MethodName := ⟨RX6, "areSame", "()Z"⟩
abbrev cX6_ask : ByteArray := prog_8_method_24_code
def yX6_ask : MethodName := ⟨RX6, "ask", "(I)V"⟩
abbrev cX6_levelIn : ByteArray := prog_8_method_25_code
def yX6_levelIn : MethodName := ⟨RX6, "levelIn", "(I)I"⟩
abbrev cX6_askPart : ByteArray := prog_8_method_26_code
def yX6_askPart : MethodName := ⟨RX6, "askPart", "(II)V"⟩
abbrev cX6_start : ByteArray := prog_8_method_27_code
def yX6_start : MethodName := ⟨RX6, "start", "(I)V"⟩
abbrev cX6_second : ByteArray := prog_8_method_28_code
def yX6_second : MethodName := ⟨RX6, "second", "(I)V"⟩
abbrev cX6_last : ByteArray := prog_8_method_29_code
def yX6_last : MethodName := ⟨RX6, "last", "(I)V"⟩
abbrev cX6_toType : ByteArray := prog_8_method_30_code
def yX6_toType : MethodName := ⟨RX6, "toType", "(I)V"⟩
abbrev cX6_make : ByteArray := prog_8_method_31_code
def yX6_make : MethodName := ⟨RX6, "make", "(III)I"⟩
abbrev cX6_terms : ByteArray := prog_8_method_32_code
def yX6_terms : MethodName := ⟨RX6, "terms", "()I"⟩
abbrev cX6_isTerm : ByteArray := prog_8_method_33_code
def yX6_isTerm : MethodName := ⟨RX6, "isTerm", "(I)Z"⟩
abbrev cX6_term : ByteArray := prog_8_method_34_code
def yX6_term : MethodName := ⟨RX6, "term", "(II)I"⟩
abbrev cX6_load : ByteArray := prog_8_method_35_code
def yX6_load : MethodName := ⟨RX6, "load", "(II)V"⟩
abbrev cX6_starts : ByteArray := prog_8_method_36_code
def yX6_starts : MethodName := ⟨RX6, "starts", "(III)Z"⟩
abbrev cX6_setResult : ByteArray := prog_8_method_37_code
def yX6_setResult : MethodName := ⟨RX6, "setResult", "(I)I"⟩
abbrev cX6_infer : ByteArray := prog_8_method_38_code
def yX6_infer : MethodName := ⟨RX6, "infer", "(II)I"⟩
abbrev cX6_reduce : ByteArray := prog_8_method_39_code
def yX6_reduce : MethodName := ⟨RX6, "reduce", "(II)I"⟩
abbrev cX6_same : ByteArray := prog_8_method_40_code
def yX6_same : MethodName := ⟨RX6, "same", "(III)Z"⟩
abbrev cX6_check : ByteArray := prog_8_method_41_code
def yX6_check : MethodName := ⟨RX6, "check", "(III)Z"⟩
abbrev cX6_declare : ByteArray := prog_8_method_42_code
def yX6_declare : MethodName := ⟨RX6, "declare", "(II)I"⟩
abbrev cX6_define : ByteArray := prog_8_method_43_code
def yX6_define : MethodName := ⟨RX6, "define", "(II)I"⟩
abbrev cX6_constants : ByteArray := prog_8_method_44_code
def yX6_constants : MethodName := ⟨RX6, "constants", "()I"⟩
abbrev cX6_hasBody : ByteArray := prog_8_method_45_code
def yX6_hasBody : MethodName := ⟨RX6, "hasBody", "(I)Z"⟩
abbrev cX6_typeOf : ByteArray := prog_8_method_46_code
def yX6_typeOf : MethodName := ⟨RX6, "typeOf", "(I)I"⟩
abbrev cX6_mark : ByteArray := prog_8_method_47_code
def yX6_mark : MethodName := ⟨RX6, "mark", "(I)I"⟩
abbrev cX6_find : ByteArray := prog_8_method_48_code
def yX6_find : MethodName := ⟨RX6, "find", "(III)I"⟩
abbrev cX6_keep : ByteArray := prog_8_method_49_code
def yX6_keep : MethodName := ⟨RX6, "keep", "()I"⟩
abbrev cX6_reduced : ByteArray := prog_8_method_50_code
def yX6_reduced : MethodName := ⟨RX6, "reduced", "()I"⟩
def RJx145de : String := "java/io/Serializable"
def TJx145de : u_T := fun k => match k with
  | _ => ("", "", "", false)
def tyJx145de : Nat → FieldType := fun k => match k with
  | _ => .int
abbrev wsJx145de0 : List Cond := u_ws RJx145de TJx145de 0
theorem nmJx145de : ∀ a, a < 0 → ∀ b, b < 0 → a ≠ b → (TJx145de a).2.1 ≠ (TJx145de b).2.1 := by decide +kernel
theorem tyJx145de_ok : ∀ k, k < 0 → parseFieldDescriptor (TJx145de k).2.2.1 = some (tyJx145de k) := by decide +kernel
def RJx8e188 : String := "java/lang/Cloneable"
def TJx8e188 : u_T := fun k => match k with
  | _ => ("", "", "", false)
def tyJx8e188 : Nat → FieldType := fun k => match k with
  | _ => .int
abbrev wsJx8e1880 : List Cond := u_ws RJx8e188 TJx8e188 0
theorem nmJx8e188 : ∀ a, a < 0 → ∀ b, b < 0 → a ≠ b → (TJx8e188 a).2.1 ≠ (TJx8e188 b).2.1 := by decide +kernel
theorem tyJx8e188_ok : ∀ k, k < 0 → parseFieldDescriptor (TJx8e188 k).2.2.1 = some (tyJx8e188 k) := by decide +kernel
def RJ9 : String := "java/lang/Math"
def TJ9 : u_T := fun k => match k with
  | _ => ("", "", "", false)
def tyJ9 : Nat → FieldType := fun k => match k with
  | _ => .int
abbrev wsJ90 : List Cond := u_ws RJ9 TJ9 0
theorem nmJ9 : ∀ a, a < 0 → ∀ b, b < 0 → a ≠ b → (TJ9 a).2.1 ≠ (TJ9 b).2.1 := by decide +kernel
theorem tyJ9_ok : ∀ k, k < 0 → parseFieldDescriptor (TJ9 k).2.2.1 = some (tyJ9 k) := by decide +kernel
abbrev cJ9_max_7cf53 : ByteArray := prog_13_method_65_code
def yJ9_max_7cf53 : MethodName := ⟨RJ9, "max", "(II)I"⟩
abbrev cJ9_min_7cf53 : ByteArray := prog_13_method_69_code
def yJ9_min_7cf53 : MethodName := ⟨RJ9, "min", "(II)I"⟩
def RJ0 : String := "java/lang/String"
def TJ0 : u_T := fun k => match k with
  | _ => ("", "", "", false)
def tyJ0 : Nat → FieldType := fun k => match k with
  | _ => .int
abbrev wsJ00 : List Cond := u_ws RJ0 TJ0 0
theorem nmJ0 : ∀ a, a < 0 → ∀ b, b < 0 → a ≠ b → (TJ0 a).2.1 ≠ (TJ0 b).2.1 := by decide +kernel
theorem tyJ0_ok : ∀ k, k < 0 → parseFieldDescriptor (TJ0 k).2.2.1 = some (tyJ0 k) := by decide +kernel
def RJ10 : String := "java/lang/System"
def TJ10 : u_T := fun k => match k with
  | _ => ("", "", "", false)
def tyJ10 : Nat → FieldType := fun k => match k with
  | _ => .int
abbrev wsJ100 : List Cond := u_ws RJ10 TJ10 0
theorem nmJ10 : ∀ a, a < 0 → ∀ b, b < 0 → a ≠ b → (TJ10 a).2.1 ≠ (TJ10 b).2.1 := by decide +kernel
theorem tyJ10_ok : ∀ k, k < 0 → parseFieldDescriptor (TJ10 k).2.2.1 = some (tyJ10 k) := by decide +kernel
def RJ7 : String := "java/util/Arrays"
def TJ7 : u_T := fun k => match k with
  | _ => ("", "", "", false)
def tyJ7 : Nat → FieldType := fun k => match k with
  | _ => .int
abbrev wsJ70 : List Cond := u_ws RJ7 TJ7 0
theorem nmJ7 : ∀ a, a < 0 → ∀ b, b < 0 → a ≠ b → (TJ7 a).2.1 ≠ (TJ7 b).2.1 := by decide +kernel
theorem tyJ7_ok : ∀ k, k < 0 → parseFieldDescriptor (TJ7 k).2.2.1 = some (tyJ7 k) := by decide +kernel
abbrev cJ7_copyOf_59c91 : ByteArray := prog_19_method_123_code
def yJ7_copyOf_59c91 : MethodName := ⟨RJ7, "copyOf", "([II)[I"⟩
def RL : String := "TermJudgeLaw"
abbrev cL_infer : ByteArray := method_3_code
def yL_infer : MethodName := ⟨RL, "infer", "(LTermJudge;II[J)I"⟩
abbrev cL_reduce : ByteArray := method_4_code
def yL_reduce : MethodName := ⟨RL, "reduce", "(LTermJudge;II[J)I"⟩
abbrev cL_same : ByteArray := method_5_code
def yL_same : MethodName := ⟨RL, "same", "(LTermJudge;III[J)I"⟩
abbrev cL_check : ByteArray := method_6_code
def yL_check : MethodName := ⟨RL, "check", "(LTermJudge;III[J)I"⟩
abbrev cL_declare : ByteArray := method_7_code
def yL_declare : MethodName := ⟨RL, "declare", "(LTermJudge;II[J)I"⟩
abbrev cL_define : ByteArray := method_8_code
def yL_define : MethodName := ⟨RL, "define", "(LTermJudge;II[J)I"⟩
abbrev cL_law : ByteArray := code
def yL_law : MethodName := ⟨RL, "law", "([I)Z"⟩
abbrev vwCl : List vw_C := [(RX0, TX0, 3), (RX1, TX1, 5), (RX2, TX2, 3), (RX3, TX3, 8), (RX4, TX4, 7), (RX5, TX5, 6), (RX6, TX6, 32)]
/-! ===== the machine as tables: methods by number ===== -/
abbrev am_I : Type := Instr × Nat × Nat × Nat
-- 0 TermJudge$Constants.<init>()V
-- 1 TermJudge$Constants.count()I
-- 2 TermJudge$Constants.isFull()Z
-- 3 TermJudge$Constants.isThere(I)Z
-- 4 TermJudge$Constants.typeAt(I)I
-- 5 TermJudge$Constants.bodyAt(I)I
-- 6 TermJudge$Constants.add(II)I
-- 7 TermJudge$Finder.<init>(LTermJudge$Nodes;LTermJudge$Constants;LTermJudge$Reducer;)V
-- 8 TermJudge$Finder.forgetTypes()V
-- 9 TermJudge$Finder.typeFound(I)I
-- 10 TermJudge$Finder.levelOf(I)I
-- 11 TermJudge$Finder.typeOfVariable(I)I
-- 12 TermJudge$Finder.typeOfPi(II)I
-- 13 TermJudge$Finder.typeOfFunction(II)I
-- 14 TermJudge$Finder.typeOfApplication(II)I
-- 15 TermJudge$Finder.open(I)V
-- 16 TermJudge$Finder.notTooMuch(I)I
-- 17 TermJudge$Marks.<init>()V
-- 18 TermJudge$Marks.isEmpty()Z
-- 19 TermJudge$Marks.at(I)I
-- 20 TermJudge$Marks.hasTooGreat(I)Z
-- 21 TermJudge$Marks.write(LTermJudge$Nodes;I)I
-- 22 TermJudge$Marks.writeNode(LTermJudge$Nodes;I)V
-- 23 TermJudge$Marks.read(LTermJudge$Nodes;Z)I
-- 24 TermJudge$Marks.readNode(LTermJudge$Nodes;Z)I
-- 25 TermJudge$Nodes.<init>()V
-- 26 TermJudge$Nodes.termCount()I
-- 27 TermJudge$Nodes.isTerm(I)Z
-- 28 TermJudge$Nodes.kindOf(I)I
-- 29 TermJudge$Nodes.leftOf(I)I
-- 30 TermJudge$Nodes.rightOf(I)I
-- 31 TermJudge$Nodes.sizeOf(I)I
-- 32 TermJudge$Nodes.depthOf(I)I
-- 33 TermJudge$Nodes.mayJoin(II)Z
-- 34 TermJudge$Nodes.isTooMuch(I)Z
-- 35 TermJudge$Nodes.addTerm(III)I
-- 36 TermJudge$Nodes.termLike(III)I
-- 37 TermJudge$Nodes.cutTerms(I)V
-- 38 TermJudge$Nodes.add(III)I
-- 39 TermJudge$Nodes.fill(IIII)V
-- 40 TermJudge$Nodes.grow()V
-- 41 TermJudge$Nodes.dropPassing()V
-- 42 TermJudge$Nodes.keepPassing()V
-- 43 TermJudge$Nodes.changed(IIII)I
-- 44 TermJudge$Nodes.withHead(III)I
-- 45 TermJudge$Reducer.<init>(LTermJudge$Nodes;LTermJudge$Constants;)V
-- 46 TermJudge$Reducer.refuel(I)V
-- 47 TermJudge$Reducer.madeCount()I
-- 48 TermJudge$Reducer.headForm(I)I
-- 49 TermJudge$Reducer.nextPlace(I)I
-- 50 TermJudge$Reducer.areSame(II)Z
-- 51 TermJudge$Reducer.valueOf([I)I
-- 52 TermJudge$Reducer.mayBeSame(II)Z
-- 53 TermJudge$Reducer.openParts(II)V
-- 54 TermJudge$Reducer.open(II)V
-- 55 TermJudge.<init>()V
-- 56 TermJudge.make(III)I
-- 57 TermJudge.terms()I
-- 58 TermJudge.term(II)I
-- 59 TermJudge.infer(II)I
-- 60 TermJudge.reduce(II)I
-- 61 TermJudge.same(III)Z
-- 62 TermJudge.check(III)Z
-- 63 TermJudge.declare(II)I
-- 64 TermJudge.define(II)I
-- 65 TermJudge.constants()I
-- 66 TermJudge.hasBody(I)Z
-- 67 TermJudge.typeOf(I)I
-- 68 TermJudge.mark(I)I
-- 69 TermJudge.keep()I
-- 70 TermJudge.reduced()I
-- 71 TermJudge.hasParts(I)Z
-- 72 TermJudge.mayBeMade(III)Z
-- 73 TermJudge.begin(III)V
-- 74 TermJudge.refuseUnlooked()I
-- 75 TermJudge.lasting(LTermJudge$Marks;)I
-- 76 TermJudgeModel.<init>()V
-- 77 TermJudgeModel.fail(I)I
-- 78 TermJudgeModel.kindOf(I)I
-- 79 TermJudgeModel.hasParts(I)Z
-- 80 TermJudgeModel.bindsIn(I)Z
-- 81 TermJudgeModel.at(II)I
-- 82 TermJudgeModel.endOf(II)I
-- 83 TermJudgeModel.copyPart(III)V
-- 84 TermJudgeModel.copy(II)V
-- 85 TermJudgeModel.setAtom(II)V
-- 86 TermJudgeModel.deepOf(I)I
-- 87 TermJudgeModel.raise(II)V
-- 88 TermJudgeModel.begin()V
-- 89 TermJudgeModel.put(I)V
-- 90 TermJudgeModel.putAll(III)V
-- 91 TermJudgeModel.putRaised(IIII)V
-- 92 TermJudgeModel.putFor(IIIIII)V
-- 93 TermJudgeModel.take(I)Z
-- 94 TermJudgeModel.toHead(I)V
-- 95 TermJudgeModel.pushRest(II)V
-- 96 TermJudgeModel.pop(II)V
-- 97 TermJudgeModel.areSame()Z
-- 98 TermJudgeModel.ask(I)V
-- 99 TermJudgeModel.levelIn(I)I
-- 100 TermJudgeModel.askPart(II)V
-- 101 TermJudgeModel.start(I)V
-- 102 TermJudgeModel.second(I)V
-- 103 TermJudgeModel.last(I)V
-- 104 TermJudgeModel.toType(I)V
-- 105 TermJudgeModel.make(III)I
-- 106 TermJudgeModel.terms()I
-- 107 TermJudgeModel.isTerm(I)Z
-- 108 TermJudgeModel.term(II)I
-- 109 TermJudgeModel.load(II)V
-- 110 TermJudgeModel.starts(III)Z
-- 111 TermJudgeModel.setResult(I)I
-- 112 TermJudgeModel.infer(II)I
-- 113 TermJudgeModel.reduce(II)I
-- 114 TermJudgeModel.same(III)Z
-- 115 TermJudgeModel.check(III)Z
-- 116 TermJudgeModel.declare(II)I
-- 117 TermJudgeModel.define(II)I
-- 118 TermJudgeModel.constants()I
-- 119 TermJudgeModel.hasBody(I)Z
-- 120 TermJudgeModel.typeOf(I)I
-- 121 TermJudgeModel.mark(I)I
-- 122 TermJudgeModel.find(III)I
-- 123 TermJudgeModel.keep()I
-- 124 TermJudgeModel.reduced()I
-- 125 TermJudgeLaw.infer(LTermJudge;II[J)I
-- 126 TermJudgeLaw.reduce(LTermJudge;II[J)I
-- 127 TermJudgeLaw.same(LTermJudge;III[J)I
-- 128 TermJudgeLaw.check(LTermJudge;III[J)I
-- 129 TermJudgeLaw.declare(LTermJudge;II[J)I
-- 130 TermJudgeLaw.define(LTermJudge;II[J)I
-- 131 TermJudgeLaw.law([I)Z
def am_y : Nat → MethodName := fun k => match k with
  | 0 => yX0_init
  | 1 => yX0_count
  | 2 => yX0_isFull
  | 3 => yX0_isThere
  | 4 => yX0_typeAt
  | 5 => yX0_bodyAt
  | 6 => yX0_add
  | 7 => yX1_init
  | 8 => yX1_forgetTypes
  | 9 => yX1_typeFound
  | 10 => yX1_levelOf
  | 11 => yX1_typeOfVariable
  | 12 => yX1_typeOfPi
  | 13 => yX1_typeOfFunction
  | 14 => yX1_typeOfApplication
  | 15 => yX1_open
  | 16 => yX1_notTooMuch
  | 17 => yX2_init
  | 18 => yX2_isEmpty
  | 19 => yX2_at
  | 20 => yX2_hasTooGreat
  | 21 => yX2_write
  | 22 => yX2_writeNode
  | 23 => yX2_read
  | 24 => yX2_readNode
  | 25 => yX3_init
  | 26 => yX3_termCount
  | 27 => yX3_isTerm
  | 28 => yX3_kindOf
  | 29 => yX3_leftOf
  | 30 => yX3_rightOf
  | 31 => yX3_sizeOf
  | 32 => yX3_depthOf
  | 33 => yX3_mayJoin
  | 34 => yX3_isTooMuch
  | 35 => yX3_addTerm
  | 36 => yX3_termLike
  | 37 => yX3_cutTerms
  | 38 => yX3_add
  | 39 => yX3_fill
  | 40 => yX3_grow
  | 41 => yX3_dropPassing
  | 42 => yX3_keepPassing
  | 43 => yX3_changed
  | 44 => yX3_withHead
  | 45 => yX4_init
  | 46 => yX4_refuel
  | 47 => yX4_madeCount
  | 48 => yX4_headForm
  | 49 => yX4_nextPlace
  | 50 => yX4_areSame
  | 51 => yX4_valueOf
  | 52 => yX4_mayBeSame
  | 53 => yX4_openParts
  | 54 => yX4_open
  | 55 => yX5_init
  | 56 => yX5_make
  | 57 => yX5_terms
  | 58 => yX5_term
  | 59 => yX5_infer
  | 60 => yX5_reduce
  | 61 => yX5_same
  | 62 => yX5_check
  | 63 => yX5_declare
  | 64 => yX5_define
  | 65 => yX5_constants
  | 66 => yX5_hasBody
  | 67 => yX5_typeOf
  | 68 => yX5_mark
  | 69 => yX5_keep
  | 70 => yX5_reduced
  | 71 => yX5_hasParts
  | 72 => yX5_mayBeMade
  | 73 => yX5_begin
  | 74 => yX5_refuseUnlooked
  | 75 => yX5_lasting
  | 76 => yX6_init
  | 77 => yX6_fail
  | 78 => yX6_kindOf
  | 79 => yX6_hasParts
  | 80 => yX6_bindsIn
  | 81 => yX6_at
  | 82 => yX6_endOf
  | 83 => yX6_copyPart
  | 84 => yX6_copy
  | 85 => yX6_setAtom
  | 86 => yX6_deepOf
  | 87 => yX6_raise
  | 88 => yX6_begin
  | 89 => yX6_put
  | 90 => yX6_putAll
  | 91 => yX6_putRaised
  | 92 => yX6_putFor
  | 93 => yX6_take
  | 94 => yX6_toHead
  | 95 => yX6_pushRest
  | 96 => yX6_pop
  | 97 => yX6_areSame
  | 98 => yX6_ask
  | 99 => yX6_levelIn
  | 100 => yX6_askPart
  | 101 => yX6_start
  | 102 => yX6_second
  | 103 => yX6_last
  | 104 => yX6_toType
  | 105 => yX6_make
  | 106 => yX6_terms
  | 107 => yX6_isTerm
  | 108 => yX6_term
  | 109 => yX6_load
  | 110 => yX6_starts
  | 111 => yX6_setResult
  | 112 => yX6_infer
  | 113 => yX6_reduce
  | 114 => yX6_same
  | 115 => yX6_check
  | 116 => yX6_declare
  | 117 => yX6_define
  | 118 => yX6_constants
  | 119 => yX6_hasBody
  | 120 => yX6_typeOf
  | 121 => yX6_mark
  | 122 => yX6_find
  | 123 => yX6_keep
  | 124 => yX6_reduced
  | 125 => yL_infer
  | 126 => yL_reduce
  | 127 => yL_same
  | 128 => yL_check
  | 129 => yL_declare
  | 130 => yL_define
  | 131 => yL_law
  | _ => yL_law
def am_b : Nat → ByteArray := fun k => match k with
  | 0 => cX0_init
  | 1 => cX0_count
  | 2 => cX0_isFull
  | 3 => cX0_isThere
  | 4 => cX0_typeAt
  | 5 => cX0_bodyAt
  | 6 => cX0_add
  | 7 => cX1_init
  | 8 => cX1_forgetTypes
  | 9 => cX1_typeFound
  | 10 => cX1_levelOf
  | 11 => cX1_typeOfVariable
  | 12 => cX1_typeOfPi
  | 13 => cX1_typeOfFunction
  | 14 => cX1_typeOfApplication
  | 15 => cX1_open
  | 16 => cX1_notTooMuch
  | 17 => cX2_init
  | 18 => cX2_isEmpty
  | 19 => cX2_at
  | 20 => cX2_hasTooGreat
  | 21 => cX2_write
  | 22 => cX2_writeNode
  | 23 => cX2_read
  | 24 => cX2_readNode
  | 25 => cX3_init
  | 26 => cX3_termCount
  | 27 => cX3_isTerm
  | 28 => cX3_kindOf
  | 29 => cX3_leftOf
  | 30 => cX3_rightOf
  | 31 => cX3_sizeOf
  | 32 => cX3_depthOf
  | 33 => cX3_mayJoin
  | 34 => cX3_isTooMuch
  | 35 => cX3_addTerm
  | 36 => cX3_termLike
  | 37 => cX3_cutTerms
  | 38 => cX3_add
  | 39 => cX3_fill
  | 40 => cX3_grow
  | 41 => cX3_dropPassing
  | 42 => cX3_keepPassing
  | 43 => cX3_changed
  | 44 => cX3_withHead
  | 45 => cX4_init
  | 46 => cX4_refuel
  | 47 => cX4_madeCount
  | 48 => cX4_headForm
  | 49 => cX4_nextPlace
  | 50 => cX4_areSame
  | 51 => cX4_valueOf
  | 52 => cX4_mayBeSame
  | 53 => cX4_openParts
  | 54 => cX4_open
  | 55 => cX5_init
  | 56 => cX5_make
  | 57 => cX5_terms
  | 58 => cX5_term
  | 59 => cX5_infer
  | 60 => cX5_reduce
  | 61 => cX5_same
  | 62 => cX5_check
  | 63 => cX5_declare
  | 64 => cX5_define
  | 65 => cX5_constants
  | 66 => cX5_hasBody
  | 67 => cX5_typeOf
  | 68 => cX5_mark
  | 69 => cX5_keep
  | 70 => cX5_reduced
  | 71 => cX5_hasParts
  | 72 => cX5_mayBeMade
  | 73 => cX5_begin
  | 74 => cX5_refuseUnlooked
  | 75 => cX5_lasting
  | 76 => cX6_init
  | 77 => cX6_fail
  | 78 => cX6_kindOf
  | 79 => cX6_hasParts
  | 80 => cX6_bindsIn
  | 81 => cX6_at
  | 82 => cX6_endOf
  | 83 => cX6_copyPart
  | 84 => cX6_copy
  | 85 => cX6_setAtom
  | 86 => cX6_deepOf
  | 87 => cX6_raise
  | 88 => cX6_begin
  | 89 => cX6_put
  | 90 => cX6_putAll
  | 91 => cX6_putRaised
  | 92 => cX6_putFor
  | 93 => cX6_take
  | 94 => cX6_toHead
  | 95 => cX6_pushRest
  | 96 => cX6_pop
  | 97 => cX6_areSame
  | 98 => cX6_ask
  | 99 => cX6_levelIn
  | 100 => cX6_askPart
  | 101 => cX6_start
  | 102 => cX6_second
  | 103 => cX6_last
  | 104 => cX6_toType
  | 105 => cX6_make
  | 106 => cX6_terms
  | 107 => cX6_isTerm
  | 108 => cX6_term
  | 109 => cX6_load
  | 110 => cX6_starts
  | 111 => cX6_setResult
  | 112 => cX6_infer
  | 113 => cX6_reduce
  | 114 => cX6_same
  | 115 => cX6_check
  | 116 => cX6_declare
  | 117 => cX6_define
  | 118 => cX6_constants
  | 119 => cX6_hasBody
  | 120 => cX6_typeOf
  | 121 => cX6_mark
  | 122 => cX6_find
  | 123 => cX6_keep
  | 124 => cX6_reduced
  | 125 => cL_infer
  | 126 => cL_reduce
  | 127 => cL_same
  | 128 => cL_check
  | 129 => cL_declare
  | 130 => cL_define
  | 131 => cL_law
  | _ => cL_law
def am_ml : Nat → Nat := fun k => match k with
  | 0 => 1
  | 1 => 1
  | 2 => 1
  | 3 => 2
  | 4 => 2
  | 5 => 2
  | 6 => 3
  | 7 => 4
  | 8 => 1
  | 9 => 4
  | 10 => 3
  | 11 => 3
  | 12 => 5
  | 13 => 4
  | 14 => 4
  | 15 => 2
  | 16 => 2
  | 17 => 1
  | 18 => 1
  | 19 => 2
  | 20 => 3
  | 21 => 3
  | 22 => 4
  | 23 => 3
  | 24 => 7
  | 25 => 1
  | 26 => 1
  | 27 => 2
  | 28 => 2
  | 29 => 2
  | 30 => 2
  | 31 => 2
  | 32 => 2
  | 33 => 3
  | 34 => 2
  | 35 => 4
  | 36 => 5
  | 37 => 2
  | 38 => 4
  | 39 => 6
  | 40 => 2
  | 41 => 1
  | 42 => 1
  | 43 => 10
  | 44 => 4
  | 45 => 3
  | 46 => 2
  | 47 => 1
  | 48 => 8
  | 49 => 6
  | 50 => 6
  | 51 => 2
  | 52 => 4
  | 53 => 3
  | 54 => 3
  | 55 => 1
  | 56 => 4
  | 57 => 1
  | 58 => 3
  | 59 => 3
  | 60 => 3
  | 61 => 4
  | 62 => 4
  | 63 => 3
  | 64 => 3
  | 65 => 1
  | 66 => 2
  | 67 => 2
  | 68 => 2
  | 69 => 3
  | 70 => 1
  | 71 => 1
  | 72 => 4
  | 73 => 4
  | 74 => 1
  | 75 => 3
  | 76 => 1
  | 77 => 2
  | 78 => 1
  | 79 => 1
  | 80 => 1
  | 81 => 3
  | 82 => 5
  | 83 => 6
  | 84 => 4
  | 85 => 3
  | 86 => 6
  | 87 => 7
  | 88 => 1
  | 89 => 2
  | 90 => 5
  | 91 => 9
  | 92 => 12
  | 93 => 3
  | 94 => 10
  | 95 => 4
  | 96 => 4
  | 97 => 5
  | 98 => 2
  | 99 => 3
  | 100 => 3
  | 101 => 5
  | 102 => 4
  | 103 => 6
  | 104 => 3
  | 105 => 6
  | 106 => 1
  | 107 => 2
  | 108 => 3
  | 109 => 7
  | 110 => 4
  | 111 => 2
  | 112 => 3
  | 113 => 3
  | 114 => 5
  | 115 => 5
  | 116 => 3
  | 117 => 4
  | 118 => 1
  | 119 => 2
  | 120 => 2
  | 121 => 2
  | 122 => 5
  | 123 => 6
  | 124 => 1
  | 125 => 5
  | 126 => 5
  | 127 => 6
  | 128 => 6
  | 129 => 5
  | 130 => 5
  | 131 => 7
  | _ => 0
def am_rt : Nat → Option FieldType := fun k => match k with
  | 0 => none
  | 1 => some .int
  | 2 => some .boolean
  | 3 => some .boolean
  | 4 => some .int
  | 5 => some .int
  | 6 => some .int
  | 7 => none
  | 8 => none
  | 9 => some .int
  | 10 => some .int
  | 11 => some .int
  | 12 => some .int
  | 13 => some .int
  | 14 => some .int
  | 15 => none
  | 16 => some .int
  | 17 => none
  | 18 => some .boolean
  | 19 => some .int
  | 20 => some .boolean
  | 21 => some .int
  | 22 => none
  | 23 => some .int
  | 24 => some .int
  | 25 => none
  | 26 => some .int
  | 27 => some .boolean
  | 28 => some .int
  | 29 => some .int
  | 30 => some .int
  | 31 => some .int
  | 32 => some .int
  | 33 => some .boolean
  | 34 => some .boolean
  | 35 => some .int
  | 36 => some .int
  | 37 => none
  | 38 => some .int
  | 39 => none
  | 40 => none
  | 41 => none
  | 42 => none
  | 43 => some .int
  | 44 => some .int
  | 45 => none
  | 46 => none
  | 47 => some .int
  | 48 => some .int
  | 49 => some .int
  | 50 => some .boolean
  | 51 => some .int
  | 52 => some .boolean
  | 53 => none
  | 54 => none
  | 55 => none
  | 56 => some .int
  | 57 => some .int
  | 58 => some .int
  | 59 => some .int
  | 60 => some .int
  | 61 => some .boolean
  | 62 => some .boolean
  | 63 => some .int
  | 64 => some .int
  | 65 => some .int
  | 66 => some .boolean
  | 67 => some .int
  | 68 => some .int
  | 69 => some .int
  | 70 => some .int
  | 71 => some .boolean
  | 72 => some .boolean
  | 73 => none
  | 74 => some .int
  | 75 => some .int
  | 76 => none
  | 77 => some .int
  | 78 => some .int
  | 79 => some .boolean
  | 80 => some .boolean
  | 81 => some .int
  | 82 => some .int
  | 83 => none
  | 84 => none
  | 85 => none
  | 86 => some .int
  | 87 => none
  | 88 => none
  | 89 => none
  | 90 => none
  | 91 => none
  | 92 => none
  | 93 => some .boolean
  | 94 => none
  | 95 => none
  | 96 => none
  | 97 => some .boolean
  | 98 => none
  | 99 => some .int
  | 100 => none
  | 101 => none
  | 102 => none
  | 103 => none
  | 104 => none
  | 105 => some .int
  | 106 => some .int
  | 107 => some .boolean
  | 108 => some .int
  | 109 => none
  | 110 => some .boolean
  | 111 => some .int
  | 112 => some .int
  | 113 => some .int
  | 114 => some .boolean
  | 115 => some .boolean
  | 116 => some .int
  | 117 => some .int
  | 118 => some .int
  | 119 => some .boolean
  | 120 => some .int
  | 121 => some .int
  | 122 => some .int
  | 123 => some .int
  | 124 => some .int
  | 125 => some .int
  | 126 => some .int
  | 127 => some .int
  | 128 => some .int
  | 129 => some .int
  | 130 => some .int
  | 131 => some .boolean
  | _ => none
def am_own : Nat → String := fun k => match k with
  | 0 => RX0
  | 1 => RX0
  | 2 => RX0
  | 3 => RX0
  | 4 => RX0
  | 5 => RX0
  | 6 => RX0
  | 7 => RX1
  | 8 => RX1
  | 9 => RX1
  | 10 => RX1
  | 11 => RX1
  | 12 => RX1
  | 13 => RX1
  | 14 => RX1
  | 15 => RX1
  | 16 => RX1
  | 17 => RX2
  | 18 => RX2
  | 19 => RX2
  | 20 => RX2
  | 21 => RX2
  | 22 => RX2
  | 23 => RX2
  | 24 => RX2
  | 25 => RX3
  | 26 => RX3
  | 27 => RX3
  | 28 => RX3
  | 29 => RX3
  | 30 => RX3
  | 31 => RX3
  | 32 => RX3
  | 33 => RX3
  | 34 => RX3
  | 35 => RX3
  | 36 => RX3
  | 37 => RX3
  | 38 => RX3
  | 39 => RX3
  | 40 => RX3
  | 41 => RX3
  | 42 => RX3
  | 43 => RX3
  | 44 => RX3
  | 45 => RX4
  | 46 => RX4
  | 47 => RX4
  | 48 => RX4
  | 49 => RX4
  | 50 => RX4
  | 51 => RX4
  | 52 => RX4
  | 53 => RX4
  | 54 => RX4
  | 55 => RX5
  | 56 => RX5
  | 57 => RX5
  | 58 => RX5
  | 59 => RX5
  | 60 => RX5
  | 61 => RX5
  | 62 => RX5
  | 63 => RX5
  | 64 => RX5
  | 65 => RX5
  | 66 => RX5
  | 67 => RX5
  | 68 => RX5
  | 69 => RX5
  | 70 => RX5
  | 71 => RX5
  | 72 => RX5
  | 73 => RX5
  | 74 => RX5
  | 75 => RX5
  | 76 => RX6
  | 77 => RX6
  | 78 => RX6
  | 79 => RX6
  | 80 => RX6
  | 81 => RX6
  | 82 => RX6
  | 83 => RX6
  | 84 => RX6
  | 85 => RX6
  | 86 => RX6
  | 87 => RX6
  | 88 => RX6
  | 89 => RX6
  | 90 => RX6
  | 91 => RX6
  | 92 => RX6
  | 93 => RX6
  | 94 => RX6
  | 95 => RX6
  | 96 => RX6
  | 97 => RX6
  | 98 => RX6
  | 99 => RX6
  | 100 => RX6
  | 101 => RX6
  | 102 => RX6
  | 103 => RX6
  | 104 => RX6
  | 105 => RX6
  | 106 => RX6
  | 107 => RX6
  | 108 => RX6
  | 109 => RX6
  | 110 => RX6
  | 111 => RX6
  | 112 => RX6
  | 113 => RX6
  | 114 => RX6
  | 115 => RX6
  | 116 => RX6
  | 117 => RX6
  | 118 => RX6
  | 119 => RX6
  | 120 => RX6
  | 121 => RX6
  | 122 => RX6
  | 123 => RX6
  | 124 => RX6
  | 125 => RL
  | 126 => RL
  | 127 => RL
  | 128 => RL
  | 129 => RL
  | 130 => RL
  | 131 => RL
  | _ => RL
def am_hh : Nat → List (Nat × Nat × Nat × Nat) := fun k => match k with
  | 125 => [(0, 10, 13, 13), (0, 10, 17, 15), (0, 10, 21, 17)]
  | 126 => [(0, 10, 13, 13), (0, 10, 17, 17)]
  | 127 => [(0, 19, 22, 13), (0, 19, 26, 17)]
  | 128 => [(0, 19, 22, 13), (0, 19, 26, 15), (0, 19, 30, 17)]
  | 129 => [(0, 10, 13, 13), (0, 10, 17, 15), (0, 10, 21, 17)]
  | 130 => [(0, 10, 13, 13), (0, 10, 17, 15), (0, 10, 21, 17)]
  | _ => []
def am_mz : Nat → Nat × Nat × Nat × Nat := fun k => match k with
  | 0 => (111, 110, 0, 53)
  | 1 => (283, 281, 282, 53)
  | 2 => (652, 650, 651, 53)
  | 3 => (219, 217, 218, 53)
  | 4 => (300, 298, 299, 53)
  | 5 => (291, 289, 290, 53)
  | 6 => (660, 658, 659, 53)
  | 7 => (155, 154, 0, 55)
  | 8 => (496, 494, 495, 55)
  | 9 => (500, 498, 499, 55)
  | 10 => (541, 539, 540, 55)
  | 11 => (507, 506, 7, 55)
  | 12 => (536, 535, 8, 55)
  | 13 => (581, 580, 11, 55)
  | 14 => (591, 590, 13, 55)
  | 15 => (573, 572, 10, 55)
  | 16 => (585, 584, 12, 55)
  | 17 => (177, 176, 0, 56)
  | 18 => (328, 326, 327, 56)
  | 19 => (320, 318, 319, 56)
  | 20 => (332, 330, 331, 56)
  | 21 => (304, 302, 303, 56)
  | 22 => (308, 307, 2, 56)
  | 23 => (337, 335, 336, 56)
  | 24 => (341, 340, 3, 56)
  | 25 => (79, 78, 0, 52)
  | 26 => (257, 255, 256, 52)
  | 27 => (226, 224, 225, 52)
  | 28 => (265, 263, 264, 52)
  | 29 => (269, 267, 268, 52)
  | 30 => (273, 271, 272, 52)
  | 31 => (234, 232, 233, 52)
  | 32 => (238, 236, 237, 52)
  | 33 => (230, 228, 229, 52)
  | 34 => (566, 564, 565, 52)
  | 35 => (245, 243, 244, 52)
  | 36 => (345, 343, 344, 52)
  | 37 => (446, 444, 445, 52)
  | 38 => (353, 351, 352, 52)
  | 39 => (249, 248, 1, 52)
  | 40 => (357, 356, 4, 52)
  | 41 => (488, 486, 487, 52)
  | 42 => (675, 673, 674, 52)
  | 43 => (527, 525, 526, 52)
  | 44 => (561, 559, 560, 52)
  | 45 => (127, 126, 0, 54)
  | 46 => (492, 490, 491, 54)
  | 47 => (454, 452, 453, 54)
  | 48 => (545, 543, 544, 54)
  | 49 => (549, 548, 9, 54)
  | 50 => (596, 594, 595, 54)
  | 51 => (606, 605, 15, 54)
  | 52 => (611, 610, 16, 54)
  | 53 => (616, 615, 17, 54)
  | 54 => (600, 599, 14, 54)
  | 55 => (71, 70, 0, 51)
  | 56 => (211, 209, 210, 51)
  | 57 => (253, 251, 252, 51)
  | 58 => (261, 259, 260, 51)
  | 59 => (464, 462, 463, 51)
  | 60 => (624, 622, 623, 51)
  | 61 => (632, 630, 631, 51)
  | 62 => (640, 638, 639, 51)
  | 63 => (648, 646, 647, 51)
  | 64 => (667, 665, 666, 51)
  | 65 => (279, 277, 278, 51)
  | 66 => (287, 285, 286, 51)
  | 67 => (296, 294, 295, 51)
  | 68 => (316, 314, 315, 51)
  | 69 => (324, 322, 323, 51)
  | 70 => (450, 448, 449, 51)
  | 71 => (222, 221, 0, 51)
  | 72 => (215, 214, 0, 51)
  | 73 => (468, 467, 6, 51)
  | 74 => (656, 655, 18, 51)
  | 75 => (671, 670, 19, 51)
  | 76 => (680, 679, 0, 57)
  | 77 => (920, 919, 48, 57)
  | 78 => (826, 825, 0, 57)
  | 79 => (837, 836, 0, 57)
  | 80 => (840, 839, 0, 57)
  | 81 => (823, 822, 26, 57)
  | 82 => (856, 855, 32, 57)
  | 83 => (852, 851, 31, 57)
  | 84 => (830, 829, 27, 57)
  | 85 => (844, 843, 29, 57)
  | 86 => (892, 891, 41, 57)
  | 87 => (834, 833, 28, 57)
  | 88 => (868, 867, 35, 57)
  | 89 => (876, 875, 37, 57)
  | 90 => (872, 871, 36, 57)
  | 91 => (884, 883, 39, 57)
  | 92 => (880, 879, 38, 57)
  | 93 => (888, 887, 40, 57)
  | 94 => (864, 863, 34, 57)
  | 95 => (908, 907, 45, 57)
  | 96 => (912, 911, 46, 57)
  | 97 => (904, 903, 44, 57)
  | 98 => (815, 814, 24, 57)
  | 99 => (896, 895, 42, 57)
  | 100 => (848, 847, 30, 57)
  | 101 => (819, 818, 25, 57)
  | 102 => (860, 859, 33, 57)
  | 103 => (900, 899, 43, 57)
  | 104 => (811, 810, 23, 57)
  | 105 => (783, 781, 782, 57)
  | 106 => (787, 785, 786, 57)
  | 107 => (795, 794, 20, 57)
  | 108 => (791, 789, 790, 57)
  | 109 => (807, 806, 22, 57)
  | 110 => (803, 802, 21, 57)
  | 111 => (916, 915, 47, 57)
  | 112 => (799, 797, 798, 57)
  | 113 => (924, 922, 923, 57)
  | 114 => (928, 926, 927, 57)
  | 115 => (932, 930, 931, 57)
  | 116 => (936, 934, 935, 57)
  | 117 => (940, 938, 939, 57)
  | 118 => (944, 942, 943, 57)
  | 119 => (948, 946, 947, 57)
  | 120 => (952, 950, 951, 57)
  | 121 => (956, 954, 955, 57)
  | 122 => (964, 963, 49, 57)
  | 123 => (960, 958, 959, 57)
  | 124 => (969, 967, 968, 57)
  | 125 => (457, 456, 0, 50)
  | 126 => (620, 619, 0, 50)
  | 127 => (628, 627, 0, 50)
  | 128 => (636, 635, 0, 50)
  | 129 => (644, 643, 0, 50)
  | 130 => (663, 662, 0, 50)
  | _ => (0, 0, 0, 0)
def am_na : Nat → Nat := fun k => match k with
  | 0 => 0
  | 1 => 0
  | 2 => 0
  | 3 => 1
  | 4 => 1
  | 5 => 1
  | 6 => 2
  | 7 => 3
  | 8 => 0
  | 9 => 1
  | 10 => 1
  | 11 => 1
  | 12 => 2
  | 13 => 2
  | 14 => 2
  | 15 => 1
  | 16 => 1
  | 17 => 0
  | 18 => 0
  | 19 => 1
  | 20 => 1
  | 21 => 2
  | 22 => 2
  | 23 => 2
  | 24 => 2
  | 25 => 0
  | 26 => 0
  | 27 => 1
  | 28 => 1
  | 29 => 1
  | 30 => 1
  | 31 => 1
  | 32 => 1
  | 33 => 2
  | 34 => 1
  | 35 => 3
  | 36 => 3
  | 37 => 1
  | 38 => 3
  | 39 => 4
  | 40 => 0
  | 41 => 0
  | 42 => 0
  | 43 => 4
  | 44 => 3
  | 45 => 2
  | 46 => 1
  | 47 => 0
  | 48 => 1
  | 49 => 1
  | 50 => 2
  | 51 => 1
  | 52 => 2
  | 53 => 2
  | 54 => 2
  | 55 => 0
  | 56 => 3
  | 57 => 0
  | 58 => 2
  | 59 => 2
  | 60 => 2
  | 61 => 3
  | 62 => 3
  | 63 => 2
  | 64 => 2
  | 65 => 0
  | 66 => 1
  | 67 => 1
  | 68 => 1
  | 69 => 0
  | 70 => 0
  | 71 => 1
  | 72 => 3
  | 73 => 3
  | 74 => 0
  | 75 => 1
  | 76 => 0
  | 77 => 1
  | 78 => 1
  | 79 => 1
  | 80 => 1
  | 81 => 2
  | 82 => 2
  | 83 => 3
  | 84 => 2
  | 85 => 2
  | 86 => 1
  | 87 => 2
  | 88 => 0
  | 89 => 1
  | 90 => 3
  | 91 => 4
  | 92 => 6
  | 93 => 1
  | 94 => 1
  | 95 => 2
  | 96 => 2
  | 97 => 0
  | 98 => 1
  | 99 => 1
  | 100 => 2
  | 101 => 1
  | 102 => 1
  | 103 => 1
  | 104 => 1
  | 105 => 3
  | 106 => 0
  | 107 => 1
  | 108 => 2
  | 109 => 2
  | 110 => 3
  | 111 => 1
  | 112 => 2
  | 113 => 2
  | 114 => 3
  | 115 => 3
  | 116 => 2
  | 117 => 2
  | 118 => 0
  | 119 => 1
  | 120 => 1
  | 121 => 1
  | 122 => 3
  | 123 => 0
  | 124 => 0
  | 125 => 4
  | 126 => 4
  | 127 => 5
  | 128 => 5
  | 129 => 4
  | 130 => 4
  | 131 => 1
  | _ => 0
def am_oc : Nat → Nat := fun k => match k with
  | 0 => 0
  | 1 => 0
  | 2 => 0
  | 3 => 0
  | 4 => 0
  | 5 => 0
  | 6 => 0
  | 7 => 1
  | 8 => 1
  | 9 => 1
  | 10 => 1
  | 11 => 1
  | 12 => 1
  | 13 => 1
  | 14 => 1
  | 15 => 1
  | 16 => 1
  | 17 => 2
  | 18 => 2
  | 19 => 2
  | 20 => 2
  | 21 => 2
  | 22 => 2
  | 23 => 2
  | 24 => 2
  | 25 => 3
  | 26 => 3
  | 27 => 3
  | 28 => 3
  | 29 => 3
  | 30 => 3
  | 31 => 3
  | 32 => 3
  | 33 => 3
  | 34 => 3
  | 35 => 3
  | 36 => 3
  | 37 => 3
  | 38 => 3
  | 39 => 3
  | 40 => 3
  | 41 => 3
  | 42 => 3
  | 43 => 3
  | 44 => 3
  | 45 => 4
  | 46 => 4
  | 47 => 4
  | 48 => 4
  | 49 => 4
  | 50 => 4
  | 51 => 4
  | 52 => 4
  | 53 => 4
  | 54 => 4
  | 55 => 5
  | 56 => 5
  | 57 => 5
  | 58 => 5
  | 59 => 5
  | 60 => 5
  | 61 => 5
  | 62 => 5
  | 63 => 5
  | 64 => 5
  | 65 => 5
  | 66 => 5
  | 67 => 5
  | 68 => 5
  | 69 => 5
  | 70 => 5
  | 71 => 5
  | 72 => 5
  | 73 => 5
  | 74 => 5
  | 75 => 5
  | 76 => 6
  | 77 => 6
  | 78 => 6
  | 79 => 6
  | 80 => 6
  | 81 => 6
  | 82 => 6
  | 83 => 6
  | 84 => 6
  | 85 => 6
  | 86 => 6
  | 87 => 6
  | 88 => 6
  | 89 => 6
  | 90 => 6
  | 91 => 6
  | 92 => 6
  | 93 => 6
  | 94 => 6
  | 95 => 6
  | 96 => 6
  | 97 => 6
  | 98 => 6
  | 99 => 6
  | 100 => 6
  | 101 => 6
  | 102 => 6
  | 103 => 6
  | 104 => 6
  | 105 => 6
  | 106 => 6
  | 107 => 6
  | 108 => 6
  | 109 => 6
  | 110 => 6
  | 111 => 6
  | 112 => 6
  | 113 => 6
  | 114 => 6
  | 115 => 6
  | 116 => 6
  | 117 => 6
  | 118 => 6
  | 119 => 6
  | 120 => 6
  | 121 => 6
  | 122 => 6
  | 123 => 6
  | 124 => 6
  | _ => 99
def am_T : Nat → u_T := fun k => match k with
  | 0 => TX0
  | 1 => TX1
  | 2 => TX2
  | 3 => TX3
  | 4 => TX4
  | 5 => TX5
  | 6 => TX6
  | _ => TX0
def am_C : Nat → String := fun k => match k with
  | 0 => RX0
  | 1 => RX1
  | 2 => RX2
  | 3 => RX3
  | 4 => RX4
  | 5 => RX5
  | 6 => RX6
  | _ => RL
def am_N : Nat → Nat := fun k => match k with
  | 0 => 3
  | 1 => 5
  | 2 => 3
  | 3 => 8
  | 4 => 7
  | 5 => 6
  | 6 => 32
  | _ => 0
def am_ty : Nat → Nat → FieldType := fun k => match k with
  | 0 => tyX0
  | 1 => tyX1
  | 2 => tyX2
  | 3 => tyX3
  | 4 => tyX4
  | 5 => tyX5
  | 6 => tyX6
  | _ => tyX0
def am_df : Nat → List Value := fun k => match k with
  | 0 => [.null, .null, .int 0]
  | 1 => [.null, .null, .null, .null, .int 0]
  | 2 => [.null, .int 0, .int 0]
  | 3 => [.null, .null, .null, .null, .null, .int 0, .int 0, .int 0]
  | 4 => [.null, .null, .null, .null, .int 0, .int 0, .int 0]
  | 5 => [.null, .null, .null, .null, .null, .null]
  | 6 => [.int 0, .int 0, .null, .null, .null, .null, .null, .int 0, .null, .int 0, .null, .null, .int 0, .null, .int 0, .null, .null, .int 0, .int 0, .int 0, .int 0, .null, .null, .null, .int 0, .int 0, .null, .int 0, .int 0, .null, .null, .null]
  | _ => []
def am_cz : Nat → Nat × Nat := fun k => match k with
  | 0 => (108, 53)
  | 1 => (152, 55)
  | 2 => (174, 56)
  | 3 => (76, 52)
  | 4 => (124, 54)
  | 5 => (68, 51)
  | 6 => (677, 57)
  | _ => (0, 0)
def am_lz : Nat → List Nat := fun k => match k with
  | 0 => [116, 118, 120]
  | 1 => [162, 164, 166, 168, 170]
  | 2 => [182, 184, 186]
  | 3 => [89, 91, 93, 95, 97, 99, 101, 103]
  | 4 => [136, 138, 140, 142, 144, 146, 148]
  | 5 => [195, 197, 199, 201, 203, 205]
  | 6 => [714, 716, 718, 720, 722, 724, 726, 728, 730, 732, 734, 736, 738, 740, 742, 744, 746, 748, 750, 752, 754, 756, 758, 760, 762, 764, 766, 768, 770, 772, 774, 776]
  | _ => []
def am_az : Nat → Nat := fun k => match k with
  | 0 => 106
  | 1 => 779
  | _ => 970
def am_oz : Nat × Nat := (73, 74)
def am_xz : Nat × Nat × Nat := (240, 58, 241)
def am_en : Nat → String := fun k => match k with
  | 0 => "java/lang/IllegalArgumentException"
  | 1 => "java/lang/IllegalStateException"
  | 2 => "java/lang/UnsupportedOperationException"
  | _ => ""
def am_cat : Nat → Nat := fun k => match k with
  | 13 => 0
  | 15 => 1
  | 17 => 2
  | _ => 9
def am_catz : Nat → Nat := fun k => match k with
  | 13 => 458
  | 15 => 459
  | 17 => 460
  | _ => 0
def am_c0 : List (List (Nat × am_I)) := [[(0, .aload_n 0, 0, 0, 0), (1, .invokespecial 3, 1001, 0, 112), (4, .aload_n 0, 0, 0, 0), (5, .bipush 16, 0, 0, 0), (7, .newarray .int, 0, 0, 0), (9, .putfield 9, 0, 0, 113), (12, .aload_n 0, 0, 0, 0), (13, .bipush 16, 0, 0, 0), (15, .newarray .int, 0, 0, 0), (17, .putfield 15, 0, 1, 114), (20, .aload_n 0, 0, 0, 0), (21, .iconst 0, 0, 0, 0), (22, .putfield 18, 0, 2, 115), (25, .return_, 0, 0, 0)]]
def am_c1 : List (List (Nat × am_I)) := [[(0, .aload_n 0, 0, 0, 0), (1, .getfield 18, 0, 2, 115), (4, .ireturn, 0, 0, 0)]]
def am_c2 : List (List (Nat × am_I)) := [[(0, .aload_n 0, 0, 0, 0), (1, .getfield 18, 0, 2, 115), (4, .bipush 16, 0, 0, 0), (6, .if_icmp .lt 7, 0, 0, 0), (9, .iconst 1, 0, 0, 0), (10, .goto 4, 0, 0, 0), (13, .iconst 0, 0, 0, 0), (14, .ireturn, 0, 0, 0)]]
def am_c3 : List (List (Nat × am_I)) := [[(0, .iload_n 1, 0, 0, 0), (1, .ifCond .lt 21, 0, 0, 0), (4, .iload_n 1, 0, 0, 0), (5, .aload_n 0, 0, 0, 0), (6, .getfield 18, 0, 2, 115), (9, .if_icmp .ge 13, 0, 0, 0), (12, .iload_n 1, 0, 0, 0), (13, .bipush 16, 0, 0, 0), (15, .if_icmp .ge 7, 0, 0, 0), (18, .iconst 1, 0, 0, 0), (19, .goto 4, 0, 0, 0), (22, .iconst 0, 0, 0, 0), (23, .ireturn, 0, 0, 0)]]
def am_c4 : List (List (Nat × am_I)) := [[(0, .aload_n 0, 0, 0, 0), (1, .iload_n 1, 0, 0, 0), (2, .invokevirtual 22, 3, 2, 292), (5, .ifCond .eq 12, 0, 0, 0), (8, .aload_n 0, 0, 0, 0), (9, .getfield 9, 0, 0, 113), (12, .iload_n 1, 0, 0, 0), (13, .iaload, 0, 0, 0), (14, .goto 4, 0, 0, 0), (17, .iconst (-1), 0, 0, 0), (18, .ireturn, 0, 0, 0)]]
def am_c5 : List (List (Nat × am_I)) := [[(0, .aload_n 0, 0, 0, 0), (1, .iload_n 1, 0, 0, 0), (2, .invokevirtual 22, 3, 2, 292), (5, .ifCond .eq 12, 0, 0, 0), (8, .aload_n 0, 0, 0, 0), (9, .getfield 15, 0, 1, 114), (12, .iload_n 1, 0, 0, 0), (13, .iaload, 0, 0, 0), (14, .goto 4, 0, 0, 0), (17, .iconst (-1), 0, 0, 0), (18, .ireturn, 0, 0, 0)]]
def am_c6 : List (List (Nat × am_I)) := [[(0, .aload_n 0, 0, 0, 0), (1, .getfield 18, 0, 2, 115), (4, .ifCond .lt 12, 0, 0, 0), (7, .aload_n 0, 0, 0, 0), (8, .getfield 18, 0, 2, 115), (11, .bipush 16, 0, 0, 0), (13, .if_icmp .lt 5, 0, 0, 0), (16, .iconst (-1), 0, 0, 0), (17, .ireturn, 0, 0, 0), (18, .aload_n 0, 0, 0, 0), (19, .getfield 9, 0, 0, 113), (22, .aload_n 0, 0, 0, 0), (23, .getfield 18, 0, 2, 115), (26, .iload_n 1, 0, 0, 0), (27, .iastore, 0, 0, 0), (28, .aload_n 0, 0, 0, 0), (29, .getfield 15, 0, 1, 114)],
  [(32, .aload_n 0, 0, 0, 0), (33, .getfield 18, 0, 2, 115), (36, .iload_n 2, 0, 0, 0), (37, .iastore, 0, 0, 0), (38, .aload_n 0, 0, 0, 0), (39, .dup, 0, 0, 0), (40, .getfield 18, 0, 2, 115), (43, .iconst 1, 0, 0, 0), (44, .iadd, 0, 0, 0), (45, .putfield 18, 0, 2, 115), (48, .aload_n 0, 0, 0, 0), (49, .getfield 18, 0, 2, 115), (52, .iconst 1, 0, 0, 0), (53, .isub, 0, 0, 0), (54, .ireturn, 0, 0, 0)]]
def am_c7 : List (List (Nat × am_I)) := [[(0, .aload_n 0, 0, 0, 0), (1, .invokespecial 3, 1001, 0, 156), (4, .aload_n 0, 0, 0, 0), (5, .bipush 12, 0, 0, 0), (7, .newarray .int, 0, 0, 0), (9, .putfield 9, 1, 3, 160), (12, .aload_n 0, 0, 0, 0), (13, .iconst 0, 0, 0, 0), (14, .putfield 15, 1, 4, 161), (17, .aload_n 0, 0, 0, 0), (18, .aload_n 1, 0, 0, 0), (19, .putfield 19, 1, 0, 157), (22, .aload_n 0, 0, 0, 0), (23, .aload_n 2, 0, 0, 0), (24, .putfield 23, 1, 1, 158), (27, .aload_n 0, 0, 0, 0), (28, .aload_n 3, 0, 0, 0), (29, .putfield 27, 1, 2, 159)],
  [(32, .return_, 0, 0, 0)]]
def am_c8 : List (List (Nat × am_I)) := [[(0, .aload_n 0, 0, 0, 0), (1, .iconst 0, 0, 0, 0), (2, .putfield 15, 1, 4, 161), (5, .return_, 0, 0, 0)]]
def am_c9 : List (List (Nat × am_I)) := [[(0, .aload_n 0, 0, 0, 0), (1, .getfield 19, 1, 0, 157), (4, .iload_n 1, 0, 0, 0), (5, .invokevirtual 31, 29, 2, 501), (8, .istore_n 2, 0, 0, 0), (9, .aload_n 0, 0, 0, 0), (10, .getfield 19, 1, 0, 157), (13, .iload_n 1, 0, 0, 0), (14, .invokevirtual 37, 30, 2, 502), (17, .istore_n 3, 0, 0, 0), (18, .aload_n 0, 0, 0, 0), (19, .getfield 19, 1, 0, 157), (22, .iload_n 1, 0, 0, 0), (23, .invokevirtual 40, 28, 2, 503), (26, .tableswitch 87 0 5 #[38, 44, 66, 73, 80, 57], 0, 38, 0)],
  [],
  [(64, .aload_n 0, 0, 0, 0), (65, .iload_n 2, 0, 0, 0), (66, .invokevirtual 43, 11, 2, 504), (69, .ireturn, 0, 0, 0), (70, .aload_n 0, 0, 0, 0), (71, .getfield 19, 1, 0, 157), (74, .iconst 1, 0, 0, 0), (75, .iload_n 2, 0, 0, 0), (76, .iconst 1, 0, 0, 0), (77, .iadd, 0, 0, 0), (78, .iconst (-1), 0, 0, 0), (79, .invokevirtual 46, 38, 6, 531), (82, .ireturn, 0, 0, 0), (83, .aload_n 0, 0, 0, 0), (84, .getfield 23, 1, 1, 158), (87, .iload_n 2, 0, 0, 0), (88, .invokevirtual 50, 4, 2, 532), (91, .ireturn, 0, 0, 0), (92, .aload_n 0, 0, 0, 0), (93, .iload_n 2, 0, 0, 0), (94, .iload_n 3, 0, 0, 0), (95, .invokevirtual 55, 12, 4, 533)],
  [(98, .ireturn, 0, 0, 0), (99, .aload_n 0, 0, 0, 0), (100, .iload_n 2, 0, 0, 0), (101, .iload_n 3, 0, 0, 0), (102, .invokevirtual 59, 13, 4, 578), (105, .ireturn, 0, 0, 0), (106, .aload_n 0, 0, 0, 0), (107, .iload_n 2, 0, 0, 0), (108, .iload_n 3, 0, 0, 0), (109, .invokevirtual 62, 14, 4, 588), (112, .ireturn, 0, 0, 0), (113, .iconst (-1), 0, 0, 0), (114, .ireturn, 0, 0, 0)]]
def am_c10 : List (List (Nat × am_I)) := [[(0, .aload_n 0, 0, 0, 0), (1, .getfield 27, 1, 2, 159), (4, .iload_n 1, 0, 0, 0), (5, .invokevirtual 65, 48, 2, 542), (8, .istore_n 2, 0, 0, 0), (9, .aload_n 0, 0, 0, 0), (10, .getfield 19, 1, 0, 157), (13, .iload_n 2, 0, 0, 0), (14, .invokevirtual 40, 28, 2, 503), (17, .iconst 1, 0, 0, 0), (18, .if_icmp .eq 13, 0, 0, 0), (21, .new 70, 1000, 1, 508), (31, .aload_n 0, 0, 0, 0)],
  [(32, .getfield 19, 1, 0, 157), (35, .iload_n 2, 0, 0, 0), (36, .invokevirtual 31, 29, 2, 501), (39, .ireturn, 0, 0, 0)]]
def am_c11 : List (List (Nat × am_I)) := [[(0, .aload_n 0, 0, 0, 0), (1, .getfield 15, 1, 4, 161), (4, .iconst 1, 0, 0, 0), (5, .isub, 0, 0, 0), (6, .iload_n 1, 0, 0, 0), (7, .isub, 0, 0, 0), (8, .istore_n 2, 0, 0, 0), (9, .iload_n 2, 0, 0, 0), (10, .ifCond .lt 17, 0, 0, 0), (13, .iload_n 2, 0, 0, 0), (14, .aload_n 0, 0, 0, 0), (15, .getfield 15, 1, 4, 161), (18, .if_icmp .ge 9, 0, 0, 0), (21, .iload_n 2, 0, 0, 0), (22, .bipush 12, 0, 0, 0), (24, .if_icmp .lt 13, 0, 0, 0), (27, .new 70, 1001, 1, 508)],
  [(37, .aload_n 0, 0, 0, 0), (38, .getfield 19, 1, 0, 157), (41, .aload_n 0, 0, 0, 0), (42, .getfield 9, 1, 3, 160), (45, .iload_n 2, 0, 0, 0), (46, .iaload, 0, 0, 0), (47, .iconst 0, 0, 0, 0), (48, .iconst (-1), 0, 0, 0), (49, .iload_n 1, 0, 0, 0), (50, .iconst 1, 0, 0, 0), (51, .iadd, 0, 0, 0), (52, .invokevirtual 79, 43, 8, 524), (55, .ireturn, 0, 0, 0)]]
def am_c12 : List (List (Nat × am_I)) := [[(0, .aload_n 0, 0, 0, 0), (1, .aload_n 0, 0, 0, 0), (2, .iload_n 1, 0, 0, 0), (3, .invokevirtual 83, 9, 2, 537), (6, .invokevirtual 86, 10, 2, 538), (9, .istore_n 3, 0, 0, 0), (10, .aload_n 0, 0, 0, 0), (11, .iload_n 1, 0, 0, 0), (12, .invokevirtual 89, 15, 2, 570), (15, .aload_n 0, 0, 0, 0), (16, .aload_n 0, 0, 0, 0), (17, .iload_n 2, 0, 0, 0), (18, .invokevirtual 83, 9, 2, 537), (21, .invokevirtual 86, 10, 2, 538), (24, .istore 4, 0, 0, 0), (26, .aload_n 0, 0, 0, 0), (27, .dup, 0, 0, 0), (28, .getfield 15, 1, 4, 161), (31, .iconst 1, 0, 0, 0)],
  [(32, .isub, 0, 0, 0), (33, .putfield 15, 1, 4, 161), (36, .aload_n 0, 0, 0, 0), (37, .getfield 19, 1, 0, 157), (40, .iconst 1, 0, 0, 0), (41, .iload_n 3, 0, 0, 0), (42, .iload 4, 0, 0, 0), (44, .invokestatic 93, 1002, 0, 577), (47, .iconst (-1), 0, 0, 0), (48, .invokevirtual 46, 38, 6, 531), (51, .ireturn, 0, 0, 0)]]
def am_c13 : List (List (Nat × am_I)) := [[(0, .aload_n 0, 0, 0, 0), (1, .aload_n 0, 0, 0, 0), (2, .iload_n 1, 0, 0, 0), (3, .invokevirtual 83, 9, 2, 537), (6, .invokevirtual 86, 10, 2, 538), (9, .pop, 0, 0, 0), (10, .aload_n 0, 0, 0, 0), (11, .iload_n 1, 0, 0, 0), (12, .invokevirtual 89, 15, 2, 570), (15, .aload_n 0, 0, 0, 0), (16, .iload_n 2, 0, 0, 0), (17, .invokevirtual 83, 9, 2, 537), (20, .istore_n 3, 0, 0, 0), (21, .aload_n 0, 0, 0, 0), (22, .dup, 0, 0, 0), (23, .getfield 15, 1, 4, 161), (26, .iconst 1, 0, 0, 0), (27, .isub, 0, 0, 0), (28, .putfield 15, 1, 4, 161), (31, .aload_n 0, 0, 0, 0)],
  [(32, .aload_n 0, 0, 0, 0), (33, .getfield 19, 1, 0, 157), (36, .iconst 2, 0, 0, 0), (37, .iload_n 1, 0, 0, 0), (38, .iload_n 3, 0, 0, 0), (39, .invokevirtual 46, 38, 6, 531), (42, .invokevirtual 98, 16, 2, 582), (45, .ireturn, 0, 0, 0)]]
def am_c14 : List (List (Nat × am_I)) := [[(0, .aload_n 0, 0, 0, 0), (1, .getfield 27, 1, 2, 159), (4, .aload_n 0, 0, 0, 0), (5, .iload_n 1, 0, 0, 0), (6, .invokevirtual 83, 9, 2, 537), (9, .invokevirtual 65, 48, 2, 542), (12, .istore_n 3, 0, 0, 0), (13, .aload_n 0, 0, 0, 0), (14, .getfield 19, 1, 0, 157), (17, .iload_n 3, 0, 0, 0), (18, .invokevirtual 40, 28, 2, 503), (21, .iconst 2, 0, 0, 0), (22, .if_icmp .eq 13, 0, 0, 0), (25, .new 70, 1002, 1, 508)],
  [(35, .aload_n 0, 0, 0, 0), (36, .getfield 27, 1, 2, 159), (39, .aload_n 0, 0, 0, 0), (40, .iload_n 2, 0, 0, 0), (41, .invokevirtual 83, 9, 2, 537), (44, .aload_n 0, 0, 0, 0), (45, .getfield 19, 1, 0, 157), (48, .iload_n 3, 0, 0, 0), (49, .invokevirtual 31, 29, 2, 501), (52, .invokevirtual 103, 50, 4, 593), (55, .ifCond .ne 13, 0, 0, 0), (58, .new 70, 1003, 1, 508)],
  [(68, .aload_n 0, 0, 0, 0), (69, .aload_n 0, 0, 0, 0), (70, .getfield 19, 1, 0, 157), (73, .aload_n 0, 0, 0, 0), (74, .getfield 19, 1, 0, 157), (77, .iload_n 3, 0, 0, 0), (78, .invokevirtual 37, 30, 2, 502), (81, .iconst 0, 0, 0, 0), (82, .iload_n 2, 0, 0, 0), (83, .iconst (-1), 0, 0, 0), (84, .invokevirtual 79, 43, 8, 524), (87, .invokevirtual 98, 16, 2, 582), (90, .ireturn, 0, 0, 0)]]
def am_c15 : List (List (Nat × am_I)) := [[(0, .aload_n 0, 0, 0, 0), (1, .getfield 15, 1, 4, 161), (4, .ifCond .lt 12, 0, 0, 0), (7, .aload_n 0, 0, 0, 0), (8, .getfield 15, 1, 4, 161), (11, .bipush 12, 0, 0, 0), (13, .if_icmp .lt 13, 0, 0, 0), (16, .new 109, 1004, 2, 574), (26, .aload_n 0, 0, 0, 0), (27, .getfield 9, 1, 3, 160), (30, .aload_n 0, 0, 0, 0), (31, .getfield 15, 1, 4, 161)],
  [(34, .iload_n 1, 0, 0, 0), (35, .iastore, 0, 0, 0), (36, .aload_n 0, 0, 0, 0), (37, .dup, 0, 0, 0), (38, .getfield 15, 1, 4, 161), (41, .iconst 1, 0, 0, 0), (42, .iadd, 0, 0, 0), (43, .putfield 15, 1, 4, 161), (46, .return_, 0, 0, 0)]]
def am_c16 : List (List (Nat × am_I)) := [[(0, .aload_n 0, 0, 0, 0), (1, .getfield 19, 1, 0, 157), (4, .iload_n 1, 0, 0, 0), (5, .invokevirtual 114, 34, 2, 586), (8, .ifCond .eq 13, 0, 0, 0), (11, .new 109, 1005, 2, 574), (21, .iload_n 1, 0, 0, 0), (22, .ireturn, 0, 0, 0)]]
def am_c17 : List (List (Nat × am_I)) := [[(0, .aload_n 0, 0, 0, 0), (1, .invokespecial 3, 1001, 0, 178), (4, .aload_n 0, 0, 0, 0), (5, .bipush 60, 0, 0, 0), (7, .newarray .int, 0, 0, 0), (9, .putfield 9, 2, 0, 179), (12, .aload_n 0, 0, 0, 0), (13, .iconst 0, 0, 0, 0), (14, .putfield 15, 2, 1, 180), (17, .aload_n 0, 0, 0, 0), (18, .iconst 0, 0, 0, 0), (19, .putfield 19, 2, 2, 181), (22, .return_, 0, 0, 0)]]
def am_c18 : List (List (Nat × am_I)) := [[(0, .aload_n 0, 0, 0, 0), (1, .getfield 15, 2, 1, 180), (4, .ifCond .ne 7, 0, 0, 0), (7, .iconst 1, 0, 0, 0), (8, .goto 4, 0, 0, 0), (11, .iconst 0, 0, 0, 0), (12, .ireturn, 0, 0, 0)]]
def am_c19 : List (List (Nat × am_I)) := [[(0, .iload_n 1, 0, 0, 0), (1, .ifCond .lt 26, 0, 0, 0), (4, .iload_n 1, 0, 0, 0), (5, .aload_n 0, 0, 0, 0), (6, .getfield 15, 2, 1, 180), (9, .if_icmp .ge 18, 0, 0, 0), (12, .iload_n 1, 0, 0, 0), (13, .bipush 60, 0, 0, 0), (15, .if_icmp .ge 12, 0, 0, 0), (18, .aload_n 0, 0, 0, 0), (19, .getfield 9, 2, 0, 179), (22, .iload_n 1, 0, 0, 0), (23, .iaload, 0, 0, 0), (24, .goto 4, 0, 0, 0), (27, .iconst (-1), 0, 0, 0), (28, .ireturn, 0, 0, 0)]]
def am_c20 : List (List (Nat × am_I)) := [[(0, .iconst 0, 0, 0, 0), (1, .istore_n 2, 0, 0, 0), (2, .iload_n 2, 0, 0, 0), (3, .aload_n 0, 0, 0, 0), (4, .getfield 15, 2, 1, 180), (7, .if_icmp .ge 36, 0, 0, 0), (10, .aload_n 0, 0, 0, 0), (11, .iload_n 2, 0, 0, 0), (12, .invokevirtual 22, 19, 2, 333), (15, .bipush 10, 0, 0, 0), (17, .irem, 0, 0, 0), (18, .iload_n 1, 0, 0, 0), (19, .if_icmp .ne 18, 0, 0, 0), (22, .aload_n 0, 0, 0, 0), (23, .iload_n 2, 0, 0, 0), (24, .invokevirtual 22, 19, 2, 333), (27, .bipush 10, 0, 0, 0), (29, .idiv, 0, 0, 0), (30, .bipush 9, 0, 0, 0)],
  [(32, .if_icmp .le 5, 0, 0, 0), (35, .iconst 1, 0, 0, 0), (36, .ireturn, 0, 0, 0), (37, .iinc 2 1, 0, 0, 0), (40, .goto (-38), 0, 0, 0), (43, .iconst 0, 0, 0, 0), (44, .ireturn, 0, 0, 0)]]
def am_c21 : List (List (Nat × am_I)) := [[(0, .aload_n 0, 0, 0, 0), (1, .iconst 0, 0, 0, 0), (2, .putfield 15, 2, 1, 180), (5, .aload_n 0, 0, 0, 0), (6, .aload_n 1, 0, 0, 0), (7, .iload_n 2, 0, 0, 0), (8, .invokevirtual 26, 22, 4, 305), (11, .aload_n 0, 0, 0, 0), (12, .getfield 15, 2, 1, 180), (15, .ireturn, 0, 0, 0)]]
def am_c22 : List (List (Nat × am_I)) := [[(0, .aload_n 0, 0, 0, 0), (1, .getfield 15, 2, 1, 180), (4, .ifCond .lt 12, 0, 0, 0), (7, .aload_n 0, 0, 0, 0), (8, .getfield 15, 2, 1, 180), (11, .bipush 60, 0, 0, 0), (13, .if_icmp .lt 4, 0, 0, 0), (16, .return_, 0, 0, 0), (17, .aload_n 1, 0, 0, 0), (18, .iload_n 2, 0, 0, 0), (19, .invokevirtual 30, 28, 2, 309), (22, .istore_n 3, 0, 0, 0), (23, .aload_n 0, 0, 0, 0), (24, .getfield 9, 2, 0, 179), (27, .aload_n 0, 0, 0, 0), (28, .getfield 15, 2, 1, 180), (31, .iload_n 3, 0, 0, 0)],
  [(32, .invokestatic 35, 71, 3, 310), (35, .ifCond .eq 7, 0, 0, 0), (38, .iload_n 3, 0, 0, 0), (39, .goto 13, 0, 0, 0), (42, .iload_n 3, 0, 0, 0), (43, .bipush 10, 0, 0, 0), (45, .aload_n 1, 0, 0, 0), (46, .iload_n 2, 0, 0, 0), (47, .invokevirtual 39, 29, 2, 311), (50, .imul, 0, 0, 0), (51, .iadd, 0, 0, 0), (52, .iastore, 0, 0, 0), (53, .aload_n 0, 0, 0, 0), (54, .dup, 0, 0, 0), (55, .getfield 15, 2, 1, 180), (58, .iconst 1, 0, 0, 0), (59, .iadd, 0, 0, 0), (60, .putfield 15, 2, 1, 180), (63, .iload_n 3, 0, 0, 0)],
  [(64, .invokestatic 35, 71, 3, 310), (67, .ifCond .eq 23, 0, 0, 0), (70, .aload_n 0, 0, 0, 0), (71, .aload_n 1, 0, 0, 0), (72, .aload_n 1, 0, 0, 0), (73, .iload_n 2, 0, 0, 0), (74, .invokevirtual 39, 29, 2, 311), (77, .invokevirtual 26, 22, 4, 305), (80, .aload_n 0, 0, 0, 0), (81, .aload_n 1, 0, 0, 0), (82, .aload_n 1, 0, 0, 0), (83, .iload_n 2, 0, 0, 0), (84, .invokevirtual 42, 30, 2, 312), (87, .invokevirtual 26, 22, 4, 305), (90, .return_, 0, 0, 0)]]
def am_c23 : List (List (Nat × am_I)) := [[(0, .aload_n 0, 0, 0, 0), (1, .iconst 0, 0, 0, 0), (2, .putfield 19, 2, 2, 181), (5, .aload_n 0, 0, 0, 0), (6, .aload_n 1, 0, 0, 0), (7, .iload_n 2, 0, 0, 0), (8, .invokevirtual 45, 24, 4, 338), (11, .ireturn, 0, 0, 0)]]
def am_c24 : List (List (Nat × am_I)) := [[(0, .aload_n 0, 0, 0, 0), (1, .aload_n 0, 0, 0, 0), (2, .getfield 19, 2, 2, 181), (5, .invokevirtual 22, 19, 2, 333), (8, .istore_n 3, 0, 0, 0), (9, .iload_n 3, 0, 0, 0), (10, .iconst (-1), 0, 0, 0), (11, .if_icmp .ne 5, 0, 0, 0), (14, .iconst (-1), 0, 0, 0), (15, .ireturn, 0, 0, 0), (16, .aload_n 0, 0, 0, 0), (17, .dup, 0, 0, 0), (18, .getfield 19, 2, 2, 181), (21, .iconst 1, 0, 0, 0), (22, .iadd, 0, 0, 0), (23, .putfield 19, 2, 2, 181), (26, .iload_n 3, 0, 0, 0), (27, .bipush 10, 0, 0, 0), (29, .irem, 0, 0, 0), (30, .istore 4, 0, 0, 0)],
  [(32, .iload_n 3, 0, 0, 0), (33, .bipush 10, 0, 0, 0), (35, .idiv, 0, 0, 0), (36, .istore 5, 0, 0, 0), (38, .iconst (-1), 0, 0, 0), (39, .istore 6, 0, 0, 0), (41, .iload 4, 0, 0, 0), (43, .invokestatic 35, 71, 3, 310), (46, .ifCond .eq 37, 0, 0, 0), (49, .aload_n 0, 0, 0, 0), (50, .aload_n 1, 0, 0, 0), (51, .iload_n 2, 0, 0, 0), (52, .invokevirtual 45, 24, 4, 338), (55, .istore 5, 0, 0, 0), (57, .iload 5, 0, 0, 0), (59, .iconst (-1), 0, 0, 0), (60, .if_icmp .ne 7, 0, 0, 0), (63, .iconst (-1), 0, 0, 0)],
  [(64, .goto 9, 0, 0, 0), (67, .aload_n 0, 0, 0, 0), (68, .aload_n 1, 0, 0, 0), (69, .iload_n 2, 0, 0, 0), (70, .invokevirtual 45, 24, 4, 338), (73, .istore 6, 0, 0, 0), (75, .iload 6, 0, 0, 0), (77, .iconst (-1), 0, 0, 0), (78, .if_icmp .ne 5, 0, 0, 0), (81, .iconst (-1), 0, 0, 0), (82, .ireturn, 0, 0, 0), (83, .iload_n 2, 0, 0, 0), (84, .ifCond .eq 16, 0, 0, 0), (87, .aload_n 1, 0, 0, 0), (88, .iload 4, 0, 0, 0), (90, .iload 5, 0, 0, 0), (92, .iload 6, 0, 0, 0), (94, .invokevirtual 49, 36, 6, 342)],
  [(97, .goto 13, 0, 0, 0), (100, .aload_n 1, 0, 0, 0), (101, .iload 4, 0, 0, 0), (103, .iload 5, 0, 0, 0), (105, .iload 6, 0, 0, 0), (107, .invokevirtual 53, 38, 6, 350), (110, .ireturn, 0, 0, 0)]]
def am_c25 : List (List (Nat × am_I)) := [[(0, .aload_n 0, 0, 0, 0), (1, .invokespecial 3, 1001, 0, 80), (4, .aload_n 0, 0, 0, 0), (5, .sipush 512, 0, 0, 0), (8, .newarray .int, 0, 0, 0), (10, .putfield 9, 3, 0, 81), (13, .aload_n 0, 0, 0, 0), (14, .sipush 512, 0, 0, 0), (17, .newarray .int, 0, 0, 0), (19, .putfield 15, 3, 1, 82), (22, .aload_n 0, 0, 0, 0), (23, .sipush 512, 0, 0, 0), (26, .newarray .int, 0, 0, 0), (28, .putfield 18, 3, 2, 83), (31, .aload_n 0, 0, 0, 0)],
  [(32, .sipush 512, 0, 0, 0), (35, .newarray .int, 0, 0, 0), (37, .putfield 21, 3, 3, 84), (40, .aload_n 0, 0, 0, 0), (41, .sipush 512, 0, 0, 0), (44, .newarray .int, 0, 0, 0), (46, .putfield 24, 3, 4, 85), (49, .aload_n 0, 0, 0, 0), (50, .iconst 0, 0, 0, 0), (51, .putfield 27, 3, 5, 86), (54, .aload_n 0, 0, 0, 0), (55, .bipush 120, 0, 0, 0), (57, .putfield 31, 3, 6, 87), (60, .aload_n 0, 0, 0, 0), (61, .bipush 120, 0, 0, 0), (63, .putfield 34, 3, 7, 88)],
  [(66, .return_, 0, 0, 0)]]
def am_c26 : List (List (Nat × am_I)) := [[(0, .aload_n 0, 0, 0, 0), (1, .getfield 27, 3, 5, 86), (4, .ireturn, 0, 0, 0)]]
def am_c27 : List (List (Nat × am_I)) := [[(0, .iload_n 1, 0, 0, 0), (1, .ifCond .lt 15, 0, 0, 0), (4, .iload_n 1, 0, 0, 0), (5, .aload_n 0, 0, 0, 0), (6, .getfield 27, 3, 5, 86), (9, .if_icmp .ge 7, 0, 0, 0), (12, .iconst 1, 0, 0, 0), (13, .goto 4, 0, 0, 0), (16, .iconst 0, 0, 0, 0), (17, .ireturn, 0, 0, 0)]]
def am_c28 : List (List (Nat × am_I)) := [[(0, .iload_n 1, 0, 0, 0), (1, .ifCond .lt 21, 0, 0, 0), (4, .iload_n 1, 0, 0, 0), (5, .aload_n 0, 0, 0, 0), (6, .getfield 9, 3, 0, 81), (9, .arraylength, 0, 0, 0), (10, .if_icmp .ge 12, 0, 0, 0), (13, .aload_n 0, 0, 0, 0), (14, .getfield 9, 3, 0, 81), (17, .iload_n 1, 0, 0, 0), (18, .iaload, 0, 0, 0), (19, .goto 4, 0, 0, 0), (22, .iconst (-1), 0, 0, 0), (23, .ireturn, 0, 0, 0)]]
def am_c29 : List (List (Nat × am_I)) := [[(0, .iload_n 1, 0, 0, 0), (1, .ifCond .lt 21, 0, 0, 0), (4, .iload_n 1, 0, 0, 0), (5, .aload_n 0, 0, 0, 0), (6, .getfield 15, 3, 1, 82), (9, .arraylength, 0, 0, 0), (10, .if_icmp .ge 12, 0, 0, 0), (13, .aload_n 0, 0, 0, 0), (14, .getfield 15, 3, 1, 82), (17, .iload_n 1, 0, 0, 0), (18, .iaload, 0, 0, 0), (19, .goto 4, 0, 0, 0), (22, .iconst (-1), 0, 0, 0), (23, .ireturn, 0, 0, 0)]]
def am_c30 : List (List (Nat × am_I)) := [[(0, .iload_n 1, 0, 0, 0), (1, .ifCond .lt 21, 0, 0, 0), (4, .iload_n 1, 0, 0, 0), (5, .aload_n 0, 0, 0, 0), (6, .getfield 18, 3, 2, 83), (9, .arraylength, 0, 0, 0), (10, .if_icmp .ge 12, 0, 0, 0), (13, .aload_n 0, 0, 0, 0), (14, .getfield 18, 3, 2, 83), (17, .iload_n 1, 0, 0, 0), (18, .iaload, 0, 0, 0), (19, .goto 4, 0, 0, 0), (22, .iconst (-1), 0, 0, 0), (23, .ireturn, 0, 0, 0)]]
def am_c31 : List (List (Nat × am_I)) := [[(0, .iload_n 1, 0, 0, 0), (1, .ifCond .lt 21, 0, 0, 0), (4, .iload_n 1, 0, 0, 0), (5, .aload_n 0, 0, 0, 0), (6, .getfield 21, 3, 3, 84), (9, .arraylength, 0, 0, 0), (10, .if_icmp .ge 12, 0, 0, 0), (13, .aload_n 0, 0, 0, 0), (14, .getfield 21, 3, 3, 84), (17, .iload_n 1, 0, 0, 0), (18, .iaload, 0, 0, 0), (19, .goto 4, 0, 0, 0), (22, .iconst (-1), 0, 0, 0), (23, .ireturn, 0, 0, 0)]]
def am_c32 : List (List (Nat × am_I)) := [[(0, .iload_n 1, 0, 0, 0), (1, .ifCond .lt 21, 0, 0, 0), (4, .iload_n 1, 0, 0, 0), (5, .aload_n 0, 0, 0, 0), (6, .getfield 24, 3, 4, 85), (9, .arraylength, 0, 0, 0), (10, .if_icmp .ge 12, 0, 0, 0), (13, .aload_n 0, 0, 0, 0), (14, .getfield 24, 3, 4, 85), (17, .iload_n 1, 0, 0, 0), (18, .iaload, 0, 0, 0), (19, .goto 4, 0, 0, 0), (22, .iconst (-1), 0, 0, 0), (23, .ireturn, 0, 0, 0)]]
def am_c33 : List (List (Nat × am_I)) := [[(0, .iconst 1, 0, 0, 0), (1, .aload_n 0, 0, 0, 0), (2, .iload_n 1, 0, 0, 0), (3, .invokevirtual 37, 31, 2, 231), (6, .iadd, 0, 0, 0), (7, .aload_n 0, 0, 0, 0), (8, .iload_n 2, 0, 0, 0), (9, .invokevirtual 37, 31, 2, 231), (12, .iadd, 0, 0, 0), (13, .bipush 60, 0, 0, 0), (15, .if_icmp .gt 27, 0, 0, 0), (18, .iconst 1, 0, 0, 0), (19, .aload_n 0, 0, 0, 0), (20, .iload_n 1, 0, 0, 0), (21, .invokevirtual 41, 32, 2, 235), (24, .aload_n 0, 0, 0, 0), (25, .iload_n 2, 0, 0, 0), (26, .invokevirtual 41, 32, 2, 235), (29, .invokestatic 44, 1002, 0, 239)],
  [(32, .iadd, 0, 0, 0), (33, .bipush 12, 0, 0, 0), (35, .if_icmp .gt 7, 0, 0, 0), (38, .iconst 1, 0, 0, 0), (39, .goto 4, 0, 0, 0), (42, .iconst 0, 0, 0, 0), (43, .ireturn, 0, 0, 0)]]
def am_c34 : List (List (Nat × am_I)) := [[(0, .aload_n 0, 0, 0, 0), (1, .iload_n 1, 0, 0, 0), (2, .invokevirtual 37, 31, 2, 231), (5, .bipush 60, 0, 0, 0), (7, .if_icmp .gt 13, 0, 0, 0), (10, .aload_n 0, 0, 0, 0), (11, .iload_n 1, 0, 0, 0), (12, .invokevirtual 41, 32, 2, 235), (15, .bipush 12, 0, 0, 0), (17, .if_icmp .le 7, 0, 0, 0), (20, .iconst 1, 0, 0, 0), (21, .goto 4, 0, 0, 0), (24, .iconst 0, 0, 0, 0), (25, .ireturn, 0, 0, 0)]]
def am_c35 : List (List (Nat × am_I)) := [[(0, .aload_n 0, 0, 0, 0), (1, .getfield 27, 3, 5, 86), (4, .bipush 120, 0, 0, 0), (6, .if_icmp .lt 5, 0, 0, 0), (9, .iconst (-1), 0, 0, 0), (10, .ireturn, 0, 0, 0), (11, .aload_n 0, 0, 0, 0), (12, .aload_n 0, 0, 0, 0), (13, .getfield 27, 3, 5, 86), (16, .iload_n 1, 0, 0, 0), (17, .iload_n 2, 0, 0, 0), (18, .iload_n 3, 0, 0, 0), (19, .invokevirtual 50, 39, 8, 246), (22, .aload_n 0, 0, 0, 0), (23, .dup, 0, 0, 0), (24, .getfield 27, 3, 5, 86), (27, .iconst 1, 0, 0, 0), (28, .iadd, 0, 0, 0), (29, .putfield 27, 3, 5, 86)],
  [(32, .aload_n 0, 0, 0, 0), (33, .getfield 27, 3, 5, 86), (36, .iconst 1, 0, 0, 0), (37, .isub, 0, 0, 0), (38, .ireturn, 0, 0, 0)]]
def am_c36 : List (List (Nat × am_I)) := [[(0, .iconst 0, 0, 0, 0), (1, .istore 4, 0, 0, 0), (3, .iload 4, 0, 0, 0), (5, .aload_n 0, 0, 0, 0), (6, .getfield 27, 3, 5, 86), (9, .if_icmp .ge 42, 0, 0, 0), (12, .aload_n 0, 0, 0, 0), (13, .iload 4, 0, 0, 0), (15, .invokevirtual 54, 28, 2, 346), (18, .iload_n 1, 0, 0, 0), (19, .if_icmp .ne 26, 0, 0, 0), (22, .aload_n 0, 0, 0, 0), (23, .iload 4, 0, 0, 0), (25, .invokevirtual 57, 29, 2, 347), (28, .iload_n 2, 0, 0, 0), (29, .if_icmp .ne 16, 0, 0, 0)],
  [(32, .aload_n 0, 0, 0, 0), (33, .iload 4, 0, 0, 0), (35, .invokevirtual 60, 30, 2, 348), (38, .iload_n 3, 0, 0, 0), (39, .if_icmp .ne 6, 0, 0, 0), (42, .iload 4, 0, 0, 0), (44, .ireturn, 0, 0, 0), (45, .iinc 4 1, 0, 0, 0), (48, .goto (-45), 0, 0, 0), (51, .aload_n 0, 0, 0, 0), (52, .iload_n 1, 0, 0, 0), (53, .iload_n 2, 0, 0, 0), (54, .iload_n 3, 0, 0, 0), (55, .invokevirtual 63, 35, 6, 349), (58, .ireturn, 0, 0, 0)]]
def am_c37 : List (List (Nat × am_I)) := [[(0, .aload_n 0, 0, 0, 0), (1, .iload_n 1, 0, 0, 0), (2, .putfield 27, 3, 5, 86), (5, .return_, 0, 0, 0)]]
def am_c38 : List (List (Nat × am_I)) := [[(0, .aload_n 0, 0, 0, 0), (1, .getfield 34, 3, 7, 88), (4, .aload_n 0, 0, 0, 0), (5, .getfield 9, 3, 0, 81), (8, .arraylength, 0, 0, 0), (9, .if_icmp .lt 7, 0, 0, 0), (12, .aload_n 0, 0, 0, 0), (13, .invokevirtual 67, 40, 0, 354), (16, .aload_n 0, 0, 0, 0), (17, .aload_n 0, 0, 0, 0), (18, .getfield 34, 3, 7, 88), (21, .iload_n 1, 0, 0, 0), (22, .iload_n 2, 0, 0, 0), (23, .iload_n 3, 0, 0, 0), (24, .invokevirtual 50, 39, 8, 246), (27, .aload_n 0, 0, 0, 0), (28, .dup, 0, 0, 0), (29, .getfield 34, 3, 7, 88)],
  [(32, .iconst 1, 0, 0, 0), (33, .iadd, 0, 0, 0), (34, .putfield 34, 3, 7, 88), (37, .aload_n 0, 0, 0, 0), (38, .getfield 34, 3, 7, 88), (41, .iconst 1, 0, 0, 0), (42, .isub, 0, 0, 0), (43, .ireturn, 0, 0, 0)]]
def am_c39 : List (List (Nat × am_I)) := [[(0, .aload_n 0, 0, 0, 0), (1, .getfield 9, 3, 0, 81), (4, .arraylength, 0, 0, 0), (5, .istore 5, 0, 0, 0), (7, .iload_n 1, 0, 0, 0), (8, .ifCond .lt 9, 0, 0, 0), (11, .iload_n 1, 0, 0, 0), (12, .iload 5, 0, 0, 0), (14, .if_icmp .lt 4, 0, 0, 0), (17, .return_, 0, 0, 0), (18, .aload_n 0, 0, 0, 0), (19, .getfield 9, 3, 0, 81), (22, .iload_n 1, 0, 0, 0), (23, .iload_n 2, 0, 0, 0), (24, .iastore, 0, 0, 0), (25, .aload_n 0, 0, 0, 0), (26, .getfield 15, 3, 1, 82), (29, .iload_n 1, 0, 0, 0), (30, .iload_n 3, 0, 0, 0), (31, .iastore, 0, 0, 0)],
  [(32, .aload_n 0, 0, 0, 0), (33, .getfield 18, 3, 2, 83), (36, .iload_n 1, 0, 0, 0), (37, .iload 4, 0, 0, 0), (39, .iastore, 0, 0, 0), (40, .aload_n 0, 0, 0, 0), (41, .getfield 21, 3, 3, 84), (44, .iload_n 1, 0, 0, 0), (45, .iconst 1, 0, 0, 0), (46, .iastore, 0, 0, 0), (47, .aload_n 0, 0, 0, 0), (48, .getfield 24, 3, 4, 85), (51, .iload_n 1, 0, 0, 0), (52, .iconst 1, 0, 0, 0), (53, .iastore, 0, 0, 0), (54, .iload 4, 0, 0, 0), (56, .iconst (-1), 0, 0, 0), (57, .if_icmp .eq 71, 0, 0, 0), (60, .iload_n 3, 0, 0, 0), (61, .ifCond .lt 67, 0, 0, 0)],
  [(64, .iload_n 3, 0, 0, 0), (65, .iload 5, 0, 0, 0), (67, .if_icmp .ge 61, 0, 0, 0), (70, .iload 4, 0, 0, 0), (72, .ifCond .lt 56, 0, 0, 0), (75, .iload 4, 0, 0, 0), (77, .iload 5, 0, 0, 0), (79, .if_icmp .ge 49, 0, 0, 0), (82, .aload_n 0, 0, 0, 0), (83, .getfield 21, 3, 3, 84), (86, .iload_n 1, 0, 0, 0), (87, .iconst 1, 0, 0, 0), (88, .aload_n 0, 0, 0, 0), (89, .getfield 21, 3, 3, 84), (92, .iload_n 3, 0, 0, 0), (93, .iaload, 0, 0, 0), (94, .iadd, 0, 0, 0), (95, .aload_n 0, 0, 0, 0)],
  [(96, .getfield 21, 3, 3, 84), (99, .iload 4, 0, 0, 0), (101, .iaload, 0, 0, 0), (102, .iadd, 0, 0, 0), (103, .iastore, 0, 0, 0), (104, .aload_n 0, 0, 0, 0), (105, .getfield 24, 3, 4, 85), (108, .iload_n 1, 0, 0, 0), (109, .iconst 1, 0, 0, 0), (110, .aload_n 0, 0, 0, 0), (111, .getfield 24, 3, 4, 85), (114, .iload_n 3, 0, 0, 0), (115, .iaload, 0, 0, 0), (116, .aload_n 0, 0, 0, 0), (117, .getfield 24, 3, 4, 85), (120, .iload 4, 0, 0, 0), (122, .iaload, 0, 0, 0), (123, .invokestatic 44, 1002, 0, 239), (126, .iadd, 0, 0, 0), (127, .iastore, 0, 0, 0)],
  [(128, .return_, 0, 0, 0)]]
def am_c40 : List (List (Nat × am_I)) := [[(0, .aload_n 0, 0, 0, 0), (1, .getfield 9, 3, 0, 81), (4, .arraylength, 0, 0, 0), (5, .iconst 2, 0, 0, 0), (6, .imul, 0, 0, 0), (7, .istore_n 1, 0, 0, 0), (8, .iload_n 1, 0, 0, 0), (9, .ldc 70, 65536, 0, 358), (11, .if_icmp .le 13, 0, 0, 0), (14, .new 71, 1006, 2, 359), (24, .aload_n 0, 0, 0, 0), (25, .aload_n 0, 0, 0, 0), (26, .getfield 9, 3, 0, 81), (29, .iload_n 1, 0, 0, 0), (30, .invokestatic 78, 1003, 0, 0)],
  [(33, .putfield 9, 3, 0, 81), (36, .aload_n 0, 0, 0, 0), (37, .aload_n 0, 0, 0, 0), (38, .getfield 15, 3, 1, 82), (41, .iload_n 1, 0, 0, 0), (42, .invokestatic 78, 1003, 0, 0), (45, .putfield 15, 3, 1, 82), (48, .aload_n 0, 0, 0, 0), (49, .aload_n 0, 0, 0, 0), (50, .getfield 18, 3, 2, 83), (53, .iload_n 1, 0, 0, 0), (54, .invokestatic 78, 1003, 0, 0), (57, .putfield 18, 3, 2, 83), (60, .aload_n 0, 0, 0, 0), (61, .aload_n 0, 0, 0, 0), (62, .getfield 21, 3, 3, 84)],
  [(65, .iload_n 1, 0, 0, 0), (66, .invokestatic 78, 1003, 0, 0), (69, .putfield 21, 3, 3, 84), (72, .aload_n 0, 0, 0, 0), (73, .aload_n 0, 0, 0, 0), (74, .getfield 24, 3, 4, 85), (77, .iload_n 1, 0, 0, 0), (78, .invokestatic 78, 1003, 0, 0), (81, .putfield 24, 3, 4, 85), (84, .return_, 0, 0, 0)]]
def am_c41 : List (List (Nat × am_I)) := [[(0, .aload_n 0, 0, 0, 0), (1, .aload_n 0, 0, 0, 0), (2, .getfield 31, 3, 6, 87), (5, .putfield 34, 3, 7, 88), (8, .return_, 0, 0, 0)]]
def am_c42 : List (List (Nat × am_I)) := [[(0, .aload_n 0, 0, 0, 0), (1, .aload_n 0, 0, 0, 0), (2, .getfield 34, 3, 7, 88), (5, .putfield 31, 3, 6, 87), (8, .return_, 0, 0, 0)]]
def am_c43 : List (List (Nat × am_I)) := [[(0, .aload_n 0, 0, 0, 0), (1, .iload_n 1, 0, 0, 0), (2, .invokevirtual 54, 28, 2, 346), (5, .istore 5, 0, 0, 0), (7, .aload_n 0, 0, 0, 0), (8, .iload_n 1, 0, 0, 0), (9, .invokevirtual 57, 29, 2, 347), (12, .istore 6, 0, 0, 0), (14, .iload 5, 0, 0, 0), (16, .ifCond .ne 58, 0, 0, 0), (19, .iload_n 3, 0, 0, 0), (20, .iconst (-1), 0, 0, 0), (21, .if_icmp .eq 26, 0, 0, 0), (24, .iload 6, 0, 0, 0), (26, .iload_n 2, 0, 0, 0), (27, .if_icmp .ne 20, 0, 0, 0), (30, .iload_n 2, 0, 0, 0), (31, .ifCond .ne 7, 0, 0, 0)],
  [(34, .iload_n 3, 0, 0, 0), (35, .goto 11, 0, 0, 0), (38, .aload_n 0, 0, 0, 0), (39, .iload_n 3, 0, 0, 0), (40, .iconst 0, 0, 0, 0), (41, .iconst (-1), 0, 0, 0), (42, .iload_n 2, 0, 0, 0), (43, .invokevirtual 84, 43, 8, 528), (46, .ireturn, 0, 0, 0), (47, .iload 6, 0, 0, 0), (49, .iload_n 2, 0, 0, 0), (50, .if_icmp .lt 8, 0, 0, 0), (53, .iload 4, 0, 0, 0), (55, .ifCond .ne 7, 0, 0, 0), (58, .iload_n 1, 0, 0, 0), (59, .goto 14, 0, 0, 0), (62, .aload_n 0, 0, 0, 0), (63, .iconst 0, 0, 0, 0)],
  [(64, .iload 6, 0, 0, 0), (66, .iload 4, 0, 0, 0), (68, .iadd, 0, 0, 0), (69, .iconst (-1), 0, 0, 0), (70, .invokevirtual 88, 38, 6, 529), (73, .ireturn, 0, 0, 0), (74, .iload 5, 0, 0, 0), (76, .invokestatic 91, 71, 3, 530), (79, .ifCond .ne 5, 0, 0, 0), (82, .iload_n 1, 0, 0, 0), (83, .ireturn, 0, 0, 0), (84, .aload_n 0, 0, 0, 0), (85, .iload_n 1, 0, 0, 0), (86, .invokevirtual 60, 30, 2, 348), (89, .istore 7, 0, 0, 0), (91, .aload_n 0, 0, 0, 0), (92, .iload 6, 0, 0, 0), (94, .iload_n 2, 0, 0, 0), (95, .iload_n 3, 0, 0, 0)],
  [(96, .iload 4, 0, 0, 0), (98, .invokevirtual 84, 43, 8, 528), (101, .istore 8, 0, 0, 0), (103, .aload_n 0, 0, 0, 0), (104, .iload 7, 0, 0, 0), (106, .iload 5, 0, 0, 0), (108, .iconst 4, 0, 0, 0), (109, .if_icmp .ne 7, 0, 0, 0), (112, .iload_n 2, 0, 0, 0), (113, .goto 6, 0, 0, 0), (116, .iload_n 2, 0, 0, 0), (117, .iconst 1, 0, 0, 0), (118, .iadd, 0, 0, 0), (119, .iload_n 3, 0, 0, 0), (120, .iload 4, 0, 0, 0), (122, .invokevirtual 84, 43, 8, 528), (125, .istore 9, 0, 0, 0), (127, .iload 8, 0, 0, 0)],
  [(129, .iload 6, 0, 0, 0), (131, .if_icmp .ne 14, 0, 0, 0), (134, .iload 9, 0, 0, 0), (136, .iload 7, 0, 0, 0), (138, .if_icmp .ne 7, 0, 0, 0), (141, .iload_n 1, 0, 0, 0), (142, .goto 13, 0, 0, 0), (145, .aload_n 0, 0, 0, 0), (146, .iload 5, 0, 0, 0), (148, .iload 8, 0, 0, 0), (150, .iload 9, 0, 0, 0), (152, .invokevirtual 88, 38, 6, 529), (155, .ireturn, 0, 0, 0)]]
def am_c44 : List (List (Nat × am_I)) := [[(0, .iload_n 1, 0, 0, 0), (1, .iload_n 2, 0, 0, 0), (2, .if_icmp .eq 12, 0, 0, 0), (5, .aload_n 0, 0, 0, 0), (6, .iload_n 1, 0, 0, 0), (7, .invokevirtual 54, 28, 2, 346), (10, .iconst 4, 0, 0, 0), (11, .if_icmp .eq 5, 0, 0, 0), (14, .iload_n 3, 0, 0, 0), (15, .ireturn, 0, 0, 0), (16, .aload_n 0, 0, 0, 0), (17, .iconst 4, 0, 0, 0), (18, .aload_n 0, 0, 0, 0), (19, .aload_n 0, 0, 0, 0), (20, .iload_n 1, 0, 0, 0), (21, .invokevirtual 57, 29, 2, 347), (24, .iload_n 2, 0, 0, 0), (25, .iload_n 3, 0, 0, 0), (26, .invokevirtual 95, 44, 6, 562), (29, .aload_n 0, 0, 0, 0), (30, .iload_n 1, 0, 0, 0), (31, .invokevirtual 60, 30, 2, 348)],
  [(34, .invokevirtual 88, 38, 6, 529), (37, .ireturn, 0, 0, 0)]]
def am_c45 : List (List (Nat × am_I)) := [[(0, .aload_n 0, 0, 0, 0), (1, .invokespecial 3, 1001, 0, 128), (4, .aload_n 0, 0, 0, 0), (5, .sipush 512, 0, 0, 0), (8, .newarray .int, 0, 0, 0), (10, .putfield 9, 4, 2, 131), (13, .aload_n 0, 0, 0, 0), (14, .sipush 512, 0, 0, 0), (17, .newarray .int, 0, 0, 0), (19, .putfield 15, 4, 3, 132), (22, .aload_n 0, 0, 0, 0), (23, .iconst 0, 0, 0, 0), (24, .putfield 18, 4, 4, 133), (27, .aload_n 0, 0, 0, 0), (28, .iconst 0, 0, 0, 0), (29, .putfield 22, 4, 5, 134)],
  [(32, .aload_n 0, 0, 0, 0), (33, .iconst 0, 0, 0, 0), (34, .putfield 25, 4, 6, 135), (37, .aload_n 0, 0, 0, 0), (38, .aload_n 1, 0, 0, 0), (39, .putfield 28, 4, 0, 129), (42, .aload_n 0, 0, 0, 0), (43, .aload_n 2, 0, 0, 0), (44, .putfield 32, 4, 1, 130), (47, .return_, 0, 0, 0)]]
def am_c46 : List (List (Nat × am_I)) := [[(0, .aload_n 0, 0, 0, 0), (1, .iload_n 1, 0, 0, 0), (2, .putfield 22, 4, 5, 134), (5, .aload_n 0, 0, 0, 0), (6, .iconst 0, 0, 0, 0), (7, .putfield 25, 4, 6, 135), (10, .return_, 0, 0, 0)]]
def am_c47 : List (List (Nat × am_I)) := [[(0, .aload_n 0, 0, 0, 0), (1, .getfield 25, 4, 6, 135), (4, .ireturn, 0, 0, 0)]]
def am_c48 : List (List (Nat × am_I)) := [[(0, .iload_n 1, 0, 0, 0), (1, .istore_n 2, 0, 0, 0), (2, .iconst 0, 0, 0, 0), (3, .istore_n 3, 0, 0, 0), (4, .iload_n 3, 0, 0, 0), (5, .bipush 30, 0, 0, 0), (7, .if_icmp .gt 166, 0, 0, 0), (10, .aload_n 0, 0, 0, 0), (11, .iload_n 2, 0, 0, 0), (12, .invokevirtual 36, 49, 2, 546), (15, .istore 4, 0, 0, 0), (17, .iload 4, 0, 0, 0), (19, .iconst (-1), 0, 0, 0), (20, .if_icmp .ne 5, 0, 0, 0), (23, .iload_n 2, 0, 0, 0), (24, .ireturn, 0, 0, 0), (25, .aload_n 0, 0, 0, 0), (26, .getfield 25, 4, 6, 135), (29, .aload_n 0, 0, 0, 0), (30, .getfield 22, 4, 5, 134)],
  [(33, .if_icmp .lt 13, 0, 0, 0), (36, .new 40, 1007, 2, 553), (46, .aload_n 0, 0, 0, 0), (47, .getfield 28, 4, 0, 129), (50, .iload 4, 0, 0, 0), (52, .invokevirtual 47, 29, 2, 551), (55, .istore 5, 0, 0, 0), (57, .aload_n 0, 0, 0, 0), (58, .getfield 28, 4, 0, 129), (61, .iload 4, 0, 0, 0), (63, .invokevirtual 52, 28, 2, 550)],
  [(66, .iconst 5, 0, 0, 0), (67, .if_icmp .ne 7, 0, 0, 0), (70, .iconst 1, 0, 0, 0), (71, .goto 4, 0, 0, 0), (74, .iconst 0, 0, 0, 0), (75, .istore 6, 0, 0, 0), (77, .iload 6, 0, 0, 0), (79, .ifCond .eq 15, 0, 0, 0), (82, .aload_n 0, 0, 0, 0), (83, .getfield 32, 4, 1, 130), (86, .iload 5, 0, 0, 0), (88, .invokevirtual 55, 5, 2, 552), (91, .goto 30, 0, 0, 0), (94, .aload_n 0, 0, 0, 0), (95, .getfield 28, 4, 0, 129)],
  [(98, .aload_n 0, 0, 0, 0), (99, .getfield 28, 4, 0, 129), (102, .iload 5, 0, 0, 0), (104, .invokevirtual 60, 30, 2, 556), (107, .iconst 0, 0, 0, 0), (108, .aload_n 0, 0, 0, 0), (109, .getfield 28, 4, 0, 129), (112, .iload 4, 0, 0, 0), (114, .invokevirtual 60, 30, 2, 556), (117, .iconst (-1), 0, 0, 0), (118, .invokevirtual 63, 43, 8, 557), (121, .istore 7, 0, 0, 0), (123, .aload_n 0, 0, 0, 0), (124, .getfield 28, 4, 0, 129), (127, .iload_n 2, 0, 0, 0)],
  [(128, .iload 4, 0, 0, 0), (130, .iload 7, 0, 0, 0), (132, .invokevirtual 67, 44, 6, 558), (135, .istore_n 2, 0, 0, 0), (136, .aload_n 0, 0, 0, 0), (137, .getfield 28, 4, 0, 129), (140, .iload_n 2, 0, 0, 0), (141, .invokevirtual 71, 34, 2, 563), (144, .ifCond .eq 13, 0, 0, 0), (147, .new 40, 1008, 2, 553), (157, .aload_n 0, 0, 0, 0), (158, .dup, 0, 0, 0), (159, .getfield 25, 4, 6, 135)],
  [(162, .iconst 1, 0, 0, 0), (163, .iadd, 0, 0, 0), (164, .putfield 25, 4, 6, 135), (167, .iinc 3 1, 0, 0, 0), (170, .goto (-166), 0, 0, 0), (173, .new 40, 1009, 2, 553)]]
def am_c49 : List (List (Nat × am_I)) := [[(0, .iload_n 1, 0, 0, 0), (1, .istore_n 2, 0, 0, 0), (2, .iconst (-1), 0, 0, 0), (3, .istore_n 3, 0, 0, 0), (4, .iconst 0, 0, 0, 0), (5, .istore 4, 0, 0, 0), (7, .iload 4, 0, 0, 0), (9, .bipush 12, 0, 0, 0), (11, .if_icmp .ge 32, 0, 0, 0), (14, .aload_n 0, 0, 0, 0), (15, .getfield 28, 4, 0, 129), (18, .iload_n 2, 0, 0, 0), (19, .invokevirtual 52, 28, 2, 550), (22, .iconst 4, 0, 0, 0), (23, .if_icmp .ne 20, 0, 0, 0), (26, .iload_n 2, 0, 0, 0), (27, .istore_n 3, 0, 0, 0), (28, .aload_n 0, 0, 0, 0), (29, .getfield 28, 4, 0, 129)],
  [(32, .iload_n 2, 0, 0, 0), (33, .invokevirtual 47, 29, 2, 551), (36, .istore_n 2, 0, 0, 0), (37, .iinc 4 1, 0, 0, 0), (40, .goto (-33), 0, 0, 0), (43, .aload_n 0, 0, 0, 0), (44, .getfield 28, 4, 0, 129), (47, .iload_n 2, 0, 0, 0), (48, .invokevirtual 52, 28, 2, 550), (51, .istore 4, 0, 0, 0), (53, .iload 4, 0, 0, 0), (55, .iconst 3, 0, 0, 0), (56, .if_icmp .ne 5, 0, 0, 0), (59, .iload_n 3, 0, 0, 0), (60, .ireturn, 0, 0, 0), (61, .iload 4, 0, 0, 0), (63, .iconst 5, 0, 0, 0)],
  [(64, .if_icmp .ne 26, 0, 0, 0), (67, .aload_n 0, 0, 0, 0), (68, .getfield 32, 4, 1, 130), (71, .aload_n 0, 0, 0, 0), (72, .getfield 28, 4, 0, 129), (75, .iload_n 2, 0, 0, 0), (76, .invokevirtual 47, 29, 2, 551), (79, .invokevirtual 55, 5, 2, 552), (82, .iconst (-1), 0, 0, 0), (83, .if_icmp .eq 7, 0, 0, 0), (86, .iconst 1, 0, 0, 0), (87, .goto 4, 0, 0, 0), (90, .iconst 0, 0, 0, 0), (91, .istore 5, 0, 0, 0), (93, .iload 5, 0, 0, 0), (95, .ifCond .eq 7, 0, 0, 0)],
  [(98, .iload_n 2, 0, 0, 0), (99, .goto 4, 0, 0, 0), (102, .iconst (-1), 0, 0, 0), (103, .ireturn, 0, 0, 0)]]
def am_c50 : List (List (Nat × am_I)) := [[(0, .aload_n 0, 0, 0, 0), (1, .iconst 0, 0, 0, 0), (2, .putfield 18, 4, 4, 133), (5, .aload_n 0, 0, 0, 0), (6, .iload_n 1, 0, 0, 0), (7, .iload_n 2, 0, 0, 0), (8, .invokevirtual 79, 54, 4, 597), (11, .iconst 0, 0, 0, 0), (12, .istore_n 3, 0, 0, 0), (13, .aload_n 0, 0, 0, 0), (14, .getfield 18, 4, 4, 133), (17, .ifCond .le 89, 0, 0, 0), (20, .iload_n 3, 0, 0, 0), (21, .ldc 83, 1000000, 0, 602), (23, .if_icmp .ge 83, 0, 0, 0), (26, .aload_n 0, 0, 0, 0), (27, .dup, 0, 0, 0), (28, .getfield 18, 4, 4, 133), (31, .iconst 1, 0, 0, 0)],
  [(32, .isub, 0, 0, 0), (33, .putfield 18, 4, 4, 133), (36, .aload_n 0, 0, 0, 0), (37, .aload_n 0, 0, 0, 0), (38, .aload_n 0, 0, 0, 0), (39, .getfield 9, 4, 2, 131), (42, .invokevirtual 84, 51, 2, 603), (45, .invokevirtual 88, 48, 2, 607), (48, .istore 4, 0, 0, 0), (50, .aload_n 0, 0, 0, 0), (51, .aload_n 0, 0, 0, 0), (52, .aload_n 0, 0, 0, 0), (53, .getfield 15, 4, 3, 132), (56, .invokevirtual 84, 51, 2, 603), (59, .invokevirtual 88, 48, 2, 607), (62, .istore 5, 0, 0, 0)],
  [(64, .aload_n 0, 0, 0, 0), (65, .iload 4, 0, 0, 0), (67, .iload 5, 0, 0, 0), (69, .invokevirtual 91, 52, 4, 608), (72, .ifCond .ne 5, 0, 0, 0), (75, .iconst 0, 0, 0, 0), (76, .ireturn, 0, 0, 0), (77, .aload_n 0, 0, 0, 0), (78, .getfield 28, 4, 0, 129), (81, .iload 4, 0, 0, 0), (83, .invokevirtual 52, 28, 2, 550), (86, .invokestatic 95, 71, 3, 612), (89, .ifCond .eq 11, 0, 0, 0), (92, .aload_n 0, 0, 0, 0), (93, .iload 4, 0, 0, 0), (95, .iload 5, 0, 0, 0)],
  [(97, .invokevirtual 98, 53, 4, 613), (100, .iinc 3 1, 0, 0, 0), (103, .goto (-90), 0, 0, 0), (106, .aload_n 0, 0, 0, 0), (107, .getfield 18, 4, 4, 133), (110, .ifCond .ne 7, 0, 0, 0), (113, .iconst 1, 0, 0, 0), (114, .goto 4, 0, 0, 0), (117, .iconst 0, 0, 0, 0), (118, .ireturn, 0, 0, 0)]]
def am_c51 : List (List (Nat × am_I)) := [[(0, .aload_n 0, 0, 0, 0), (1, .getfield 18, 4, 4, 133), (4, .ifCond .lt 21, 0, 0, 0), (7, .aload_n 0, 0, 0, 0), (8, .getfield 18, 4, 4, 133), (11, .aload_n 1, 0, 0, 0), (12, .arraylength, 0, 0, 0), (13, .if_icmp .ge 12, 0, 0, 0), (16, .aload_n 1, 0, 0, 0), (17, .aload_n 0, 0, 0, 0), (18, .getfield 18, 4, 4, 133), (21, .iaload, 0, 0, 0), (22, .goto 4, 0, 0, 0), (25, .iconst (-1), 0, 0, 0), (26, .ireturn, 0, 0, 0)]]
def am_c52 : List (List (Nat × am_I)) := [[(0, .aload_n 0, 0, 0, 0), (1, .getfield 28, 4, 0, 129), (4, .iload_n 1, 0, 0, 0), (5, .invokevirtual 52, 28, 2, 550), (8, .istore_n 3, 0, 0, 0), (9, .iload_n 3, 0, 0, 0), (10, .aload_n 0, 0, 0, 0), (11, .getfield 28, 4, 0, 129), (14, .iload_n 2, 0, 0, 0), (15, .invokevirtual 52, 28, 2, 550), (18, .if_icmp .eq 5, 0, 0, 0), (21, .iconst 0, 0, 0, 0), (22, .ireturn, 0, 0, 0), (23, .iload_n 3, 0, 0, 0), (24, .invokestatic 95, 71, 3, 612), (27, .ifCond .ne 22, 0, 0, 0), (30, .aload_n 0, 0, 0, 0), (31, .getfield 28, 4, 0, 129)],
  [(34, .iload_n 1, 0, 0, 0), (35, .invokevirtual 47, 29, 2, 551), (38, .aload_n 0, 0, 0, 0), (39, .getfield 28, 4, 0, 129), (42, .iload_n 2, 0, 0, 0), (43, .invokevirtual 47, 29, 2, 551), (46, .if_icmp .ne 7, 0, 0, 0), (49, .iconst 1, 0, 0, 0), (50, .goto 4, 0, 0, 0), (53, .iconst 0, 0, 0, 0), (54, .ireturn, 0, 0, 0)]]
def am_c53 : List (List (Nat × am_I)) := [[(0, .aload_n 0, 0, 0, 0), (1, .aload_n 0, 0, 0, 0), (2, .getfield 28, 4, 0, 129), (5, .iload_n 1, 0, 0, 0), (6, .invokevirtual 60, 30, 2, 556), (9, .aload_n 0, 0, 0, 0), (10, .getfield 28, 4, 0, 129), (13, .iload_n 2, 0, 0, 0), (14, .invokevirtual 60, 30, 2, 556), (17, .invokevirtual 79, 54, 4, 597), (20, .aload_n 0, 0, 0, 0), (21, .aload_n 0, 0, 0, 0), (22, .getfield 28, 4, 0, 129), (25, .iload_n 1, 0, 0, 0), (26, .invokevirtual 47, 29, 2, 551), (29, .aload_n 0, 0, 0, 0), (30, .getfield 28, 4, 0, 129)],
  [(33, .iload_n 2, 0, 0, 0), (34, .invokevirtual 47, 29, 2, 551), (37, .invokevirtual 79, 54, 4, 597), (40, .return_, 0, 0, 0)]]
def am_c54 : List (List (Nat × am_I)) := [[(0, .aload_n 0, 0, 0, 0), (1, .getfield 18, 4, 4, 133), (4, .ifCond .lt 13, 0, 0, 0), (7, .aload_n 0, 0, 0, 0), (8, .getfield 18, 4, 4, 133), (11, .sipush 512, 0, 0, 0), (14, .if_icmp .lt 13, 0, 0, 0), (17, .new 40, 1010, 2, 553), (27, .aload_n 0, 0, 0, 0), (28, .getfield 9, 4, 2, 131), (31, .aload_n 0, 0, 0, 0)],
  [(32, .getfield 18, 4, 4, 133), (35, .iload_n 1, 0, 0, 0), (36, .iastore, 0, 0, 0), (37, .aload_n 0, 0, 0, 0), (38, .getfield 15, 4, 3, 132), (41, .aload_n 0, 0, 0, 0), (42, .getfield 18, 4, 4, 133), (45, .iload_n 2, 0, 0, 0), (46, .iastore, 0, 0, 0), (47, .aload_n 0, 0, 0, 0), (48, .dup, 0, 0, 0), (49, .getfield 18, 4, 4, 133), (52, .iconst 1, 0, 0, 0), (53, .iadd, 0, 0, 0), (54, .putfield 18, 4, 4, 133), (57, .return_, 0, 0, 0)]]
def am_c55 : List (List (Nat × am_I)) := [[(0, .aload_n 0, 0, 0, 0), (1, .invokespecial 1, 1001, 0, 72), (4, .aload_n 0, 0, 0, 0), (5, .new 7, 3, 0, 75), (8, .dup, 0, 0, 0), (9, .invokespecial 9, 25, 1, 77), (12, .putfield 10, 5, 0, 189), (15, .aload_n 0, 0, 0, 0), (16, .new 16, 0, 0, 107), (19, .dup, 0, 0, 0), (20, .invokespecial 18, 0, 1, 109), (23, .putfield 19, 5, 1, 190), (26, .aload_n 0, 0, 0, 0), (27, .new 23, 4, 0, 123), (30, .dup, 0, 0, 0), (31, .aload_n 0, 0, 0, 0)],
  [(32, .getfield 10, 5, 0, 189), (35, .aload_n 0, 0, 0, 0), (36, .getfield 19, 5, 1, 190), (39, .invokespecial 25, 45, 4, 125), (42, .putfield 28, 5, 2, 191), (45, .aload_n 0, 0, 0, 0), (46, .new 32, 1, 0, 151), (49, .dup, 0, 0, 0), (50, .aload_n 0, 0, 0, 0), (51, .getfield 10, 5, 0, 189), (54, .aload_n 0, 0, 0, 0), (55, .getfield 19, 5, 1, 190), (58, .aload_n 0, 0, 0, 0), (59, .getfield 28, 5, 2, 191), (62, .invokespecial 34, 7, 6, 153)],
  [(65, .putfield 37, 5, 3, 192), (68, .aload_n 0, 0, 0, 0), (69, .new 41, 2, 0, 173), (72, .dup, 0, 0, 0), (73, .invokespecial 43, 17, 1, 175), (76, .putfield 44, 5, 4, 193), (79, .aload_n 0, 0, 0, 0), (80, .new 41, 2, 0, 173), (83, .dup, 0, 0, 0), (84, .invokespecial 43, 17, 1, 175), (87, .putfield 48, 5, 5, 194), (90, .return_, 0, 0, 0)]]
def am_c56 : List (List (Nat × am_I)) := [[(0, .aload_n 0, 0, 0, 0), (1, .iload_n 1, 0, 0, 0), (2, .iload_n 2, 0, 0, 0), (3, .iload_n 3, 0, 0, 0), (4, .invokevirtual 51, 72, 6, 212), (7, .ifCond .ne 5, 0, 0, 0), (10, .iconst (-1), 0, 0, 0), (11, .ireturn, 0, 0, 0), (12, .aload_n 0, 0, 0, 0), (13, .getfield 10, 5, 0, 189), (16, .iload_n 1, 0, 0, 0), (17, .iload_n 2, 0, 0, 0), (18, .iload_n 1, 0, 0, 0), (19, .invokestatic 55, 71, 2, 220), (22, .ifCond .eq 7, 0, 0, 0), (25, .iload_n 3, 0, 0, 0), (26, .goto 4, 0, 0, 0), (29, .iconst (-1), 0, 0, 0), (30, .invokevirtual 59, 35, 6, 242)],
  [(33, .ireturn, 0, 0, 0)]]
def am_c57 : List (List (Nat × am_I)) := [[(0, .aload_n 0, 0, 0, 0), (1, .getfield 10, 5, 0, 189), (4, .invokevirtual 63, 26, 0, 254), (7, .ireturn, 0, 0, 0)]]
def am_c58 : List (List (Nat × am_I)) := [[(0, .aload_n 0, 0, 0, 0), (1, .getfield 10, 5, 0, 189), (4, .iload_n 1, 0, 0, 0), (5, .invokevirtual 67, 27, 2, 223), (8, .ifCond .ne 5, 0, 0, 0), (11, .iconst (-1), 0, 0, 0), (12, .ireturn, 0, 0, 0), (13, .iload_n 2, 0, 0, 0), (14, .tableswitch 79 0 4 #[34, 43, 52, 61, 70], 0, 34, 0)],
  [(48, .aload_n 0, 0, 0, 0), (49, .getfield 10, 5, 0, 189), (52, .iload_n 1, 0, 0, 0), (53, .invokevirtual 70, 28, 2, 262), (56, .ireturn, 0, 0, 0), (57, .aload_n 0, 0, 0, 0), (58, .getfield 10, 5, 0, 189), (61, .iload_n 1, 0, 0, 0), (62, .invokevirtual 74, 29, 2, 266)],
  [(65, .ireturn, 0, 0, 0), (66, .aload_n 0, 0, 0, 0), (67, .getfield 10, 5, 0, 189), (70, .iload_n 1, 0, 0, 0), (71, .invokevirtual 77, 30, 2, 270), (74, .ireturn, 0, 0, 0), (75, .aload_n 0, 0, 0, 0), (76, .getfield 10, 5, 0, 189), (79, .iload_n 1, 0, 0, 0), (80, .invokevirtual 80, 31, 2, 274), (83, .ireturn, 0, 0, 0), (84, .aload_n 0, 0, 0, 0), (85, .getfield 10, 5, 0, 189), (88, .iload_n 1, 0, 0, 0), (89, .invokevirtual 83, 32, 2, 275), (92, .ireturn, 0, 0, 0), (93, .iconst (-1), 0, 0, 0), (94, .ireturn, 0, 0, 0)]]
def am_c59 : List (List (Nat × am_I)) := [[(0, .aload_n 0, 0, 0, 0), (1, .iload_n 1, 0, 0, 0), (2, .iload_n 1, 0, 0, 0), (3, .iload_n 2, 0, 0, 0), (4, .invokevirtual 86, 73, 6, 465), (7, .aload_n 0, 0, 0, 0), (8, .getfield 44, 5, 4, 193), (11, .aload_n 0, 0, 0, 0), (12, .getfield 10, 5, 0, 189), (15, .aload_n 0, 0, 0, 0), (16, .getfield 37, 5, 3, 192), (19, .iload_n 1, 0, 0, 0), (20, .invokevirtual 90, 9, 2, 497), (23, .invokevirtual 93, 21, 4, 301), (26, .ireturn, 0, 0, 0)]]
def am_c60 : List (List (Nat × am_I)) := [[(0, .aload_n 0, 0, 0, 0), (1, .iload_n 1, 0, 0, 0), (2, .iload_n 1, 0, 0, 0), (3, .iload_n 2, 0, 0, 0), (4, .invokevirtual 86, 73, 6, 465), (7, .aload_n 0, 0, 0, 0), (8, .getfield 44, 5, 4, 193), (11, .aload_n 0, 0, 0, 0), (12, .getfield 10, 5, 0, 189), (15, .aload_n 0, 0, 0, 0), (16, .getfield 28, 5, 2, 191), (19, .iload_n 1, 0, 0, 0), (20, .invokevirtual 97, 48, 2, 625), (23, .invokevirtual 93, 21, 4, 301), (26, .ireturn, 0, 0, 0)]]
def am_c61 : List (List (Nat × am_I)) := [[(0, .aload_n 0, 0, 0, 0), (1, .iload_n 1, 0, 0, 0), (2, .iload_n 2, 0, 0, 0), (3, .iload_n 3, 0, 0, 0), (4, .invokevirtual 86, 73, 6, 465), (7, .aload_n 0, 0, 0, 0), (8, .getfield 28, 5, 2, 191), (11, .iload_n 1, 0, 0, 0), (12, .iload_n 2, 0, 0, 0), (13, .invokevirtual 100, 50, 4, 633), (16, .ireturn, 0, 0, 0)]]
def am_c62 : List (List (Nat × am_I)) := [[(0, .aload_n 0, 0, 0, 0), (1, .iload_n 1, 0, 0, 0), (2, .iload_n 2, 0, 0, 0), (3, .iload_n 3, 0, 0, 0), (4, .invokevirtual 86, 73, 6, 465), (7, .aload_n 0, 0, 0, 0), (8, .getfield 37, 5, 3, 192), (11, .aload_n 0, 0, 0, 0), (12, .getfield 37, 5, 3, 192), (15, .iload_n 2, 0, 0, 0), (16, .invokevirtual 90, 9, 2, 497), (19, .invokevirtual 104, 10, 2, 641), (22, .pop, 0, 0, 0), (23, .aload_n 0, 0, 0, 0), (24, .getfield 28, 5, 2, 191), (27, .aload_n 0, 0, 0, 0), (28, .getfield 37, 5, 3, 192), (31, .iload_n 1, 0, 0, 0)],
  [(32, .invokevirtual 90, 9, 2, 497), (35, .iload_n 2, 0, 0, 0), (36, .invokevirtual 100, 50, 4, 633), (39, .ireturn, 0, 0, 0)]]
def am_c63 : List (List (Nat × am_I)) := [[(0, .aload_n 0, 0, 0, 0), (1, .getfield 19, 5, 1, 190), (4, .invokevirtual 107, 2, 0, 649), (7, .ifCond .eq 8, 0, 0, 0), (10, .aload_n 0, 0, 0, 0), (11, .invokevirtual 111, 74, 0, 653), (14, .ireturn, 0, 0, 0), (15, .aload_n 0, 0, 0, 0), (16, .iload_n 1, 0, 0, 0), (17, .iload_n 1, 0, 0, 0), (18, .iload_n 2, 0, 0, 0), (19, .invokevirtual 86, 73, 6, 465), (22, .aload_n 0, 0, 0, 0), (23, .getfield 37, 5, 3, 192), (26, .aload_n 0, 0, 0, 0), (27, .getfield 37, 5, 3, 192), (30, .iload_n 1, 0, 0, 0), (31, .invokevirtual 90, 9, 2, 497)],
  [(34, .invokevirtual 104, 10, 2, 641), (37, .pop, 0, 0, 0), (38, .aload_n 0, 0, 0, 0), (39, .getfield 19, 5, 1, 190), (42, .iload_n 1, 0, 0, 0), (43, .iconst (-1), 0, 0, 0), (44, .invokevirtual 114, 6, 4, 657), (47, .ireturn, 0, 0, 0)]]
def am_c64 : List (List (Nat × am_I)) := [[(0, .aload_n 0, 0, 0, 0), (1, .getfield 19, 5, 1, 190), (4, .invokevirtual 107, 2, 0, 649), (7, .ifCond .eq 8, 0, 0, 0), (10, .aload_n 0, 0, 0, 0), (11, .invokevirtual 111, 74, 0, 653), (14, .ireturn, 0, 0, 0), (15, .aload_n 0, 0, 0, 0), (16, .iload_n 1, 0, 0, 0), (17, .iload_n 1, 0, 0, 0), (18, .iload_n 2, 0, 0, 0), (19, .invokevirtual 86, 73, 6, 465), (22, .aload_n 0, 0, 0, 0), (23, .getfield 48, 5, 5, 194), (26, .aload_n 0, 0, 0, 0), (27, .getfield 10, 5, 0, 189), (30, .aload_n 0, 0, 0, 0), (31, .getfield 37, 5, 3, 192)],
  [(34, .iload_n 1, 0, 0, 0), (35, .invokevirtual 90, 9, 2, 497), (38, .invokevirtual 93, 21, 4, 301), (41, .pop, 0, 0, 0), (42, .aload_n 0, 0, 0, 0), (43, .getfield 48, 5, 5, 194), (46, .iconst 1, 0, 0, 0), (47, .invokevirtual 118, 20, 2, 329), (50, .ifCond .eq 5, 0, 0, 0), (53, .iconst (-1), 0, 0, 0), (54, .ireturn, 0, 0, 0), (55, .aload_n 0, 0, 0, 0), (56, .getfield 19, 5, 1, 190), (59, .aload_n 0, 0, 0, 0), (60, .aload_n 0, 0, 0, 0), (61, .getfield 48, 5, 5, 194)],
  [(64, .invokevirtual 121, 75, 2, 668), (67, .iload_n 1, 0, 0, 0), (68, .invokevirtual 114, 6, 4, 657), (71, .ireturn, 0, 0, 0)]]
def am_c65 : List (List (Nat × am_I)) := [[(0, .aload_n 0, 0, 0, 0), (1, .getfield 19, 5, 1, 190), (4, .invokevirtual 125, 1, 0, 280), (7, .ireturn, 0, 0, 0)]]
def am_c66 : List (List (Nat × am_I)) := [[(0, .aload_n 0, 0, 0, 0), (1, .getfield 19, 5, 1, 190), (4, .iload_n 1, 0, 0, 0), (5, .invokevirtual 128, 5, 2, 288), (8, .iconst (-1), 0, 0, 0), (9, .if_icmp .eq 7, 0, 0, 0), (12, .iconst 1, 0, 0, 0), (13, .goto 4, 0, 0, 0), (16, .iconst 0, 0, 0, 0), (17, .ireturn, 0, 0, 0)]]
def am_c67 : List (List (Nat × am_I)) := [[(0, .aload_n 0, 0, 0, 0), (1, .getfield 19, 5, 1, 190), (4, .iload_n 1, 0, 0, 0), (5, .invokevirtual 131, 3, 2, 216), (8, .ifCond .ne 5, 0, 0, 0), (11, .iconst (-1), 0, 0, 0), (12, .ireturn, 0, 0, 0), (13, .aload_n 0, 0, 0, 0), (14, .getfield 44, 5, 4, 193), (17, .aload_n 0, 0, 0, 0), (18, .getfield 10, 5, 0, 189), (21, .aload_n 0, 0, 0, 0), (22, .getfield 19, 5, 1, 190), (25, .iload_n 1, 0, 0, 0), (26, .invokevirtual 134, 4, 2, 297), (29, .invokevirtual 93, 21, 4, 301)],
  [(32, .ireturn, 0, 0, 0)]]
def am_c68 : List (List (Nat × am_I)) := [[(0, .aload_n 0, 0, 0, 0), (1, .getfield 44, 5, 4, 193), (4, .iload_n 1, 0, 0, 0), (5, .invokevirtual 137, 19, 2, 317), (8, .ireturn, 0, 0, 0)]]
def am_c69 : List (List (Nat × am_I)) := [[(0, .aload_n 0, 0, 0, 0), (1, .getfield 44, 5, 4, 193), (4, .invokevirtual 140, 18, 0, 325), (7, .ifCond .ne 25, 0, 0, 0), (10, .aload_n 0, 0, 0, 0), (11, .getfield 44, 5, 4, 193), (14, .iconst 1, 0, 0, 0), (15, .invokevirtual 118, 20, 2, 329), (18, .ifCond .ne 14, 0, 0, 0), (21, .aload_n 0, 0, 0, 0), (22, .getfield 44, 5, 4, 193), (25, .iconst 0, 0, 0, 0), (26, .invokevirtual 118, 20, 2, 329), (29, .ifCond .eq 5, 0, 0, 0)],
  [(32, .iconst (-1), 0, 0, 0), (33, .ireturn, 0, 0, 0), (34, .aload_n 0, 0, 0, 0), (35, .getfield 10, 5, 0, 189), (38, .invokevirtual 63, 26, 0, 254), (41, .istore_n 1, 0, 0, 0), (42, .aload_n 0, 0, 0, 0), (43, .getfield 44, 5, 4, 193), (46, .aload_n 0, 0, 0, 0), (47, .getfield 10, 5, 0, 189), (50, .iconst 1, 0, 0, 0), (51, .invokevirtual 143, 23, 4, 334), (54, .istore_n 2, 0, 0, 0), (55, .iload_n 2, 0, 0, 0), (56, .iconst (-1), 0, 0, 0), (57, .if_icmp .ne 11, 0, 0, 0), (60, .aload_n 0, 0, 0, 0), (61, .getfield 10, 5, 0, 189)],
  [(64, .iload_n 1, 0, 0, 0), (65, .invokevirtual 147, 37, 2, 443), (68, .iload_n 2, 0, 0, 0), (69, .ireturn, 0, 0, 0)]]
def am_c70 : List (List (Nat × am_I)) := [[(0, .aload_n 0, 0, 0, 0), (1, .getfield 28, 5, 2, 191), (4, .invokevirtual 151, 47, 0, 451), (7, .ireturn, 0, 0, 0)]]
def am_c71 : List (List (Nat × am_I)) := [[(0, .iload_n 0, 0, 0, 0), (1, .iconst 2, 0, 0, 0), (2, .if_icmp .eq 13, 0, 0, 0), (5, .iload_n 0, 0, 0, 0), (6, .iconst 3, 0, 0, 0), (7, .if_icmp .eq 8, 0, 0, 0), (10, .iload_n 0, 0, 0, 0), (11, .iconst 4, 0, 0, 0), (12, .if_icmp .ne 7, 0, 0, 0), (15, .iconst 1, 0, 0, 0), (16, .goto 4, 0, 0, 0), (19, .iconst 0, 0, 0, 0), (20, .ireturn, 0, 0, 0)]]
def am_c72 : List (List (Nat × am_I)) := [[(0, .iload_n 1, 0, 0, 0), (1, .ifCond .eq 8, 0, 0, 0), (4, .iload_n 1, 0, 0, 0), (5, .iconst 1, 0, 0, 0), (6, .if_icmp .ne 19, 0, 0, 0), (9, .iload_n 2, 0, 0, 0), (10, .ifCond .lt 13, 0, 0, 0), (13, .iload_n 2, 0, 0, 0), (14, .bipush 9, 0, 0, 0), (16, .if_icmp .gt 7, 0, 0, 0), (19, .iconst 1, 0, 0, 0), (20, .goto 4, 0, 0, 0), (23, .iconst 0, 0, 0, 0), (24, .ireturn, 0, 0, 0), (25, .iload_n 1, 0, 0, 0), (26, .iconst 5, 0, 0, 0), (27, .if_icmp .ne 12, 0, 0, 0), (30, .aload_n 0, 0, 0, 0), (31, .getfield 19, 5, 1, 190)],
  [(34, .iload_n 2, 0, 0, 0), (35, .invokevirtual 131, 3, 2, 216), (38, .ireturn, 0, 0, 0), (39, .iload_n 1, 0, 0, 0), (40, .invokestatic 55, 71, 2, 220), (43, .ifCond .eq 41, 0, 0, 0), (46, .aload_n 0, 0, 0, 0), (47, .getfield 10, 5, 0, 189), (50, .iload_n 2, 0, 0, 0), (51, .invokevirtual 67, 27, 2, 223), (54, .ifCond .eq 30, 0, 0, 0), (57, .aload_n 0, 0, 0, 0), (58, .getfield 10, 5, 0, 189), (61, .iload_n 3, 0, 0, 0), (62, .invokevirtual 67, 27, 2, 223)],
  [(65, .ifCond .eq 19, 0, 0, 0), (68, .aload_n 0, 0, 0, 0), (69, .getfield 10, 5, 0, 189), (72, .iload_n 2, 0, 0, 0), (73, .iload_n 3, 0, 0, 0), (74, .invokevirtual 154, 33, 4, 227), (77, .ifCond .eq 7, 0, 0, 0), (80, .iconst 1, 0, 0, 0), (81, .goto 4, 0, 0, 0), (84, .iconst 0, 0, 0, 0), (85, .ireturn, 0, 0, 0)]]
def am_c73 : List (List (Nat × am_I)) := [[(0, .aload_n 0, 0, 0, 0), (1, .getfield 10, 5, 0, 189), (4, .iload_n 1, 0, 0, 0), (5, .invokevirtual 67, 27, 2, 223), (8, .ifCond .eq 24, 0, 0, 0), (11, .aload_n 0, 0, 0, 0), (12, .getfield 10, 5, 0, 189), (15, .iload_n 2, 0, 0, 0), (16, .invokevirtual 67, 27, 2, 223), (19, .ifCond .eq 13, 0, 0, 0), (22, .iload_n 3, 0, 0, 0), (23, .ifCond .lt 9, 0, 0, 0), (26, .iload_n 3, 0, 0, 0), (27, .bipush 30, 0, 0, 0), (29, .if_icmp .le 13, 0, 0, 0)],
  [(32, .new 157, 1011, 0, 469), (42, .aload_n 0, 0, 0, 0), (43, .getfield 10, 5, 0, 189), (46, .invokevirtual 164, 41, 0, 485), (49, .aload_n 0, 0, 0, 0), (50, .getfield 28, 5, 2, 191), (53, .iload_n 3, 0, 0, 0), (54, .invokevirtual 167, 46, 2, 489), (57, .aload_n 0, 0, 0, 0), (58, .getfield 37, 5, 3, 192), (61, .invokevirtual 170, 8, 0, 493)],
  [(64, .return_, 0, 0, 0)]]
def am_c74 : List (List (Nat × am_I)) := [[(0, .aload_n 0, 0, 0, 0), (1, .getfield 28, 5, 2, 191), (4, .iconst 0, 0, 0, 0), (5, .invokevirtual 167, 46, 2, 489), (8, .iconst (-1), 0, 0, 0), (9, .ireturn, 0, 0, 0)]]
def am_c75 : List (List (Nat × am_I)) := [[(0, .aload_n 0, 0, 0, 0), (1, .getfield 10, 5, 0, 189), (4, .invokevirtual 164, 41, 0, 485), (7, .aload_n 1, 0, 0, 0), (8, .aload_n 0, 0, 0, 0), (9, .getfield 10, 5, 0, 189), (12, .iconst 0, 0, 0, 0), (13, .invokevirtual 143, 23, 4, 334), (16, .istore_n 2, 0, 0, 0), (17, .aload_n 0, 0, 0, 0), (18, .getfield 10, 5, 0, 189), (21, .invokevirtual 173, 42, 0, 672), (24, .iload_n 2, 0, 0, 0), (25, .ireturn, 0, 0, 0)]]
def am_c76 : List (List (Nat × am_I)) := [[(0, .aload_n 0, 0, 0, 0), (1, .invokespecial 1, 1001, 0, 681), (4, .aload_n 0, 0, 0, 0), (5, .bipush 120, 0, 0, 0), (7, .newarray .int, 0, 0, 0), (9, .putfield 7, 6, 2, 684), (12, .aload_n 0, 0, 0, 0), (13, .bipush 120, 0, 0, 0), (15, .newarray .int, 0, 0, 0), (17, .putfield 13, 6, 3, 685), (20, .aload_n 0, 0, 0, 0), (21, .bipush 120, 0, 0, 0), (23, .newarray .int, 0, 0, 0), (25, .putfield 16, 6, 4, 686), (28, .aload_n 0, 0, 0, 0), (29, .bipush 120, 0, 0, 0), (31, .newarray .int, 0, 0, 0)],
  [(33, .putfield 19, 6, 5, 687), (36, .aload_n 0, 0, 0, 0), (37, .bipush 120, 0, 0, 0), (39, .newarray .int, 0, 0, 0), (41, .putfield 22, 6, 6, 688), (44, .aload_n 0, 0, 0, 0), (45, .bipush 16, 0, 0, 0), (47, .newarray .boolean, 1, 0, 0), (49, .putfield 25, 6, 8, 690), (52, .aload_n 0, 0, 0, 0), (53, .sipush 5760, 0, 0, 0), (56, .newarray .int, 0, 0, 0), (58, .putfield 29, 6, 10, 692), (61, .aload_n 0, 0, 0, 0), (62, .bipush 96, 0, 0, 0)],
  [(64, .newarray .int, 0, 0, 0), (66, .putfield 32, 6, 11, 693), (69, .aload_n 0, 0, 0, 0), (70, .bipush 60, 0, 0, 0), (72, .newarray .int, 0, 0, 0), (74, .putfield 35, 6, 13, 695), (77, .aload_n 0, 0, 0, 0), (78, .sipush 130, 0, 0, 0), (81, .newarray .int, 0, 0, 0), (83, .putfield 38, 6, 15, 697), (86, .aload_n 0, 0, 0, 0), (87, .sipush 130, 0, 0, 0), (90, .newarray .int, 0, 0, 0), (92, .putfield 41, 6, 16, 698), (95, .aload_n 0, 0, 0, 0)],
  [(96, .bipush 40, 0, 0, 0), (98, .newarray .int, 0, 0, 0), (100, .putfield 44, 6, 21, 703), (103, .aload_n 0, 0, 0, 0), (104, .bipush 40, 0, 0, 0), (106, .newarray .int, 0, 0, 0), (108, .putfield 47, 6, 22, 704), (111, .aload_n 0, 0, 0, 0), (112, .bipush 40, 0, 0, 0), (114, .newarray .int, 0, 0, 0), (116, .putfield 50, 6, 23, 705), (119, .aload_n 0, 0, 0, 0), (120, .bipush 40, 0, 0, 0), (122, .newarray .int, 0, 0, 0), (124, .putfield 53, 6, 26, 708), (127, .aload_n 0, 0, 0, 0)],
  [(128, .sipush 4000, 0, 0, 0), (131, .newarray .int, 0, 0, 0), (133, .putfield 56, 6, 29, 711), (136, .aload_n 0, 0, 0, 0), (137, .sipush 400, 0, 0, 0), (140, .newarray .int, 0, 0, 0), (142, .putfield 59, 6, 30, 712), (145, .aload_n 0, 0, 0, 0), (146, .sipush 400, 0, 0, 0), (149, .newarray .int, 0, 0, 0), (151, .putfield 62, 6, 31, 713), (154, .return_, 0, 0, 0)]]
def am_c77 : List (List (Nat × am_I)) := [[(0, .aload_n 0, 0, 0, 0), (1, .iload_n 1, 0, 0, 0), (2, .putfield 65, 6, 0, 682), (5, .iconst 0, 0, 0, 0), (6, .ireturn, 0, 0, 0)]]
def am_c78 : List (List (Nat × am_I)) := [[(0, .iload_n 0, 0, 0, 0), (1, .bipush 10, 0, 0, 0), (3, .irem, 0, 0, 0), (4, .ireturn, 0, 0, 0)]]
def am_c79 : List (List (Nat × am_I)) := [[(0, .iload_n 0, 0, 0, 0), (1, .bipush 10, 0, 0, 0), (3, .irem, 0, 0, 0), (4, .iconst 2, 0, 0, 0), (5, .if_icmp .lt 15, 0, 0, 0), (8, .iload_n 0, 0, 0, 0), (9, .bipush 10, 0, 0, 0), (11, .irem, 0, 0, 0), (12, .iconst 4, 0, 0, 0), (13, .if_icmp .gt 7, 0, 0, 0), (16, .iconst 1, 0, 0, 0), (17, .goto 4, 0, 0, 0), (20, .iconst 0, 0, 0, 0), (21, .ireturn, 0, 0, 0)]]
def am_c80 : List (List (Nat × am_I)) := [[(0, .iload_n 0, 0, 0, 0), (1, .bipush 10, 0, 0, 0), (3, .irem, 0, 0, 0), (4, .iconst 2, 0, 0, 0), (5, .if_icmp .eq 11, 0, 0, 0), (8, .iload_n 0, 0, 0, 0), (9, .bipush 10, 0, 0, 0), (11, .irem, 0, 0, 0), (12, .iconst 3, 0, 0, 0), (13, .if_icmp .ne 7, 0, 0, 0), (16, .iconst 1, 0, 0, 0), (17, .goto 4, 0, 0, 0), (20, .iconst 0, 0, 0, 0), (21, .ireturn, 0, 0, 0)]]
def am_c81 : List (List (Nat × am_I)) := [[(0, .aload_n 0, 0, 0, 0), (1, .getfield 29, 6, 10, 692), (4, .bipush 60, 0, 0, 0), (6, .iload_n 1, 0, 0, 0), (7, .imul, 0, 0, 0), (8, .iload_n 2, 0, 0, 0), (9, .iadd, 0, 0, 0), (10, .iaload, 0, 0, 0), (11, .ireturn, 0, 0, 0)]]
def am_c82 : List (List (Nat × am_I)) := [[(0, .iconst 1, 0, 0, 0), (1, .istore_n 3, 0, 0, 0), (2, .iload_n 2, 0, 0, 0), (3, .istore 4, 0, 0, 0), (5, .iload_n 3, 0, 0, 0), (6, .ifCond .le 32, 0, 0, 0), (9, .aload_n 0, 0, 0, 0), (10, .iload_n 1, 0, 0, 0), (11, .iload 4, 0, 0, 0), (13, .invokevirtual 69, 81, 4, 820), (16, .invokestatic 73, 79, 2, 835), (19, .ifCond .eq 9, 0, 0, 0), (22, .iload_n 3, 0, 0, 0), (23, .iconst 1, 0, 0, 0), (24, .iadd, 0, 0, 0), (25, .goto 6, 0, 0, 0), (28, .iload_n 3, 0, 0, 0), (29, .iconst 1, 0, 0, 0), (30, .isub, 0, 0, 0), (31, .istore_n 3, 0, 0, 0)],
  [(32, .iinc 4 1, 0, 0, 0), (35, .goto (-30), 0, 0, 0), (38, .iload 4, 0, 0, 0), (40, .ireturn, 0, 0, 0)]]
def am_c83 : List (List (Nat × am_I)) := [[(0, .aload_n 0, 0, 0, 0), (1, .iload_n 2, 0, 0, 0), (2, .iload_n 3, 0, 0, 0), (3, .invokevirtual 77, 82, 4, 853), (6, .istore 4, 0, 0, 0), (8, .iload_n 3, 0, 0, 0), (9, .istore 5, 0, 0, 0), (11, .iload 5, 0, 0, 0), (13, .iload 4, 0, 0, 0), (15, .if_icmp .ge 30, 0, 0, 0), (18, .aload_n 0, 0, 0, 0), (19, .getfield 29, 6, 10, 692), (22, .bipush 60, 0, 0, 0), (24, .iload_n 1, 0, 0, 0), (25, .imul, 0, 0, 0), (26, .iload 5, 0, 0, 0), (28, .iadd, 0, 0, 0), (29, .iload_n 3, 0, 0, 0), (30, .isub, 0, 0, 0), (31, .aload_n 0, 0, 0, 0)],
  [(32, .iload_n 2, 0, 0, 0), (33, .iload 5, 0, 0, 0), (35, .invokevirtual 69, 81, 4, 820), (38, .iastore, 0, 0, 0), (39, .iinc 5 1, 0, 0, 0), (42, .goto (-31), 0, 0, 0), (45, .aload_n 0, 0, 0, 0), (46, .getfield 32, 6, 11, 693), (49, .iload_n 1, 0, 0, 0), (50, .iload 4, 0, 0, 0), (52, .iload_n 3, 0, 0, 0), (53, .isub, 0, 0, 0), (54, .iastore, 0, 0, 0), (55, .return_, 0, 0, 0)]]
def am_c84 : List (List (Nat × am_I)) := [[(0, .iconst 0, 0, 0, 0), (1, .istore_n 3, 0, 0, 0), (2, .iload_n 3, 0, 0, 0), (3, .aload_n 0, 0, 0, 0), (4, .getfield 32, 6, 11, 693), (7, .iload_n 2, 0, 0, 0), (8, .iaload, 0, 0, 0), (9, .if_icmp .ge 26, 0, 0, 0), (12, .aload_n 0, 0, 0, 0), (13, .getfield 29, 6, 10, 692), (16, .bipush 60, 0, 0, 0), (18, .iload_n 1, 0, 0, 0), (19, .imul, 0, 0, 0), (20, .iload_n 3, 0, 0, 0), (21, .iadd, 0, 0, 0), (22, .aload_n 0, 0, 0, 0), (23, .iload_n 2, 0, 0, 0), (24, .iload_n 3, 0, 0, 0), (25, .invokevirtual 69, 81, 4, 820), (28, .iastore, 0, 0, 0), (29, .iinc 3 1, 0, 0, 0)],
  [(32, .goto (-30), 0, 0, 0), (35, .aload_n 0, 0, 0, 0), (36, .getfield 32, 6, 11, 693), (39, .iload_n 1, 0, 0, 0), (40, .aload_n 0, 0, 0, 0), (41, .getfield 32, 6, 11, 693), (44, .iload_n 2, 0, 0, 0), (45, .iaload, 0, 0, 0), (46, .iastore, 0, 0, 0), (47, .return_, 0, 0, 0)]]
def am_c85 : List (List (Nat × am_I)) := [[(0, .aload_n 0, 0, 0, 0), (1, .getfield 29, 6, 10, 692), (4, .bipush 60, 0, 0, 0), (6, .iload_n 1, 0, 0, 0), (7, .imul, 0, 0, 0), (8, .iload_n 2, 0, 0, 0), (9, .iastore, 0, 0, 0), (10, .aload_n 0, 0, 0, 0), (11, .getfield 32, 6, 11, 693), (14, .iload_n 1, 0, 0, 0), (15, .iconst 1, 0, 0, 0), (16, .iastore, 0, 0, 0), (17, .return_, 0, 0, 0)]]
def am_c86 : List (List (Nat × am_I)) := [[(0, .iconst 1, 0, 0, 0), (1, .istore_n 2, 0, 0, 0), (2, .iconst 0, 0, 0, 0), (3, .istore_n 3, 0, 0, 0), (4, .aload_n 0, 0, 0, 0), (5, .getfield 38, 6, 15, 697), (8, .iconst 0, 0, 0, 0), (9, .iconst 1, 0, 0, 0), (10, .iastore, 0, 0, 0), (11, .iconst 0, 0, 0, 0), (12, .istore 4, 0, 0, 0), (14, .iload 4, 0, 0, 0), (16, .aload_n 0, 0, 0, 0), (17, .getfield 32, 6, 11, 693), (20, .iload_n 1, 0, 0, 0), (21, .iaload, 0, 0, 0), (22, .if_icmp .ge 74, 0, 0, 0), (25, .iinc 2 (-1), 0, 0, 0), (28, .aload_n 0, 0, 0, 0), (29, .getfield 38, 6, 15, 697)],
  [(32, .iload_n 2, 0, 0, 0), (33, .iaload, 0, 0, 0), (34, .istore 5, 0, 0, 0), (36, .iload 5, 0, 0, 0), (38, .iload_n 3, 0, 0, 0), (39, .if_icmp .le 8, 0, 0, 0), (42, .iload 5, 0, 0, 0), (44, .goto 4, 0, 0, 0), (47, .iload_n 3, 0, 0, 0), (48, .istore_n 3, 0, 0, 0), (49, .aload_n 0, 0, 0, 0), (50, .iload_n 1, 0, 0, 0), (51, .iload 4, 0, 0, 0), (53, .invokevirtual 69, 81, 4, 820), (56, .invokestatic 73, 79, 2, 835), (59, .ifCond .ne 6, 0, 0, 0), (62, .goto 28, 0, 0, 0)],
  [(65, .aload_n 0, 0, 0, 0), (66, .getfield 38, 6, 15, 697), (69, .iload_n 2, 0, 0, 0), (70, .iload 5, 0, 0, 0), (72, .iconst 1, 0, 0, 0), (73, .iadd, 0, 0, 0), (74, .iastore, 0, 0, 0), (75, .aload_n 0, 0, 0, 0), (76, .getfield 38, 6, 15, 697), (79, .iload_n 2, 0, 0, 0), (80, .iconst 1, 0, 0, 0), (81, .iadd, 0, 0, 0), (82, .iload 5, 0, 0, 0), (84, .iconst 1, 0, 0, 0), (85, .iadd, 0, 0, 0), (86, .iastore, 0, 0, 0), (87, .iinc 2 2, 0, 0, 0), (90, .iinc 4 1, 0, 0, 0), (93, .goto (-79), 0, 0, 0)],
  [(96, .iload_n 3, 0, 0, 0), (97, .ireturn, 0, 0, 0)]]
def am_c87 : List (List (Nat × am_I)) := [[(0, .iconst 1, 0, 0, 0), (1, .istore_n 3, 0, 0, 0), (2, .aload_n 0, 0, 0, 0), (3, .getfield 38, 6, 15, 697), (6, .iconst 0, 0, 0, 0), (7, .iconst 0, 0, 0, 0), (8, .iastore, 0, 0, 0), (9, .iconst 0, 0, 0, 0), (10, .istore 4, 0, 0, 0), (12, .iload 4, 0, 0, 0), (14, .aload_n 0, 0, 0, 0), (15, .getfield 32, 6, 11, 693), (18, .iload_n 1, 0, 0, 0), (19, .iaload, 0, 0, 0), (20, .if_icmp .ge 113, 0, 0, 0), (23, .iinc 3 (-1), 0, 0, 0), (26, .aload_n 0, 0, 0, 0), (27, .getfield 38, 6, 15, 697), (30, .iload_n 3, 0, 0, 0), (31, .iaload, 0, 0, 0)],
  [(32, .istore 5, 0, 0, 0), (34, .aload_n 0, 0, 0, 0), (35, .iload_n 1, 0, 0, 0), (36, .iload 4, 0, 0, 0), (38, .invokevirtual 69, 81, 4, 820), (41, .istore 6, 0, 0, 0), (43, .iload 6, 0, 0, 0), (45, .invokestatic 80, 78, 2, 824), (48, .ifCond .ne 32, 0, 0, 0), (51, .iload 6, 0, 0, 0), (53, .bipush 10, 0, 0, 0), (55, .idiv, 0, 0, 0), (56, .iload 5, 0, 0, 0), (58, .if_icmp .lt 22, 0, 0, 0), (61, .aload_n 0, 0, 0, 0), (62, .getfield 29, 6, 10, 692)],
  [(65, .bipush 60, 0, 0, 0), (67, .iload_n 1, 0, 0, 0), (68, .imul, 0, 0, 0), (69, .iload 4, 0, 0, 0), (71, .iadd, 0, 0, 0), (72, .iload 6, 0, 0, 0), (74, .bipush 10, 0, 0, 0), (76, .iload_n 2, 0, 0, 0), (77, .imul, 0, 0, 0), (78, .iadd, 0, 0, 0), (79, .iastore, 0, 0, 0), (80, .iload 6, 0, 0, 0), (82, .invokestatic 73, 79, 2, 835), (85, .ifCond .ne 6, 0, 0, 0), (88, .goto 39, 0, 0, 0), (91, .aload_n 0, 0, 0, 0), (92, .getfield 38, 6, 15, 697), (95, .iload_n 3, 0, 0, 0)],
  [(96, .iload 6, 0, 0, 0), (98, .invokestatic 84, 80, 2, 838), (101, .ifCond .eq 10, 0, 0, 0), (104, .iload 5, 0, 0, 0), (106, .iconst 1, 0, 0, 0), (107, .iadd, 0, 0, 0), (108, .goto 5, 0, 0, 0), (111, .iload 5, 0, 0, 0), (113, .iastore, 0, 0, 0), (114, .aload_n 0, 0, 0, 0), (115, .getfield 38, 6, 15, 697), (118, .iload_n 3, 0, 0, 0), (119, .iconst 1, 0, 0, 0), (120, .iadd, 0, 0, 0), (121, .iload 5, 0, 0, 0), (123, .iastore, 0, 0, 0), (124, .iinc 3 2, 0, 0, 0), (127, .iinc 4 1, 0, 0, 0)],
  [(130, .goto (-118), 0, 0, 0), (133, .return_, 0, 0, 0)]]
def am_c88 : List (List (Nat × am_I)) := [[(0, .aload_n 0, 0, 0, 0), (1, .iconst 0, 0, 0, 0), (2, .putfield 87, 6, 12, 694), (5, .aload_n 0, 0, 0, 0), (6, .iconst 0, 0, 0, 0), (7, .putfield 90, 6, 14, 696), (10, .return_, 0, 0, 0)]]
def am_c89 : List (List (Nat × am_I)) := [[(0, .aload_n 0, 0, 0, 0), (1, .getfield 87, 6, 12, 694), (4, .bipush 60, 0, 0, 0), (6, .if_icmp .ne 9, 0, 0, 0), (9, .aload_n 0, 0, 0, 0), (10, .iconst 1, 0, 0, 0), (11, .putfield 90, 6, 14, 696), (14, .return_, 0, 0, 0), (15, .aload_n 0, 0, 0, 0), (16, .getfield 35, 6, 13, 695), (19, .aload_n 0, 0, 0, 0), (20, .getfield 87, 6, 12, 694), (23, .iload_n 1, 0, 0, 0), (24, .iastore, 0, 0, 0), (25, .aload_n 0, 0, 0, 0), (26, .dup, 0, 0, 0), (27, .getfield 87, 6, 12, 694), (30, .iconst 1, 0, 0, 0), (31, .iadd, 0, 0, 0)],
  [(32, .putfield 87, 6, 12, 694), (35, .return_, 0, 0, 0)]]
def am_c90 : List (List (Nat × am_I)) := [[(0, .iload_n 2, 0, 0, 0), (1, .istore 4, 0, 0, 0), (3, .iload 4, 0, 0, 0), (5, .iload_n 3, 0, 0, 0), (6, .if_icmp .ge 27, 0, 0, 0), (9, .aload_n 0, 0, 0, 0), (10, .getfield 90, 6, 14, 696), (13, .ifCond .ne 20, 0, 0, 0), (16, .aload_n 0, 0, 0, 0), (17, .aload_n 0, 0, 0, 0), (18, .iload_n 1, 0, 0, 0), (19, .iload 4, 0, 0, 0), (21, .invokevirtual 69, 81, 4, 820), (24, .invokevirtual 94, 89, 2, 873), (27, .iinc 4 1, 0, 0, 0), (30, .goto (-27), 0, 0, 0)],
  [(33, .return_, 0, 0, 0)]]
def am_c91 : List (List (Nat × am_I)) := [[(0, .iconst 1, 0, 0, 0), (1, .istore 5, 0, 0, 0), (3, .aload_n 0, 0, 0, 0), (4, .getfield 41, 6, 16, 698), (7, .iconst 0, 0, 0, 0), (8, .iconst 0, 0, 0, 0), (9, .iastore, 0, 0, 0), (10, .iload_n 2, 0, 0, 0), (11, .istore 6, 0, 0, 0), (13, .iload 6, 0, 0, 0), (15, .iload_n 3, 0, 0, 0), (16, .if_icmp .ge 121, 0, 0, 0), (19, .aload_n 0, 0, 0, 0), (20, .getfield 90, 6, 14, 696), (23, .ifCond .ne 114, 0, 0, 0), (26, .iinc 5 (-1), 0, 0, 0), (29, .aload_n 0, 0, 0, 0), (30, .getfield 41, 6, 16, 698)],
  [(33, .iload 5, 0, 0, 0), (35, .iaload, 0, 0, 0), (36, .istore 7, 0, 0, 0), (38, .aload_n 0, 0, 0, 0), (39, .iload_n 1, 0, 0, 0), (40, .iload 6, 0, 0, 0), (42, .invokevirtual 69, 81, 4, 820), (45, .istore 8, 0, 0, 0), (47, .aload_n 0, 0, 0, 0), (48, .iload 8, 0, 0, 0), (50, .invokestatic 80, 78, 2, 824), (53, .ifCond .ne 24, 0, 0, 0), (56, .iload 8, 0, 0, 0), (58, .bipush 10, 0, 0, 0), (60, .idiv, 0, 0, 0), (61, .iload 7, 0, 0, 0), (63, .if_icmp .lt 14, 0, 0, 0)],
  [(66, .iload 8, 0, 0, 0), (68, .bipush 10, 0, 0, 0), (70, .iload 4, 0, 0, 0), (72, .imul, 0, 0, 0), (73, .iadd, 0, 0, 0), (74, .goto 5, 0, 0, 0), (77, .iload 8, 0, 0, 0), (79, .invokevirtual 94, 89, 2, 873), (82, .iload 8, 0, 0, 0), (84, .invokestatic 73, 79, 2, 835), (87, .ifCond .ne 6, 0, 0, 0), (90, .goto 41, 0, 0, 0), (93, .aload_n 0, 0, 0, 0), (94, .getfield 41, 6, 16, 698)],
  [(97, .iload 5, 0, 0, 0), (99, .iload 8, 0, 0, 0), (101, .invokestatic 84, 80, 2, 838), (104, .ifCond .eq 10, 0, 0, 0), (107, .iload 7, 0, 0, 0), (109, .iconst 1, 0, 0, 0), (110, .iadd, 0, 0, 0), (111, .goto 5, 0, 0, 0), (114, .iload 7, 0, 0, 0), (116, .iastore, 0, 0, 0), (117, .aload_n 0, 0, 0, 0), (118, .getfield 41, 6, 16, 698), (121, .iload 5, 0, 0, 0), (123, .iconst 1, 0, 0, 0), (124, .iadd, 0, 0, 0), (125, .iload 7, 0, 0, 0), (127, .iastore, 0, 0, 0)],
  [(128, .iinc 5 2, 0, 0, 0), (131, .iinc 6 1, 0, 0, 0), (134, .goto (-121), 0, 0, 0), (137, .return_, 0, 0, 0)]]
def am_c92 : List (List (Nat × am_I)) := [[(0, .iconst 1, 0, 0, 0), (1, .istore 7, 0, 0, 0), (3, .aload_n 0, 0, 0, 0), (4, .getfield 38, 6, 15, 697), (7, .iconst 0, 0, 0, 0), (8, .iconst 0, 0, 0, 0), (9, .iastore, 0, 0, 0), (10, .iload_n 2, 0, 0, 0), (11, .istore 8, 0, 0, 0), (13, .iload 8, 0, 0, 0), (15, .iload_n 3, 0, 0, 0), (16, .if_icmp .ge 148, 0, 0, 0), (19, .aload_n 0, 0, 0, 0), (20, .getfield 90, 6, 14, 696), (23, .ifCond .ne 141, 0, 0, 0), (26, .iinc 7 (-1), 0, 0, 0), (29, .aload_n 0, 0, 0, 0), (30, .getfield 38, 6, 15, 697)],
  [(33, .iload 7, 0, 0, 0), (35, .iaload, 0, 0, 0), (36, .istore 9, 0, 0, 0), (38, .aload_n 0, 0, 0, 0), (39, .iload_n 1, 0, 0, 0), (40, .iload 8, 0, 0, 0), (42, .invokevirtual 69, 81, 4, 820), (45, .istore 10, 0, 0, 0), (47, .iload 10, 0, 0, 0), (49, .bipush 10, 0, 0, 0), (51, .idiv, 0, 0, 0), (52, .istore 11, 0, 0, 0), (54, .iload 10, 0, 0, 0), (56, .invokestatic 80, 78, 2, 824), (59, .ifCond .ne 10, 0, 0, 0), (62, .iload 11, 0, 0, 0)],
  [(64, .iload 9, 0, 0, 0), (66, .if_icmp .ge 12, 0, 0, 0), (69, .aload_n 0, 0, 0, 0), (70, .iload 10, 0, 0, 0), (72, .invokevirtual 94, 89, 2, 873), (75, .goto 34, 0, 0, 0), (78, .iload 11, 0, 0, 0), (80, .iload 9, 0, 0, 0), (82, .if_icmp .ne 18, 0, 0, 0), (85, .aload_n 0, 0, 0, 0), (86, .iload 4, 0, 0, 0), (88, .iload 5, 0, 0, 0), (90, .iload 6, 0, 0, 0), (92, .iload 9, 0, 0, 0), (94, .invokevirtual 98, 91, 8, 881)],
  [(97, .goto 12, 0, 0, 0), (100, .aload_n 0, 0, 0, 0), (101, .iload 10, 0, 0, 0), (103, .bipush 10, 0, 0, 0), (105, .isub, 0, 0, 0), (106, .invokevirtual 94, 89, 2, 873), (109, .iload 10, 0, 0, 0), (111, .invokestatic 73, 79, 2, 835), (114, .ifCond .ne 6, 0, 0, 0), (117, .goto 41, 0, 0, 0), (120, .aload_n 0, 0, 0, 0), (121, .getfield 38, 6, 15, 697), (124, .iload 7, 0, 0, 0), (126, .iload 10, 0, 0, 0)],
  [(128, .invokestatic 84, 80, 2, 838), (131, .ifCond .eq 10, 0, 0, 0), (134, .iload 9, 0, 0, 0), (136, .iconst 1, 0, 0, 0), (137, .iadd, 0, 0, 0), (138, .goto 5, 0, 0, 0), (141, .iload 9, 0, 0, 0), (143, .iastore, 0, 0, 0), (144, .aload_n 0, 0, 0, 0), (145, .getfield 38, 6, 15, 697), (148, .iload 7, 0, 0, 0), (150, .iconst 1, 0, 0, 0), (151, .iadd, 0, 0, 0), (152, .iload 9, 0, 0, 0), (154, .iastore, 0, 0, 0), (155, .iinc 7 2, 0, 0, 0), (158, .iinc 8 1, 0, 0, 0)],
  [(161, .goto (-148), 0, 0, 0), (164, .return_, 0, 0, 0)]]
def am_c93 : List (List (Nat × am_I)) := [[(0, .aload_n 0, 0, 0, 0), (1, .getfield 90, 6, 14, 696), (4, .ifCond .ne 58, 0, 0, 0), (7, .iconst 0, 0, 0, 0), (8, .istore_n 2, 0, 0, 0), (9, .iload_n 2, 0, 0, 0), (10, .aload_n 0, 0, 0, 0), (11, .getfield 87, 6, 12, 694), (14, .if_icmp .ge 26, 0, 0, 0), (17, .aload_n 0, 0, 0, 0), (18, .getfield 29, 6, 10, 692), (21, .bipush 60, 0, 0, 0), (23, .iload_n 1, 0, 0, 0), (24, .imul, 0, 0, 0), (25, .iload_n 2, 0, 0, 0), (26, .iadd, 0, 0, 0), (27, .aload_n 0, 0, 0, 0), (28, .getfield 35, 6, 13, 695), (31, .iload_n 2, 0, 0, 0)],
  [(32, .iaload, 0, 0, 0), (33, .iastore, 0, 0, 0), (34, .iinc 2 1, 0, 0, 0), (37, .goto (-28), 0, 0, 0), (40, .aload_n 0, 0, 0, 0), (41, .getfield 32, 6, 11, 693), (44, .iload_n 1, 0, 0, 0), (45, .aload_n 0, 0, 0, 0), (46, .getfield 87, 6, 12, 694), (49, .iastore, 0, 0, 0), (50, .aload_n 0, 0, 0, 0), (51, .iload_n 1, 0, 0, 0), (52, .invokevirtual 102, 86, 2, 889), (55, .bipush 12, 0, 0, 0), (57, .if_icmp .gt 5, 0, 0, 0), (60, .iconst 1, 0, 0, 0), (61, .ireturn, 0, 0, 0), (62, .aload_n 0, 0, 0, 0), (63, .iconst 3, 0, 0, 0)],
  [(64, .putfield 105, 6, 19, 701), (67, .iconst 0, 0, 0, 0), (68, .ireturn, 0, 0, 0)]]
def am_c94 : List (List (Nat × am_I)) := [[(0, .aload_n 0, 0, 0, 0), (1, .getfield 105, 6, 19, 701), (4, .ifCond .ne 7, 0, 0, 0), (7, .iconst 1, 0, 0, 0), (8, .goto 4, 0, 0, 0), (11, .iconst 0, 0, 0, 0), (12, .istore_n 2, 0, 0, 0), (13, .iload_n 2, 0, 0, 0), (14, .ifCond .eq 254, 0, 0, 0), (17, .iconst 0, 0, 0, 0), (18, .istore_n 3, 0, 0, 0), (19, .aload_n 0, 0, 0, 0), (20, .iload_n 1, 0, 0, 0), (21, .iload_n 3, 0, 0, 0), (22, .invokevirtual 69, 81, 4, 820), (25, .invokestatic 80, 78, 2, 824), (28, .iconst 4, 0, 0, 0), (29, .if_icmp .ne 9, 0, 0, 0)],
  [(32, .iinc 3 1, 0, 0, 0), (35, .goto (-16), 0, 0, 0), (38, .aload_n 0, 0, 0, 0), (39, .iload_n 1, 0, 0, 0), (40, .iload_n 3, 0, 0, 0), (41, .invokevirtual 69, 81, 4, 820), (44, .istore 4, 0, 0, 0), (46, .iload 4, 0, 0, 0), (48, .invokestatic 80, 78, 2, 824), (51, .iconst 3, 0, 0, 0), (52, .if_icmp .ne 11, 0, 0, 0), (55, .iload_n 3, 0, 0, 0), (56, .ifCond .le 7, 0, 0, 0), (59, .iconst 1, 0, 0, 0), (60, .goto 4, 0, 0, 0), (63, .iconst 0, 0, 0, 0)],
  [(64, .istore 5, 0, 0, 0), (66, .iload 4, 0, 0, 0), (68, .invokestatic 80, 78, 2, 824), (71, .iconst 5, 0, 0, 0), (72, .if_icmp .ne 20, 0, 0, 0), (75, .aload_n 0, 0, 0, 0), (76, .getfield 25, 6, 8, 690), (79, .iload 4, 0, 0, 0), (81, .bipush 10, 0, 0, 0), (83, .idiv, 0, 0, 0), (84, .baload, 0, 0, 0), (85, .ifCond .eq 7, 0, 0, 0), (88, .iconst 1, 0, 0, 0), (89, .goto 4, 0, 0, 0), (92, .iconst 0, 0, 0, 0), (93, .istore 6, 0, 0, 0), (95, .iload 5, 0, 0, 0)],
  [(97, .ifCond .ne 9, 0, 0, 0), (100, .iload 6, 0, 0, 0), (102, .ifCond .ne 4, 0, 0, 0), (105, .return_, 0, 0, 0), (106, .aload_n 0, 0, 0, 0), (107, .getfield 108, 6, 18, 700), (110, .aload_n 0, 0, 0, 0), (111, .getfield 111, 6, 17, 699), (114, .if_icmp .ne 9, 0, 0, 0), (117, .aload_n 0, 0, 0, 0), (118, .iconst 3, 0, 0, 0), (119, .putfield 105, 6, 19, 701), (122, .return_, 0, 0, 0), (123, .aload_n 0, 0, 0, 0), (124, .invokevirtual 114, 88, 0, 865), (127, .iload 5, 0, 0, 0)],
  [(129, .ifCond .eq 70, 0, 0, 0), (132, .aload_n 0, 0, 0, 0), (133, .iload_n 1, 0, 0, 0), (134, .iload_n 3, 0, 0, 0), (135, .iconst 1, 0, 0, 0), (136, .iadd, 0, 0, 0), (137, .invokevirtual 77, 82, 4, 853), (140, .istore 7, 0, 0, 0), (142, .aload_n 0, 0, 0, 0), (143, .iload_n 1, 0, 0, 0), (144, .iload 7, 0, 0, 0), (146, .invokevirtual 77, 82, 4, 853), (149, .istore 8, 0, 0, 0), (151, .aload_n 0, 0, 0, 0), (152, .iload_n 1, 0, 0, 0), (153, .iload 8, 0, 0, 0), (155, .invokevirtual 77, 82, 4, 853), (158, .istore 9, 0, 0, 0)],
  [(160, .aload_n 0, 0, 0, 0), (161, .iload_n 1, 0, 0, 0), (162, .iconst 0, 0, 0, 0), (163, .iload_n 3, 0, 0, 0), (164, .iconst 1, 0, 0, 0), (165, .isub, 0, 0, 0), (166, .invokevirtual 117, 90, 6, 869), (169, .aload_n 0, 0, 0, 0), (170, .iload_n 1, 0, 0, 0), (171, .iload 7, 0, 0, 0), (173, .iload 8, 0, 0, 0), (175, .iload_n 1, 0, 0, 0), (176, .iload 8, 0, 0, 0), (178, .iload 9, 0, 0, 0), (180, .invokevirtual 121, 92, 12, 877), (183, .aload_n 0, 0, 0, 0), (184, .iload_n 1, 0, 0, 0), (185, .iload 9, 0, 0, 0), (187, .aload_n 0, 0, 0, 0), (188, .getfield 32, 6, 11, 693), (191, .iload_n 1, 0, 0, 0)],
  [(192, .iaload, 0, 0, 0), (193, .invokevirtual 117, 90, 6, 869), (196, .goto 50, 0, 0, 0), (199, .aload_n 0, 0, 0, 0), (200, .iload_n 1, 0, 0, 0), (201, .iconst 0, 0, 0, 0), (202, .iload_n 3, 0, 0, 0), (203, .invokevirtual 117, 90, 6, 869), (206, .aload_n 0, 0, 0, 0), (207, .bipush 80, 0, 0, 0), (209, .iload 4, 0, 0, 0), (211, .bipush 10, 0, 0, 0), (213, .idiv, 0, 0, 0), (214, .iadd, 0, 0, 0), (215, .iconst 0, 0, 0, 0), (216, .aload_n 0, 0, 0, 0), (217, .getfield 32, 6, 11, 693), (220, .bipush 80, 0, 0, 0), (222, .iload 4, 0, 0, 0)],
  [(224, .bipush 10, 0, 0, 0), (226, .idiv, 0, 0, 0), (227, .iadd, 0, 0, 0), (228, .iaload, 0, 0, 0), (229, .invokevirtual 117, 90, 6, 869), (232, .aload_n 0, 0, 0, 0), (233, .iload_n 1, 0, 0, 0), (234, .iload_n 3, 0, 0, 0), (235, .iconst 1, 0, 0, 0), (236, .iadd, 0, 0, 0), (237, .aload_n 0, 0, 0, 0), (238, .getfield 32, 6, 11, 693), (241, .iload_n 1, 0, 0, 0), (242, .iaload, 0, 0, 0), (243, .invokevirtual 117, 90, 6, 869), (246, .aload_n 0, 0, 0, 0), (247, .iload_n 1, 0, 0, 0), (248, .invokevirtual 125, 93, 2, 885), (251, .ifCond .ne 4, 0, 0, 0), (254, .return_, 0, 0, 0), (255, .aload_n 0, 0, 0, 0)],
  [(256, .dup, 0, 0, 0), (257, .getfield 108, 6, 18, 700), (260, .iconst 1, 0, 0, 0), (261, .iadd, 0, 0, 0), (262, .putfield 108, 6, 18, 700), (265, .goto (-252), 0, 0, 0), (268, .return_, 0, 0, 0)]]
def am_c95 : List (List (Nat × am_I)) := [[(0, .iload_n 2, 0, 0, 0), (1, .istore_n 3, 0, 0, 0), (2, .iload_n 3, 0, 0, 0), (3, .aload_n 0, 0, 0, 0), (4, .getfield 32, 6, 11, 693), (7, .iload_n 1, 0, 0, 0), (8, .iaload, 0, 0, 0), (9, .if_icmp .ge 34, 0, 0, 0), (12, .aload_n 0, 0, 0, 0), (13, .getfield 56, 6, 29, 711), (16, .aload_n 0, 0, 0, 0), (17, .getfield 128, 6, 28, 710), (20, .aload_n 0, 0, 0, 0), (21, .iload_n 1, 0, 0, 0), (22, .iload_n 3, 0, 0, 0), (23, .invokevirtual 69, 81, 4, 820), (26, .iastore, 0, 0, 0), (27, .aload_n 0, 0, 0, 0), (28, .dup, 0, 0, 0), (29, .getfield 128, 6, 28, 710)],
  [(32, .iconst 1, 0, 0, 0), (33, .iadd, 0, 0, 0), (34, .putfield 128, 6, 28, 710), (37, .iinc 3 1, 0, 0, 0), (40, .goto (-38), 0, 0, 0), (43, .return_, 0, 0, 0)]]
def am_c96 : List (List (Nat × am_I)) := [[(0, .aload_n 0, 0, 0, 0), (1, .dup, 0, 0, 0), (2, .getfield 128, 6, 28, 710), (5, .iload_n 2, 0, 0, 0), (6, .isub, 0, 0, 0), (7, .putfield 128, 6, 28, 710), (10, .iconst 0, 0, 0, 0), (11, .istore_n 3, 0, 0, 0), (12, .iload_n 3, 0, 0, 0), (13, .iload_n 2, 0, 0, 0), (14, .if_icmp .ge 31, 0, 0, 0), (17, .aload_n 0, 0, 0, 0), (18, .getfield 29, 6, 10, 692), (21, .bipush 60, 0, 0, 0), (23, .iload_n 1, 0, 0, 0), (24, .imul, 0, 0, 0), (25, .iload_n 3, 0, 0, 0), (26, .iadd, 0, 0, 0), (27, .aload_n 0, 0, 0, 0), (28, .getfield 56, 6, 29, 711), (31, .aload_n 0, 0, 0, 0)],
  [(32, .getfield 128, 6, 28, 710), (35, .iload_n 3, 0, 0, 0), (36, .iadd, 0, 0, 0), (37, .iaload, 0, 0, 0), (38, .iastore, 0, 0, 0), (39, .iinc 3 1, 0, 0, 0), (42, .goto (-30), 0, 0, 0), (45, .aload_n 0, 0, 0, 0), (46, .getfield 32, 6, 11, 693), (49, .iload_n 1, 0, 0, 0), (50, .iload_n 2, 0, 0, 0), (51, .iastore, 0, 0, 0), (52, .return_, 0, 0, 0)]]
def am_c97 : List (List (Nat × am_I)) := [[(0, .aload_n 0, 0, 0, 0), (1, .iconst 0, 0, 0, 0), (2, .putfield 131, 6, 27, 709), (5, .aload_n 0, 0, 0, 0), (6, .iconst 0, 0, 0, 0), (7, .putfield 128, 6, 28, 710), (10, .iconst 1, 0, 0, 0), (11, .istore_n 1, 0, 0, 0), (12, .iload_n 1, 0, 0, 0), (13, .ifCond .eq 243, 0, 0, 0), (16, .aload_n 0, 0, 0, 0), (17, .iconst 0, 0, 0, 0), (18, .invokevirtual 134, 94, 2, 861), (21, .aload_n 0, 0, 0, 0), (22, .getfield 105, 6, 19, 701), (25, .ifCond .ne 8, 0, 0, 0), (28, .aload_n 0, 0, 0, 0), (29, .iconst 1, 0, 0, 0), (30, .invokevirtual 134, 94, 2, 861)],
  [(33, .aload_n 0, 0, 0, 0), (34, .getfield 105, 6, 19, 701), (37, .ifCond .eq 5, 0, 0, 0), (40, .iconst 0, 0, 0, 0), (41, .ireturn, 0, 0, 0), (42, .aload_n 0, 0, 0, 0), (43, .iconst 0, 0, 0, 0), (44, .iconst 0, 0, 0, 0), (45, .invokevirtual 69, 81, 4, 820), (48, .istore_n 2, 0, 0, 0), (49, .iload_n 2, 0, 0, 0), (50, .invokestatic 80, 78, 2, 824), (53, .aload_n 0, 0, 0, 0), (54, .iconst 1, 0, 0, 0), (55, .iconst 0, 0, 0, 0), (56, .invokevirtual 69, 81, 4, 820), (59, .invokestatic 80, 78, 2, 824), (62, .if_icmp .eq 5, 0, 0, 0)],
  [(65, .iconst 0, 0, 0, 0), (66, .ireturn, 0, 0, 0), (67, .iload_n 2, 0, 0, 0), (68, .invokestatic 73, 79, 2, 835), (71, .ifCond .ne 15, 0, 0, 0), (74, .iload_n 2, 0, 0, 0), (75, .aload_n 0, 0, 0, 0), (76, .iconst 1, 0, 0, 0), (77, .iconst 0, 0, 0, 0), (78, .invokevirtual 69, 81, 4, 820), (81, .if_icmp .eq 5, 0, 0, 0), (84, .iconst 0, 0, 0, 0), (85, .ireturn, 0, 0, 0), (86, .iload_n 2, 0, 0, 0), (87, .invokestatic 73, 79, 2, 835), (90, .ifCond .eq 105, 0, 0, 0), (93, .aload_n 0, 0, 0, 0), (94, .iconst 0, 0, 0, 0), (95, .iconst 1, 0, 0, 0)],
  [(96, .invokevirtual 77, 82, 4, 853), (99, .istore_n 3, 0, 0, 0), (100, .aload_n 0, 0, 0, 0), (101, .iconst 1, 0, 0, 0), (102, .iconst 1, 0, 0, 0), (103, .invokevirtual 77, 82, 4, 853), (106, .istore 4, 0, 0, 0), (108, .aload_n 0, 0, 0, 0), (109, .getfield 59, 6, 30, 712), (112, .aload_n 0, 0, 0, 0), (113, .getfield 131, 6, 27, 709), (116, .aload_n 0, 0, 0, 0), (117, .getfield 32, 6, 11, 693), (120, .iconst 0, 0, 0, 0), (121, .iaload, 0, 0, 0), (122, .iload_n 3, 0, 0, 0), (123, .isub, 0, 0, 0), (124, .iastore, 0, 0, 0), (125, .aload_n 0, 0, 0, 0), (126, .getfield 62, 6, 31, 713)],
  [(129, .aload_n 0, 0, 0, 0), (130, .getfield 131, 6, 27, 709), (133, .aload_n 0, 0, 0, 0), (134, .getfield 32, 6, 11, 693), (137, .iconst 1, 0, 0, 0), (138, .iaload, 0, 0, 0), (139, .iload 4, 0, 0, 0), (141, .isub, 0, 0, 0), (142, .iastore, 0, 0, 0), (143, .aload_n 0, 0, 0, 0), (144, .iconst 0, 0, 0, 0), (145, .iload_n 3, 0, 0, 0), (146, .invokevirtual 137, 95, 4, 905), (149, .aload_n 0, 0, 0, 0), (150, .iconst 1, 0, 0, 0), (151, .iload 4, 0, 0, 0), (153, .invokevirtual 137, 95, 4, 905), (156, .aload_n 0, 0, 0, 0), (157, .dup, 0, 0, 0), (158, .getfield 131, 6, 27, 709)],
  [(161, .iconst 1, 0, 0, 0), (162, .iadd, 0, 0, 0), (163, .putfield 131, 6, 27, 709), (166, .aload_n 0, 0, 0, 0), (167, .iconst 3, 0, 0, 0), (168, .iconst 0, 0, 0, 0), (169, .iconst 1, 0, 0, 0), (170, .invokevirtual 141, 83, 6, 849), (173, .aload_n 0, 0, 0, 0), (174, .iconst 0, 0, 0, 0), (175, .iconst 3, 0, 0, 0), (176, .invokevirtual 144, 84, 4, 827), (179, .aload_n 0, 0, 0, 0), (180, .iconst 3, 0, 0, 0), (181, .iconst 1, 0, 0, 0), (182, .iconst 1, 0, 0, 0), (183, .invokevirtual 141, 83, 6, 849), (186, .aload_n 0, 0, 0, 0), (187, .iconst 1, 0, 0, 0), (188, .iconst 3, 0, 0, 0), (189, .invokevirtual 144, 84, 4, 827)],
  [(192, .goto (-180), 0, 0, 0), (195, .aload_n 0, 0, 0, 0), (196, .getfield 131, 6, 27, 709), (199, .ifCond .le 7, 0, 0, 0), (202, .iconst 1, 0, 0, 0), (203, .goto 4, 0, 0, 0), (206, .iconst 0, 0, 0, 0), (207, .istore_n 1, 0, 0, 0), (208, .iload_n 1, 0, 0, 0), (209, .ifCond .ne 6, 0, 0, 0), (212, .goto (-200), 0, 0, 0), (215, .aload_n 0, 0, 0, 0), (216, .dup, 0, 0, 0), (217, .getfield 131, 6, 27, 709), (220, .iconst 1, 0, 0, 0), (221, .isub, 0, 0, 0), (222, .putfield 131, 6, 27, 709)],
  [(225, .aload_n 0, 0, 0, 0), (226, .iconst 1, 0, 0, 0), (227, .aload_n 0, 0, 0, 0), (228, .getfield 62, 6, 31, 713), (231, .aload_n 0, 0, 0, 0), (232, .getfield 131, 6, 27, 709), (235, .iaload, 0, 0, 0), (236, .invokevirtual 147, 96, 4, 909), (239, .aload_n 0, 0, 0, 0), (240, .iconst 0, 0, 0, 0), (241, .aload_n 0, 0, 0, 0), (242, .getfield 59, 6, 30, 712), (245, .aload_n 0, 0, 0, 0), (246, .getfield 131, 6, 27, 709), (249, .iaload, 0, 0, 0), (250, .invokevirtual 147, 96, 4, 909), (253, .goto (-241), 0, 0, 0)],
  [(256, .iconst 1, 0, 0, 0), (257, .ireturn, 0, 0, 0)]]
def am_c98 : List (List (Nat × am_I)) := [[(0, .aload_n 0, 0, 0, 0), (1, .getfield 44, 6, 21, 703), (4, .aload_n 0, 0, 0, 0), (5, .getfield 150, 6, 20, 702), (8, .iload_n 1, 0, 0, 0), (9, .iastore, 0, 0, 0), (10, .aload_n 0, 0, 0, 0), (11, .getfield 47, 6, 22, 704), (14, .aload_n 0, 0, 0, 0), (15, .getfield 150, 6, 20, 702), (18, .iconst 0, 0, 0, 0), (19, .iastore, 0, 0, 0), (20, .aload_n 0, 0, 0, 0), (21, .dup, 0, 0, 0), (22, .getfield 150, 6, 20, 702), (25, .iconst 1, 0, 0, 0), (26, .iadd, 0, 0, 0), (27, .putfield 150, 6, 20, 702), (30, .return_, 0, 0, 0)]]
def am_c99 : List (List (Nat × am_I)) := [[(0, .aload_n 0, 0, 0, 0), (1, .iload_n 1, 0, 0, 0), (2, .invokevirtual 134, 94, 2, 861), (5, .aload_n 0, 0, 0, 0), (6, .getfield 105, 6, 19, 701), (9, .ifCond .eq 5, 0, 0, 0), (12, .iconst 0, 0, 0, 0), (13, .ireturn, 0, 0, 0), (14, .aload_n 0, 0, 0, 0), (15, .iload_n 1, 0, 0, 0), (16, .iconst 0, 0, 0, 0), (17, .invokevirtual 69, 81, 4, 820), (20, .istore_n 2, 0, 0, 0), (21, .iload_n 2, 0, 0, 0), (22, .invokestatic 80, 78, 2, 824), (25, .iconst 1, 0, 0, 0), (26, .if_icmp .eq 8, 0, 0, 0), (29, .aload_n 0, 0, 0, 0), (30, .iconst 2, 0, 0, 0), (31, .putfield 105, 6, 19, 701)],
  [(34, .iload_n 2, 0, 0, 0), (35, .bipush 10, 0, 0, 0), (37, .idiv, 0, 0, 0), (38, .ireturn, 0, 0, 0)]]
def am_c100 : List (List (Nat × am_I)) := [[(0, .aload_n 0, 0, 0, 0), (1, .aload_n 0, 0, 0, 0), (2, .getfield 153, 6, 24, 706), (5, .iload_n 1, 0, 0, 0), (6, .iload_n 2, 0, 0, 0), (7, .invokevirtual 141, 83, 6, 849), (10, .aload_n 0, 0, 0, 0), (11, .aload_n 0, 0, 0, 0), (12, .getfield 153, 6, 24, 706), (15, .invokevirtual 156, 98, 2, 812), (18, .aload_n 0, 0, 0, 0), (19, .dup, 0, 0, 0), (20, .getfield 153, 6, 24, 706), (23, .iconst 1, 0, 0, 0), (24, .iadd, 0, 0, 0), (25, .putfield 153, 6, 24, 706), (28, .return_, 0, 0, 0)]]
def am_c101 : List (List (Nat × am_I)) := [[(0, .aload_n 0, 0, 0, 0), (1, .getfield 44, 6, 21, 703), (4, .iload_n 1, 0, 0, 0), (5, .iaload, 0, 0, 0), (6, .istore_n 2, 0, 0, 0), (7, .aload_n 0, 0, 0, 0), (8, .iload_n 2, 0, 0, 0), (9, .iconst 0, 0, 0, 0), (10, .invokevirtual 69, 81, 4, 820), (13, .istore_n 3, 0, 0, 0), (14, .iload_n 3, 0, 0, 0), (15, .bipush 10, 0, 0, 0), (17, .idiv, 0, 0, 0), (18, .istore 4, 0, 0, 0), (20, .iload_n 3, 0, 0, 0), (21, .invokestatic 80, 78, 2, 824), (24, .lookupswitch 133 #[(0, 36), (1, 92), (5, 112)], 0, 36, 0)],
  [(60, .aload_n 0, 0, 0, 0), (61, .dup, 0, 0, 0), (62, .getfield 150, 6, 20, 702)],
  [(65, .iconst 1, 0, 0, 0), (66, .isub, 0, 0, 0), (67, .putfield 150, 6, 20, 702), (70, .iload 4, 0, 0, 0), (72, .aload_n 0, 0, 0, 0), (73, .getfield 159, 6, 25, 707), (76, .if_icmp .lt 11, 0, 0, 0), (79, .aload_n 0, 0, 0, 0), (80, .iconst 2, 0, 0, 0), (81, .putfield 105, 6, 19, 701), (84, .goto 31, 0, 0, 0), (87, .aload_n 0, 0, 0, 0), (88, .iload_n 2, 0, 0, 0), (89, .aload_n 0, 0, 0, 0), (90, .getfield 53, 6, 26, 708), (93, .aload_n 0, 0, 0, 0), (94, .getfield 159, 6, 25, 707)],
  [(97, .iconst 1, 0, 0, 0), (98, .isub, 0, 0, 0), (99, .iload 4, 0, 0, 0), (101, .isub, 0, 0, 0), (102, .iaload, 0, 0, 0), (103, .invokevirtual 144, 84, 4, 827), (106, .aload_n 0, 0, 0, 0), (107, .iload_n 2, 0, 0, 0), (108, .iload 4, 0, 0, 0), (110, .iconst 1, 0, 0, 0), (111, .iadd, 0, 0, 0), (112, .invokevirtual 162, 87, 4, 831), (115, .return_, 0, 0, 0), (116, .aload_n 0, 0, 0, 0), (117, .dup, 0, 0, 0), (118, .getfield 150, 6, 20, 702), (121, .iconst 1, 0, 0, 0), (122, .isub, 0, 0, 0), (123, .putfield 150, 6, 20, 702), (126, .aload_n 0, 0, 0, 0), (127, .iload_n 2, 0, 0, 0)],
  [(128, .iload_n 3, 0, 0, 0), (129, .bipush 10, 0, 0, 0), (131, .iadd, 0, 0, 0), (132, .invokevirtual 165, 85, 4, 841), (135, .return_, 0, 0, 0), (136, .aload_n 0, 0, 0, 0), (137, .dup, 0, 0, 0), (138, .getfield 150, 6, 20, 702), (141, .iconst 1, 0, 0, 0), (142, .isub, 0, 0, 0), (143, .putfield 150, 6, 20, 702), (146, .aload_n 0, 0, 0, 0), (147, .iload_n 2, 0, 0, 0), (148, .bipush 64, 0, 0, 0), (150, .iload 4, 0, 0, 0), (152, .iadd, 0, 0, 0), (153, .invokevirtual 144, 84, 4, 827), (156, .return_, 0, 0, 0), (157, .aload_n 0, 0, 0, 0), (158, .getfield 47, 6, 22, 704)],
  [(161, .iload_n 1, 0, 0, 0), (162, .iconst 1, 0, 0, 0), (163, .iastore, 0, 0, 0), (164, .aload_n 0, 0, 0, 0), (165, .iload_n 2, 0, 0, 0), (166, .iconst 1, 0, 0, 0), (167, .invokevirtual 168, 100, 4, 845), (170, .return_, 0, 0, 0)]]
def am_c102 : List (List (Nat × am_I)) := [[(0, .aload_n 0, 0, 0, 0), (1, .getfield 44, 6, 21, 703), (4, .iload_n 1, 0, 0, 0), (5, .iaload, 0, 0, 0), (6, .istore_n 2, 0, 0, 0), (7, .aload_n 0, 0, 0, 0), (8, .iload_n 2, 0, 0, 0), (9, .iconst 1, 0, 0, 0), (10, .invokevirtual 77, 82, 4, 853), (13, .istore_n 3, 0, 0, 0), (14, .aload_n 0, 0, 0, 0), (15, .iload_n 2, 0, 0, 0), (16, .iconst 0, 0, 0, 0), (17, .invokevirtual 69, 81, 4, 820), (20, .invokestatic 80, 78, 2, 824), (23, .iconst 4, 0, 0, 0), (24, .if_icmp .ne 45, 0, 0, 0), (27, .aload_n 0, 0, 0, 0), (28, .aload_n 0, 0, 0, 0), (29, .getfield 153, 6, 24, 706)],
  [(32, .iconst 1, 0, 0, 0), (33, .isub, 0, 0, 0), (34, .invokevirtual 134, 94, 2, 861), (37, .aload_n 0, 0, 0, 0), (38, .getfield 105, 6, 19, 701), (41, .ifCond .eq 4, 0, 0, 0), (44, .return_, 0, 0, 0), (45, .aload_n 0, 0, 0, 0), (46, .aload_n 0, 0, 0, 0), (47, .getfield 153, 6, 24, 706), (50, .iconst 1, 0, 0, 0), (51, .isub, 0, 0, 0), (52, .iconst 0, 0, 0, 0), (53, .invokevirtual 69, 81, 4, 820), (56, .invokestatic 80, 78, 2, 824), (59, .iconst 2, 0, 0, 0), (60, .if_icmp .eq 70, 0, 0, 0), (63, .aload_n 0, 0, 0, 0)],
  [(64, .iconst 2, 0, 0, 0), (65, .putfield 105, 6, 19, 701), (68, .return_, 0, 0, 0), (69, .aload_n 0, 0, 0, 0), (70, .getfield 50, 6, 23, 705), (73, .iload_n 1, 0, 0, 0), (74, .aload_n 0, 0, 0, 0), (75, .aload_n 0, 0, 0, 0), (76, .getfield 153, 6, 24, 706), (79, .iconst 1, 0, 0, 0), (80, .isub, 0, 0, 0), (81, .invokevirtual 171, 99, 2, 893), (84, .iastore, 0, 0, 0), (85, .aload_n 0, 0, 0, 0), (86, .getfield 105, 6, 19, 701), (89, .ifCond .eq 4, 0, 0, 0), (92, .return_, 0, 0, 0), (93, .aload_n 0, 0, 0, 0), (94, .aload_n 0, 0, 0, 0), (95, .getfield 153, 6, 24, 706)],
  [(98, .iconst 1, 0, 0, 0), (99, .isub, 0, 0, 0), (100, .iload_n 2, 0, 0, 0), (101, .iconst 1, 0, 0, 0), (102, .invokevirtual 141, 83, 6, 849), (105, .aload_n 0, 0, 0, 0), (106, .getfield 53, 6, 26, 708), (109, .aload_n 0, 0, 0, 0), (110, .getfield 159, 6, 25, 707), (113, .aload_n 0, 0, 0, 0), (114, .getfield 153, 6, 24, 706), (117, .iconst 1, 0, 0, 0), (118, .isub, 0, 0, 0), (119, .iastore, 0, 0, 0), (120, .aload_n 0, 0, 0, 0), (121, .dup, 0, 0, 0), (122, .getfield 159, 6, 25, 707), (125, .iconst 1, 0, 0, 0), (126, .iadd, 0, 0, 0), (127, .putfield 159, 6, 25, 707)],
  [(130, .aload_n 0, 0, 0, 0), (131, .getfield 47, 6, 22, 704), (134, .iload_n 1, 0, 0, 0), (135, .iconst 2, 0, 0, 0), (136, .iastore, 0, 0, 0), (137, .aload_n 0, 0, 0, 0), (138, .iload_n 2, 0, 0, 0), (139, .iload_n 3, 0, 0, 0), (140, .invokevirtual 168, 100, 4, 845), (143, .return_, 0, 0, 0)]]
def am_c103 : List (List (Nat × am_I)) := [[(0, .aload_n 0, 0, 0, 0), (1, .getfield 44, 6, 21, 703), (4, .iload_n 1, 0, 0, 0), (5, .iaload, 0, 0, 0), (6, .istore_n 2, 0, 0, 0), (7, .aload_n 0, 0, 0, 0), (8, .iload_n 2, 0, 0, 0), (9, .iconst 0, 0, 0, 0), (10, .invokevirtual 69, 81, 4, 820), (13, .invokestatic 80, 78, 2, 824), (16, .istore_n 3, 0, 0, 0), (17, .iload_n 3, 0, 0, 0), (18, .iconst 4, 0, 0, 0), (19, .if_icmp .ne 116, 0, 0, 0), (22, .aload_n 0, 0, 0, 0), (23, .iconst 0, 0, 0, 0), (24, .aload_n 0, 0, 0, 0), (25, .getfield 153, 6, 24, 706), (28, .iconst 1, 0, 0, 0), (29, .isub, 0, 0, 0), (30, .invokevirtual 144, 84, 4, 827)],
  [(33, .aload_n 0, 0, 0, 0), (34, .iconst 1, 0, 0, 0), (35, .aload_n 0, 0, 0, 0), (36, .getfield 153, 6, 24, 706), (39, .iconst 2, 0, 0, 0), (40, .isub, 0, 0, 0), (41, .iconst 1, 0, 0, 0), (42, .invokevirtual 141, 83, 6, 849), (45, .aload_n 0, 0, 0, 0), (46, .invokevirtual 174, 97, 0, 901), (49, .istore 4, 0, 0, 0), (51, .aload_n 0, 0, 0, 0), (52, .getfield 105, 6, 19, 701), (55, .ifCond .eq 4, 0, 0, 0), (58, .return_, 0, 0, 0), (59, .iload 4, 0, 0, 0), (61, .ifCond .ne 9, 0, 0, 0)],
  [(64, .aload_n 0, 0, 0, 0), (65, .iconst 2, 0, 0, 0), (66, .putfield 105, 6, 19, 701), (69, .return_, 0, 0, 0), (70, .aload_n 0, 0, 0, 0), (71, .aload_n 0, 0, 0, 0), (72, .getfield 153, 6, 24, 706), (75, .iconst 2, 0, 0, 0), (76, .isub, 0, 0, 0), (77, .iconst 1, 0, 0, 0), (78, .invokevirtual 77, 82, 4, 853), (81, .istore 5, 0, 0, 0), (83, .aload_n 0, 0, 0, 0), (84, .invokevirtual 114, 88, 0, 865), (87, .aload_n 0, 0, 0, 0), (88, .aload_n 0, 0, 0, 0), (89, .getfield 153, 6, 24, 706), (92, .iconst 2, 0, 0, 0), (93, .isub, 0, 0, 0), (94, .iload 5, 0, 0, 0)],
  [(96, .aload_n 0, 0, 0, 0), (97, .getfield 32, 6, 11, 693), (100, .aload_n 0, 0, 0, 0), (101, .getfield 153, 6, 24, 706), (104, .iconst 2, 0, 0, 0), (105, .isub, 0, 0, 0), (106, .iaload, 0, 0, 0), (107, .iload_n 2, 0, 0, 0), (108, .aload_n 0, 0, 0, 0), (109, .iload_n 2, 0, 0, 0), (110, .iconst 1, 0, 0, 0), (111, .invokevirtual 77, 82, 4, 853), (114, .aload_n 0, 0, 0, 0), (115, .getfield 32, 6, 11, 693), (118, .iload_n 2, 0, 0, 0), (119, .iaload, 0, 0, 0), (120, .invokevirtual 121, 92, 12, 877), (123, .aload_n 0, 0, 0, 0), (124, .iload_n 2, 0, 0, 0), (125, .invokevirtual 125, 93, 2, 885)],
  [(128, .ifCond .ne 4, 0, 0, 0), (131, .return_, 0, 0, 0), (132, .goto 135, 0, 0, 0), (135, .iload_n 3, 0, 0, 0), (136, .iconst 2, 0, 0, 0), (137, .if_icmp .ne 68, 0, 0, 0), (140, .aload_n 0, 0, 0, 0), (141, .aload_n 0, 0, 0, 0), (142, .getfield 153, 6, 24, 706), (145, .iconst 1, 0, 0, 0), (146, .isub, 0, 0, 0), (147, .invokevirtual 171, 99, 2, 893), (150, .istore 4, 0, 0, 0), (152, .aload_n 0, 0, 0, 0), (153, .getfield 105, 6, 19, 701), (156, .ifCond .eq 4, 0, 0, 0), (159, .return_, 0, 0, 0)],
  [(160, .aload_n 0, 0, 0, 0), (161, .dup, 0, 0, 0), (162, .getfield 159, 6, 25, 707), (165, .iconst 1, 0, 0, 0), (166, .isub, 0, 0, 0), (167, .putfield 159, 6, 25, 707), (170, .aload_n 0, 0, 0, 0), (171, .iload_n 2, 0, 0, 0), (172, .iconst 1, 0, 0, 0), (173, .bipush 10, 0, 0, 0), (175, .iload 4, 0, 0, 0), (177, .aload_n 0, 0, 0, 0), (178, .getfield 50, 6, 23, 705), (181, .iload_n 1, 0, 0, 0), (182, .iaload, 0, 0, 0), (183, .if_icmp .le 8, 0, 0, 0), (186, .iload 4, 0, 0, 0), (188, .goto 9, 0, 0, 0), (191, .aload_n 0, 0, 0, 0)],
  [(192, .getfield 50, 6, 23, 705), (195, .iload_n 1, 0, 0, 0), (196, .iaload, 0, 0, 0), (197, .imul, 0, 0, 0), (198, .iadd, 0, 0, 0), (199, .invokevirtual 165, 85, 4, 841), (202, .goto 65, 0, 0, 0), (205, .aload_n 0, 0, 0, 0), (206, .dup, 0, 0, 0), (207, .getfield 159, 6, 25, 707), (210, .iconst 1, 0, 0, 0), (211, .isub, 0, 0, 0), (212, .putfield 159, 6, 25, 707), (215, .aload_n 0, 0, 0, 0), (216, .invokevirtual 114, 88, 0, 865), (219, .aload_n 0, 0, 0, 0), (220, .iconst 2, 0, 0, 0), (221, .invokevirtual 94, 89, 2, 873)],
  [(224, .aload_n 0, 0, 0, 0), (225, .iload_n 2, 0, 0, 0), (226, .iconst 1, 0, 0, 0), (227, .aload_n 0, 0, 0, 0), (228, .iload_n 2, 0, 0, 0), (229, .iconst 1, 0, 0, 0), (230, .invokevirtual 77, 82, 4, 853), (233, .invokevirtual 117, 90, 6, 869), (236, .aload_n 0, 0, 0, 0), (237, .aload_n 0, 0, 0, 0), (238, .getfield 153, 6, 24, 706), (241, .iconst 1, 0, 0, 0), (242, .isub, 0, 0, 0), (243, .iconst 0, 0, 0, 0), (244, .aload_n 0, 0, 0, 0), (245, .getfield 32, 6, 11, 693), (248, .aload_n 0, 0, 0, 0), (249, .getfield 153, 6, 24, 706), (252, .iconst 1, 0, 0, 0), (253, .isub, 0, 0, 0), (254, .iaload, 0, 0, 0), (255, .invokevirtual 117, 90, 6, 869)],
  [(258, .aload_n 0, 0, 0, 0), (259, .iload_n 2, 0, 0, 0), (260, .invokevirtual 125, 93, 2, 885), (263, .ifCond .ne 4, 0, 0, 0), (266, .return_, 0, 0, 0), (267, .aload_n 0, 0, 0, 0), (268, .dup, 0, 0, 0), (269, .getfield 153, 6, 24, 706), (272, .iconst 2, 0, 0, 0), (273, .isub, 0, 0, 0), (274, .putfield 153, 6, 24, 706), (277, .aload_n 0, 0, 0, 0), (278, .dup, 0, 0, 0), (279, .getfield 150, 6, 20, 702), (282, .iconst 1, 0, 0, 0), (283, .isub, 0, 0, 0), (284, .putfield 150, 6, 20, 702), (287, .return_, 0, 0, 0)]]
def am_c104 : List (List (Nat × am_I)) := [[(0, .aload_n 0, 0, 0, 0), (1, .getfield 105, 6, 19, 701), (4, .ifCond .eq 4, 0, 0, 0), (7, .return_, 0, 0, 0), (8, .aload_n 0, 0, 0, 0), (9, .iconst 0, 0, 0, 0), (10, .putfield 150, 6, 20, 702), (13, .aload_n 0, 0, 0, 0), (14, .iconst 0, 0, 0, 0), (15, .putfield 159, 6, 25, 707), (18, .aload_n 0, 0, 0, 0), (19, .iconst 4, 0, 0, 0), (20, .putfield 153, 6, 24, 706), (23, .aload_n 0, 0, 0, 0), (24, .iload_n 1, 0, 0, 0), (25, .invokevirtual 156, 98, 2, 812), (28, .aload_n 0, 0, 0, 0), (29, .getfield 150, 6, 20, 702)],
  [(32, .ifCond .le 60, 0, 0, 0), (35, .aload_n 0, 0, 0, 0), (36, .getfield 105, 6, 19, 701), (39, .ifCond .ne 53, 0, 0, 0), (42, .aload_n 0, 0, 0, 0), (43, .getfield 150, 6, 20, 702), (46, .iconst 1, 0, 0, 0), (47, .isub, 0, 0, 0), (48, .istore_n 2, 0, 0, 0), (49, .aload_n 0, 0, 0, 0), (50, .getfield 47, 6, 22, 704), (53, .iload_n 2, 0, 0, 0), (54, .iaload, 0, 0, 0), (55, .ifCond .ne 11, 0, 0, 0), (58, .aload_n 0, 0, 0, 0), (59, .iload_n 2, 0, 0, 0), (60, .invokevirtual 178, 101, 2, 816), (63, .goto 26, 0, 0, 0)],
  [(66, .aload_n 0, 0, 0, 0), (67, .getfield 47, 6, 22, 704), (70, .iload_n 2, 0, 0, 0), (71, .iaload, 0, 0, 0), (72, .iconst 1, 0, 0, 0), (73, .if_icmp .ne 11, 0, 0, 0), (76, .aload_n 0, 0, 0, 0), (77, .iload_n 2, 0, 0, 0), (78, .invokevirtual 181, 102, 2, 857), (81, .goto 8, 0, 0, 0), (84, .aload_n 0, 0, 0, 0), (85, .iload_n 2, 0, 0, 0), (86, .invokevirtual 184, 103, 2, 897), (89, .goto (-61), 0, 0, 0), (92, .return_, 0, 0, 0)]]
def am_c105 : List (List (Nat × am_I)) := [[(0, .aload_n 0, 0, 0, 0), (1, .iconst 0, 0, 0, 0), (2, .putfield 65, 6, 0, 682), (5, .iload_n 1, 0, 0, 0), (6, .ifCond .lt 17, 0, 0, 0), (9, .iload_n 1, 0, 0, 0), (10, .iconst 5, 0, 0, 0), (11, .if_icmp .gt 12, 0, 0, 0), (14, .aload_n 0, 0, 0, 0), (15, .getfield 187, 6, 1, 683), (18, .bipush 120, 0, 0, 0), (20, .if_icmp .ne 5, 0, 0, 0), (23, .iconst (-1), 0, 0, 0), (24, .ireturn, 0, 0, 0), (25, .iconst 1, 0, 0, 0), (26, .istore 4, 0, 0, 0), (28, .iconst 1, 0, 0, 0), (29, .istore 5, 0, 0, 0), (31, .iload_n 1, 0, 0, 0)],
  [(32, .iconst 2, 0, 0, 0), (33, .if_icmp .ge 15, 0, 0, 0), (36, .iload_n 2, 0, 0, 0), (37, .ifCond .lt 9, 0, 0, 0), (40, .iload_n 2, 0, 0, 0), (41, .bipush 9, 0, 0, 0), (43, .if_icmp .le 101, 0, 0, 0), (46, .iconst (-1), 0, 0, 0), (47, .ireturn, 0, 0, 0), (48, .iload_n 1, 0, 0, 0), (49, .iconst 5, 0, 0, 0), (50, .if_icmp .ne 17, 0, 0, 0), (53, .iload_n 2, 0, 0, 0), (54, .ifCond .lt 11, 0, 0, 0), (57, .iload_n 2, 0, 0, 0), (58, .aload_n 0, 0, 0, 0), (59, .getfield 190, 6, 7, 689), (62, .if_icmp .lt 82, 0, 0, 0)],
  [(65, .iconst (-1), 0, 0, 0), (66, .ireturn, 0, 0, 0), (67, .iload_n 2, 0, 0, 0), (68, .ifCond .lt 23, 0, 0, 0), (71, .iload_n 2, 0, 0, 0), (72, .aload_n 0, 0, 0, 0), (73, .getfield 187, 6, 1, 683), (76, .if_icmp .ge 15, 0, 0, 0), (79, .iload_n 3, 0, 0, 0), (80, .ifCond .lt 11, 0, 0, 0), (83, .iload_n 3, 0, 0, 0), (84, .aload_n 0, 0, 0, 0), (85, .getfield 187, 6, 1, 683), (88, .if_icmp .lt 5, 0, 0, 0), (91, .iconst (-1), 0, 0, 0), (92, .ireturn, 0, 0, 0), (93, .iconst 1, 0, 0, 0), (94, .aload_n 0, 0, 0, 0), (95, .getfield 19, 6, 5, 687)],
  [(98, .iload_n 2, 0, 0, 0), (99, .iaload, 0, 0, 0), (100, .iadd, 0, 0, 0), (101, .aload_n 0, 0, 0, 0), (102, .getfield 19, 6, 5, 687), (105, .iload_n 3, 0, 0, 0), (106, .iaload, 0, 0, 0), (107, .iadd, 0, 0, 0), (108, .istore 4, 0, 0, 0), (110, .iconst 1, 0, 0, 0), (111, .aload_n 0, 0, 0, 0), (112, .getfield 22, 6, 6, 688), (115, .iload_n 2, 0, 0, 0), (116, .iaload, 0, 0, 0), (117, .aload_n 0, 0, 0, 0), (118, .getfield 22, 6, 6, 688), (121, .iload_n 3, 0, 0, 0), (122, .iaload, 0, 0, 0), (123, .if_icmp .le 12, 0, 0, 0), (126, .aload_n 0, 0, 0, 0), (127, .getfield 22, 6, 6, 688)],
  [(130, .iload_n 2, 0, 0, 0), (131, .iaload, 0, 0, 0), (132, .goto 9, 0, 0, 0), (135, .aload_n 0, 0, 0, 0), (136, .getfield 22, 6, 6, 688), (139, .iload_n 3, 0, 0, 0), (140, .iaload, 0, 0, 0), (141, .iadd, 0, 0, 0), (142, .istore 5, 0, 0, 0), (144, .iload 4, 0, 0, 0), (146, .bipush 60, 0, 0, 0), (148, .if_icmp .gt 10, 0, 0, 0), (151, .iload 5, 0, 0, 0), (153, .bipush 12, 0, 0, 0), (155, .if_icmp .le 5, 0, 0, 0), (158, .iconst (-1), 0, 0, 0), (159, .ireturn, 0, 0, 0)],
  [(160, .aload_n 0, 0, 0, 0), (161, .getfield 7, 6, 2, 684), (164, .aload_n 0, 0, 0, 0), (165, .getfield 187, 6, 1, 683), (168, .iload_n 1, 0, 0, 0), (169, .iastore, 0, 0, 0), (170, .aload_n 0, 0, 0, 0), (171, .getfield 13, 6, 3, 685), (174, .aload_n 0, 0, 0, 0), (175, .getfield 187, 6, 1, 683), (178, .iload_n 2, 0, 0, 0), (179, .iastore, 0, 0, 0), (180, .aload_n 0, 0, 0, 0), (181, .getfield 16, 6, 4, 686), (184, .aload_n 0, 0, 0, 0), (185, .getfield 187, 6, 1, 683), (188, .iload_n 1, 0, 0, 0), (189, .iconst 2, 0, 0, 0), (190, .if_icmp .lt 12, 0, 0, 0)],
  [(193, .iload_n 1, 0, 0, 0), (194, .iconst 4, 0, 0, 0), (195, .if_icmp .gt 7, 0, 0, 0), (198, .iload_n 3, 0, 0, 0), (199, .goto 4, 0, 0, 0), (202, .iconst (-1), 0, 0, 0), (203, .iastore, 0, 0, 0), (204, .aload_n 0, 0, 0, 0), (205, .getfield 19, 6, 5, 687), (208, .aload_n 0, 0, 0, 0), (209, .getfield 187, 6, 1, 683), (212, .iload 4, 0, 0, 0), (214, .iastore, 0, 0, 0), (215, .aload_n 0, 0, 0, 0), (216, .getfield 22, 6, 6, 688), (219, .aload_n 0, 0, 0, 0), (220, .getfield 187, 6, 1, 683), (223, .iload 5, 0, 0, 0)],
  [(225, .iastore, 0, 0, 0), (226, .aload_n 0, 0, 0, 0), (227, .dup, 0, 0, 0), (228, .getfield 187, 6, 1, 683), (231, .iconst 1, 0, 0, 0), (232, .iadd, 0, 0, 0), (233, .putfield 187, 6, 1, 683), (236, .aload_n 0, 0, 0, 0), (237, .getfield 187, 6, 1, 683), (240, .iconst 1, 0, 0, 0), (241, .isub, 0, 0, 0), (242, .ireturn, 0, 0, 0)]]
def am_c106 : List (List (Nat × am_I)) := [[(0, .aload_n 0, 0, 0, 0), (1, .iconst 0, 0, 0, 0), (2, .putfield 65, 6, 0, 682), (5, .aload_n 0, 0, 0, 0), (6, .getfield 187, 6, 1, 683), (9, .ireturn, 0, 0, 0)]]
def am_c107 : List (List (Nat × am_I)) := [[(0, .iload_n 1, 0, 0, 0), (1, .ifCond .lt 15, 0, 0, 0), (4, .iload_n 1, 0, 0, 0), (5, .aload_n 0, 0, 0, 0), (6, .getfield 187, 6, 1, 683), (9, .if_icmp .ge 7, 0, 0, 0), (12, .iconst 1, 0, 0, 0), (13, .goto 4, 0, 0, 0), (16, .iconst 0, 0, 0, 0), (17, .ireturn, 0, 0, 0)]]
def am_c108 : List (List (Nat × am_I)) := [[(0, .aload_n 0, 0, 0, 0), (1, .iconst 0, 0, 0, 0), (2, .putfield 65, 6, 0, 682), (5, .aload_n 0, 0, 0, 0), (6, .iload_n 1, 0, 0, 0), (7, .invokevirtual 193, 107, 2, 792), (10, .ifCond .ne 5, 0, 0, 0), (13, .iconst (-1), 0, 0, 0), (14, .ireturn, 0, 0, 0), (15, .iload_n 2, 0, 0, 0), (16, .tableswitch 71 0 4 #[36, 43, 50, 57, 64], 0, 36, 0)],
  [(52, .aload_n 0, 0, 0, 0), (53, .getfield 7, 6, 2, 684), (56, .iload_n 1, 0, 0, 0), (57, .iaload, 0, 0, 0), (58, .ireturn, 0, 0, 0), (59, .aload_n 0, 0, 0, 0), (60, .getfield 13, 6, 3, 685), (63, .iload_n 1, 0, 0, 0)],
  [(64, .iaload, 0, 0, 0), (65, .ireturn, 0, 0, 0), (66, .aload_n 0, 0, 0, 0), (67, .getfield 16, 6, 4, 686), (70, .iload_n 1, 0, 0, 0), (71, .iaload, 0, 0, 0), (72, .ireturn, 0, 0, 0), (73, .aload_n 0, 0, 0, 0), (74, .getfield 19, 6, 5, 687), (77, .iload_n 1, 0, 0, 0), (78, .iaload, 0, 0, 0), (79, .ireturn, 0, 0, 0), (80, .aload_n 0, 0, 0, 0), (81, .getfield 22, 6, 6, 688), (84, .iload_n 1, 0, 0, 0), (85, .iaload, 0, 0, 0), (86, .ireturn, 0, 0, 0), (87, .iconst (-1), 0, 0, 0), (88, .ireturn, 0, 0, 0)]]
def am_c109 : List (List (Nat × am_I)) := [[(0, .iconst 1, 0, 0, 0), (1, .istore_n 3, 0, 0, 0), (2, .aload_n 0, 0, 0, 0), (3, .getfield 38, 6, 15, 697), (6, .iconst 0, 0, 0, 0), (7, .iload_n 2, 0, 0, 0), (8, .iastore, 0, 0, 0), (9, .iconst 0, 0, 0, 0), (10, .istore 4, 0, 0, 0), (12, .iload_n 3, 0, 0, 0), (13, .ifCond .le 133, 0, 0, 0), (16, .iinc 3 (-1), 0, 0, 0), (19, .aload_n 0, 0, 0, 0), (20, .getfield 38, 6, 15, 697), (23, .iload_n 3, 0, 0, 0), (24, .iaload, 0, 0, 0), (25, .istore 5, 0, 0, 0), (27, .aload_n 0, 0, 0, 0), (28, .getfield 7, 6, 2, 684), (31, .iload 5, 0, 0, 0)],
  [(33, .iaload, 0, 0, 0), (34, .iconst 2, 0, 0, 0), (35, .if_icmp .lt 18, 0, 0, 0), (38, .aload_n 0, 0, 0, 0), (39, .getfield 7, 6, 2, 684), (42, .iload 5, 0, 0, 0), (44, .iaload, 0, 0, 0), (45, .iconst 4, 0, 0, 0), (46, .if_icmp .gt 7, 0, 0, 0), (49, .iconst 1, 0, 0, 0), (50, .goto 4, 0, 0, 0), (53, .iconst 0, 0, 0, 0), (54, .istore 6, 0, 0, 0), (56, .aload_n 0, 0, 0, 0), (57, .getfield 29, 6, 10, 692), (60, .bipush 60, 0, 0, 0), (62, .iload_n 1, 0, 0, 0), (63, .imul, 0, 0, 0)],
  [(64, .iload 4, 0, 0, 0), (66, .iadd, 0, 0, 0), (67, .iload 6, 0, 0, 0), (69, .ifCond .eq 13, 0, 0, 0), (72, .aload_n 0, 0, 0, 0), (73, .getfield 7, 6, 2, 684), (76, .iload 5, 0, 0, 0), (78, .iaload, 0, 0, 0), (79, .goto 21, 0, 0, 0), (82, .aload_n 0, 0, 0, 0), (83, .getfield 7, 6, 2, 684), (86, .iload 5, 0, 0, 0), (88, .iaload, 0, 0, 0), (89, .bipush 10, 0, 0, 0), (91, .aload_n 0, 0, 0, 0), (92, .getfield 13, 6, 3, 685), (95, .iload 5, 0, 0, 0)],
  [(97, .iaload, 0, 0, 0), (98, .imul, 0, 0, 0), (99, .iadd, 0, 0, 0), (100, .iastore, 0, 0, 0), (101, .iinc 4 1, 0, 0, 0), (104, .iload 6, 0, 0, 0), (106, .ifCond .ne 6, 0, 0, 0), (109, .goto (-97), 0, 0, 0), (112, .aload_n 0, 0, 0, 0), (113, .getfield 38, 6, 15, 697), (116, .iload_n 3, 0, 0, 0), (117, .aload_n 0, 0, 0, 0), (118, .getfield 16, 6, 4, 686), (121, .iload 5, 0, 0, 0), (123, .iaload, 0, 0, 0), (124, .iastore, 0, 0, 0), (125, .aload_n 0, 0, 0, 0), (126, .getfield 38, 6, 15, 697)],
  [(129, .iload_n 3, 0, 0, 0), (130, .iconst 1, 0, 0, 0), (131, .iadd, 0, 0, 0), (132, .aload_n 0, 0, 0, 0), (133, .getfield 13, 6, 3, 685), (136, .iload 5, 0, 0, 0), (138, .iaload, 0, 0, 0), (139, .iastore, 0, 0, 0), (140, .iinc 3 2, 0, 0, 0), (143, .goto (-131), 0, 0, 0), (146, .aload_n 0, 0, 0, 0), (147, .getfield 32, 6, 11, 693), (150, .iload_n 1, 0, 0, 0), (151, .iload 4, 0, 0, 0), (153, .iastore, 0, 0, 0), (154, .return_, 0, 0, 0)]]
def am_c110 : List (List (Nat × am_I)) := [[(0, .aload_n 0, 0, 0, 0), (1, .iconst 0, 0, 0, 0), (2, .putfield 65, 6, 0, 682), (5, .aload_n 0, 0, 0, 0), (6, .iload_n 1, 0, 0, 0), (7, .invokevirtual 193, 107, 2, 792), (10, .ifCond .eq 21, 0, 0, 0), (13, .aload_n 0, 0, 0, 0), (14, .iload_n 2, 0, 0, 0), (15, .invokevirtual 193, 107, 2, 792), (18, .ifCond .eq 13, 0, 0, 0), (21, .iload_n 3, 0, 0, 0), (22, .ifCond .lt 9, 0, 0, 0), (25, .iload_n 3, 0, 0, 0), (26, .bipush 30, 0, 0, 0), (28, .if_icmp .le 10, 0, 0, 0), (31, .aload_n 0, 0, 0, 0)],
  [(32, .iconst 1, 0, 0, 0), (33, .putfield 65, 6, 0, 682), (36, .iconst 0, 0, 0, 0), (37, .ireturn, 0, 0, 0), (38, .aload_n 0, 0, 0, 0), (39, .iload_n 3, 0, 0, 0), (40, .putfield 111, 6, 17, 699), (43, .aload_n 0, 0, 0, 0), (44, .iconst 0, 0, 0, 0), (45, .putfield 108, 6, 18, 700), (48, .aload_n 0, 0, 0, 0), (49, .iconst 0, 0, 0, 0), (50, .putfield 105, 6, 19, 701), (53, .iconst 1, 0, 0, 0), (54, .ireturn, 0, 0, 0)]]
def am_c111 : List (List (Nat × am_I)) := [[(0, .aload_n 0, 0, 0, 0), (1, .iconst 2, 0, 0, 0), (2, .iload_n 1, 0, 0, 0), (3, .invokevirtual 144, 84, 4, 827), (6, .aload_n 0, 0, 0, 0), (7, .iconst 1, 0, 0, 0), (8, .putfield 196, 6, 9, 691), (11, .aload_n 0, 0, 0, 0), (12, .getfield 32, 6, 11, 693), (15, .iload_n 1, 0, 0, 0), (16, .iaload, 0, 0, 0), (17, .ireturn, 0, 0, 0)]]
def am_c112 : List (List (Nat × am_I)) := [[(0, .aload_n 0, 0, 0, 0), (1, .iload_n 1, 0, 0, 0), (2, .iload_n 1, 0, 0, 0), (3, .iload_n 2, 0, 0, 0), (4, .invokevirtual 199, 110, 6, 800), (7, .ifCond .ne 5, 0, 0, 0), (10, .iconst 0, 0, 0, 0), (11, .ireturn, 0, 0, 0), (12, .aload_n 0, 0, 0, 0), (13, .bipush 63, 0, 0, 0), (15, .iload_n 1, 0, 0, 0), (16, .invokevirtual 203, 109, 4, 804), (19, .aload_n 0, 0, 0, 0), (20, .bipush 63, 0, 0, 0), (22, .invokevirtual 206, 104, 2, 808), (25, .aload_n 0, 0, 0, 0), (26, .getfield 105, 6, 19, 701), (29, .ifCond .ne 12, 0, 0, 0)],
  [(32, .aload_n 0, 0, 0, 0), (33, .bipush 63, 0, 0, 0), (35, .invokevirtual 209, 111, 2, 913), (38, .goto 11, 0, 0, 0), (41, .aload_n 0, 0, 0, 0), (42, .aload_n 0, 0, 0, 0), (43, .getfield 105, 6, 19, 701), (46, .invokevirtual 212, 77, 2, 917), (49, .ireturn, 0, 0, 0)]]
def am_c113 : List (List (Nat × am_I)) := [[(0, .aload_n 0, 0, 0, 0), (1, .iload_n 1, 0, 0, 0), (2, .iload_n 1, 0, 0, 0), (3, .iload_n 2, 0, 0, 0), (4, .invokevirtual 199, 110, 6, 800), (7, .ifCond .ne 5, 0, 0, 0), (10, .iconst 0, 0, 0, 0), (11, .ireturn, 0, 0, 0), (12, .aload_n 0, 0, 0, 0), (13, .bipush 63, 0, 0, 0), (15, .iload_n 1, 0, 0, 0), (16, .invokevirtual 203, 109, 4, 804), (19, .aload_n 0, 0, 0, 0), (20, .bipush 63, 0, 0, 0), (22, .invokevirtual 134, 94, 2, 861), (25, .aload_n 0, 0, 0, 0), (26, .getfield 105, 6, 19, 701), (29, .ifCond .ne 12, 0, 0, 0)],
  [(32, .aload_n 0, 0, 0, 0), (33, .bipush 63, 0, 0, 0), (35, .invokevirtual 209, 111, 2, 913), (38, .goto 8, 0, 0, 0), (41, .aload_n 0, 0, 0, 0), (42, .iconst 2, 0, 0, 0), (43, .invokevirtual 212, 77, 2, 917), (46, .ireturn, 0, 0, 0)]]
def am_c114 : List (List (Nat × am_I)) := [[(0, .aload_n 0, 0, 0, 0), (1, .iload_n 1, 0, 0, 0), (2, .iload_n 2, 0, 0, 0), (3, .iload_n 3, 0, 0, 0), (4, .invokevirtual 199, 110, 6, 800), (7, .ifCond .ne 5, 0, 0, 0), (10, .iconst 0, 0, 0, 0), (11, .ireturn, 0, 0, 0), (12, .aload_n 0, 0, 0, 0), (13, .iconst 0, 0, 0, 0), (14, .iload_n 1, 0, 0, 0), (15, .invokevirtual 203, 109, 4, 804), (18, .aload_n 0, 0, 0, 0), (19, .iconst 1, 0, 0, 0), (20, .iload_n 2, 0, 0, 0), (21, .invokevirtual 203, 109, 4, 804), (24, .aload_n 0, 0, 0, 0), (25, .invokevirtual 174, 97, 0, 901), (28, .istore 4, 0, 0, 0), (30, .aload_n 0, 0, 0, 0), (31, .getfield 105, 6, 19, 701)],
  [(34, .ifCond .eq 8, 0, 0, 0), (37, .aload_n 0, 0, 0, 0), (38, .iconst 2, 0, 0, 0), (39, .putfield 65, 6, 0, 682), (42, .iload 4, 0, 0, 0), (44, .ifCond .eq 14, 0, 0, 0), (47, .aload_n 0, 0, 0, 0), (48, .getfield 105, 6, 19, 701), (51, .ifCond .ne 7, 0, 0, 0), (54, .iconst 1, 0, 0, 0), (55, .goto 4, 0, 0, 0), (58, .iconst 0, 0, 0, 0), (59, .ireturn, 0, 0, 0)]]
def am_c115 : List (List (Nat × am_I)) := [[(0, .aload_n 0, 0, 0, 0), (1, .iload_n 1, 0, 0, 0), (2, .iload_n 2, 0, 0, 0), (3, .iload_n 3, 0, 0, 0), (4, .invokevirtual 199, 110, 6, 800), (7, .ifCond .ne 5, 0, 0, 0), (10, .iconst 0, 0, 0, 0), (11, .ireturn, 0, 0, 0), (12, .aload_n 0, 0, 0, 0), (13, .bipush 63, 0, 0, 0), (15, .iload_n 2, 0, 0, 0), (16, .invokevirtual 203, 109, 4, 804), (19, .aload_n 0, 0, 0, 0), (20, .bipush 63, 0, 0, 0), (22, .invokevirtual 206, 104, 2, 808), (25, .aload_n 0, 0, 0, 0), (26, .getfield 105, 6, 19, 701), (29, .ifCond .ne 10, 0, 0, 0)],
  [(32, .aload_n 0, 0, 0, 0), (33, .bipush 63, 0, 0, 0), (35, .invokevirtual 171, 99, 2, 893), (38, .pop, 0, 0, 0), (39, .aload_n 0, 0, 0, 0), (40, .getfield 105, 6, 19, 701), (43, .ifCond .ne 16, 0, 0, 0), (46, .aload_n 0, 0, 0, 0), (47, .bipush 63, 0, 0, 0), (49, .iload_n 1, 0, 0, 0), (50, .invokevirtual 203, 109, 4, 804), (53, .aload_n 0, 0, 0, 0), (54, .bipush 63, 0, 0, 0), (56, .invokevirtual 206, 104, 2, 808), (59, .iconst 0, 0, 0, 0), (60, .istore 4, 0, 0, 0), (62, .aload_n 0, 0, 0, 0), (63, .getfield 105, 6, 19, 701)],
  [(66, .ifCond .ne 22, 0, 0, 0), (69, .aload_n 0, 0, 0, 0), (70, .iconst 0, 0, 0, 0), (71, .bipush 63, 0, 0, 0), (73, .invokevirtual 144, 84, 4, 827), (76, .aload_n 0, 0, 0, 0), (77, .iconst 1, 0, 0, 0), (78, .iload_n 2, 0, 0, 0), (79, .invokevirtual 203, 109, 4, 804), (82, .aload_n 0, 0, 0, 0), (83, .invokevirtual 174, 97, 0, 901), (86, .istore 4, 0, 0, 0), (88, .aload_n 0, 0, 0, 0), (89, .aload_n 0, 0, 0, 0), (90, .getfield 105, 6, 19, 701), (93, .putfield 65, 6, 0, 682)],
  [(96, .iload 4, 0, 0, 0), (98, .ifCond .eq 14, 0, 0, 0), (101, .aload_n 0, 0, 0, 0), (102, .getfield 105, 6, 19, 701), (105, .ifCond .ne 7, 0, 0, 0), (108, .iconst 1, 0, 0, 0), (109, .goto 4, 0, 0, 0), (112, .iconst 0, 0, 0, 0), (113, .ireturn, 0, 0, 0)]]
def am_c116 : List (List (Nat × am_I)) := [[(0, .aload_n 0, 0, 0, 0), (1, .iconst 0, 0, 0, 0), (2, .putfield 65, 6, 0, 682), (5, .aload_n 0, 0, 0, 0), (6, .getfield 190, 6, 7, 689), (9, .bipush 16, 0, 0, 0), (11, .if_icmp .ne 5, 0, 0, 0), (14, .iconst (-1), 0, 0, 0), (15, .ireturn, 0, 0, 0), (16, .aload_n 0, 0, 0, 0), (17, .iload_n 1, 0, 0, 0), (18, .iload_n 1, 0, 0, 0), (19, .iload_n 2, 0, 0, 0), (20, .invokevirtual 199, 110, 6, 800), (23, .ifCond .ne 5, 0, 0, 0), (26, .iconst 0, 0, 0, 0), (27, .ireturn, 0, 0, 0), (28, .aload_n 0, 0, 0, 0), (29, .bipush 63, 0, 0, 0), (31, .iload_n 1, 0, 0, 0)],
  [(32, .invokevirtual 203, 109, 4, 804), (35, .aload_n 0, 0, 0, 0), (36, .bipush 63, 0, 0, 0), (38, .invokevirtual 206, 104, 2, 808), (41, .aload_n 0, 0, 0, 0), (42, .getfield 105, 6, 19, 701), (45, .ifCond .ne 10, 0, 0, 0), (48, .aload_n 0, 0, 0, 0), (49, .bipush 63, 0, 0, 0), (51, .invokevirtual 171, 99, 2, 893), (54, .pop, 0, 0, 0), (55, .aload_n 0, 0, 0, 0), (56, .getfield 105, 6, 19, 701), (59, .ifCond .eq 12, 0, 0, 0), (62, .aload_n 0, 0, 0, 0), (63, .aload_n 0, 0, 0, 0)],
  [(64, .getfield 105, 6, 19, 701), (67, .invokevirtual 212, 77, 2, 917), (70, .ireturn, 0, 0, 0), (71, .aload_n 0, 0, 0, 0), (72, .bipush 64, 0, 0, 0), (74, .aload_n 0, 0, 0, 0), (75, .getfield 190, 6, 7, 689), (78, .iadd, 0, 0, 0), (79, .iload_n 1, 0, 0, 0), (80, .invokevirtual 203, 109, 4, 804), (83, .aload_n 0, 0, 0, 0), (84, .getfield 25, 6, 8, 690), (87, .aload_n 0, 0, 0, 0), (88, .getfield 190, 6, 7, 689), (91, .iconst 0, 0, 0, 0), (92, .bastore, 0, 0, 0), (93, .aload_n 0, 0, 0, 0), (94, .dup, 0, 0, 0), (95, .getfield 190, 6, 7, 689)],
  [(98, .iconst 1, 0, 0, 0), (99, .iadd, 0, 0, 0), (100, .putfield 190, 6, 7, 689), (103, .aload_n 0, 0, 0, 0), (104, .getfield 190, 6, 7, 689), (107, .iconst 1, 0, 0, 0), (108, .isub, 0, 0, 0), (109, .ireturn, 0, 0, 0)]]
def am_c117 : List (List (Nat × am_I)) := [[(0, .aload_n 0, 0, 0, 0), (1, .iconst 0, 0, 0, 0), (2, .putfield 65, 6, 0, 682), (5, .aload_n 0, 0, 0, 0), (6, .getfield 190, 6, 7, 689), (9, .bipush 16, 0, 0, 0), (11, .if_icmp .ne 5, 0, 0, 0), (14, .iconst (-1), 0, 0, 0), (15, .ireturn, 0, 0, 0), (16, .aload_n 0, 0, 0, 0), (17, .iload_n 1, 0, 0, 0), (18, .iload_n 1, 0, 0, 0), (19, .iload_n 2, 0, 0, 0), (20, .invokevirtual 199, 110, 6, 800), (23, .ifCond .ne 5, 0, 0, 0), (26, .iconst 0, 0, 0, 0), (27, .ireturn, 0, 0, 0), (28, .aload_n 0, 0, 0, 0), (29, .bipush 63, 0, 0, 0), (31, .iload_n 1, 0, 0, 0)],
  [(32, .invokevirtual 203, 109, 4, 804), (35, .aload_n 0, 0, 0, 0), (36, .bipush 63, 0, 0, 0), (38, .invokevirtual 206, 104, 2, 808), (41, .aload_n 0, 0, 0, 0), (42, .getfield 105, 6, 19, 701), (45, .ifCond .eq 12, 0, 0, 0), (48, .aload_n 0, 0, 0, 0), (49, .aload_n 0, 0, 0, 0), (50, .getfield 105, 6, 19, 701), (53, .invokevirtual 212, 77, 2, 917), (56, .ireturn, 0, 0, 0), (57, .iconst 0, 0, 0, 0), (58, .istore_n 3, 0, 0, 0), (59, .iload_n 3, 0, 0, 0), (60, .aload_n 0, 0, 0, 0), (61, .getfield 32, 6, 11, 693)],
  [(64, .bipush 63, 0, 0, 0), (66, .iaload, 0, 0, 0), (67, .if_icmp .ge 37, 0, 0, 0), (70, .aload_n 0, 0, 0, 0), (71, .bipush 63, 0, 0, 0), (73, .iload_n 3, 0, 0, 0), (74, .invokevirtual 69, 81, 4, 820), (77, .invokestatic 80, 78, 2, 824), (80, .iconst 1, 0, 0, 0), (81, .if_icmp .ne 17, 0, 0, 0), (84, .aload_n 0, 0, 0, 0), (85, .bipush 63, 0, 0, 0), (87, .iload_n 3, 0, 0, 0), (88, .invokevirtual 69, 81, 4, 820), (91, .bipush 100, 0, 0, 0), (93, .if_icmp .le 5, 0, 0, 0)],
  [(96, .iconst (-1), 0, 0, 0), (97, .ireturn, 0, 0, 0), (98, .iinc 3 1, 0, 0, 0), (101, .goto (-42), 0, 0, 0), (104, .aload_n 0, 0, 0, 0), (105, .bipush 64, 0, 0, 0), (107, .aload_n 0, 0, 0, 0), (108, .getfield 190, 6, 7, 689), (111, .iadd, 0, 0, 0), (112, .bipush 63, 0, 0, 0), (114, .invokevirtual 144, 84, 4, 827), (117, .aload_n 0, 0, 0, 0), (118, .bipush 80, 0, 0, 0), (120, .aload_n 0, 0, 0, 0), (121, .getfield 190, 6, 7, 689), (124, .iadd, 0, 0, 0), (125, .iload_n 1, 0, 0, 0), (126, .invokevirtual 203, 109, 4, 804)],
  [(129, .aload_n 0, 0, 0, 0), (130, .getfield 25, 6, 8, 690), (133, .aload_n 0, 0, 0, 0), (134, .getfield 190, 6, 7, 689), (137, .iconst 1, 0, 0, 0), (138, .bastore, 0, 0, 0), (139, .aload_n 0, 0, 0, 0), (140, .dup, 0, 0, 0), (141, .getfield 190, 6, 7, 689), (144, .iconst 1, 0, 0, 0), (145, .iadd, 0, 0, 0), (146, .putfield 190, 6, 7, 689), (149, .aload_n 0, 0, 0, 0), (150, .getfield 190, 6, 7, 689), (153, .iconst 1, 0, 0, 0), (154, .isub, 0, 0, 0), (155, .ireturn, 0, 0, 0)]]
def am_c118 : List (List (Nat × am_I)) := [[(0, .aload_n 0, 0, 0, 0), (1, .iconst 0, 0, 0, 0), (2, .putfield 65, 6, 0, 682), (5, .aload_n 0, 0, 0, 0), (6, .getfield 190, 6, 7, 689), (9, .ireturn, 0, 0, 0)]]
def am_c119 : List (List (Nat × am_I)) := [[(0, .aload_n 0, 0, 0, 0), (1, .iconst 0, 0, 0, 0), (2, .putfield 65, 6, 0, 682), (5, .iload_n 1, 0, 0, 0), (6, .ifCond .lt 24, 0, 0, 0), (9, .iload_n 1, 0, 0, 0), (10, .aload_n 0, 0, 0, 0), (11, .getfield 190, 6, 7, 689), (14, .if_icmp .ge 16, 0, 0, 0), (17, .aload_n 0, 0, 0, 0), (18, .getfield 25, 6, 8, 690), (21, .iload_n 1, 0, 0, 0), (22, .baload, 0, 0, 0), (23, .ifCond .eq 7, 0, 0, 0), (26, .iconst 1, 0, 0, 0), (27, .goto 4, 0, 0, 0), (30, .iconst 0, 0, 0, 0), (31, .ireturn, 0, 0, 0)]]
def am_c120 : List (List (Nat × am_I)) := [[(0, .aload_n 0, 0, 0, 0), (1, .iconst 0, 0, 0, 0), (2, .putfield 65, 6, 0, 682), (5, .iload_n 1, 0, 0, 0), (6, .ifCond .lt 11, 0, 0, 0), (9, .iload_n 1, 0, 0, 0), (10, .aload_n 0, 0, 0, 0), (11, .getfield 190, 6, 7, 689), (14, .if_icmp .lt 7, 0, 0, 0), (17, .iconst (-1), 0, 0, 0), (18, .goto 11, 0, 0, 0), (21, .aload_n 0, 0, 0, 0), (22, .bipush 64, 0, 0, 0), (24, .iload_n 1, 0, 0, 0), (25, .iadd, 0, 0, 0), (26, .invokevirtual 209, 111, 2, 913), (29, .ireturn, 0, 0, 0)]]
def am_c121 : List (List (Nat × am_I)) := [[(0, .aload_n 0, 0, 0, 0), (1, .iconst 0, 0, 0, 0), (2, .putfield 65, 6, 0, 682), (5, .aload_n 0, 0, 0, 0), (6, .getfield 196, 6, 9, 691), (9, .ifCond .eq 17, 0, 0, 0), (12, .iload_n 1, 0, 0, 0), (13, .ifCond .lt 13, 0, 0, 0), (16, .iload_n 1, 0, 0, 0), (17, .aload_n 0, 0, 0, 0), (18, .getfield 32, 6, 11, 693), (21, .iconst 2, 0, 0, 0), (22, .iaload, 0, 0, 0), (23, .if_icmp .lt 7, 0, 0, 0), (26, .iconst (-1), 0, 0, 0), (27, .goto 9, 0, 0, 0), (30, .aload_n 0, 0, 0, 0), (31, .iconst 2, 0, 0, 0)],
  [(32, .iload_n 1, 0, 0, 0), (33, .invokevirtual 69, 81, 4, 820), (36, .ireturn, 0, 0, 0)]]
def am_c122 : List (List (Nat × am_I)) := [[(0, .iconst 0, 0, 0, 0), (1, .istore 4, 0, 0, 0), (3, .iload 4, 0, 0, 0), (5, .aload_n 0, 0, 0, 0), (6, .getfield 187, 6, 1, 683), (9, .if_icmp .ge 45, 0, 0, 0), (12, .aload_n 0, 0, 0, 0), (13, .getfield 7, 6, 2, 684), (16, .iload 4, 0, 0, 0), (18, .iaload, 0, 0, 0), (19, .iload_n 1, 0, 0, 0), (20, .if_icmp .ne 28, 0, 0, 0), (23, .aload_n 0, 0, 0, 0), (24, .getfield 13, 6, 3, 685), (27, .iload 4, 0, 0, 0), (29, .iaload, 0, 0, 0), (30, .iload_n 2, 0, 0, 0), (31, .if_icmp .ne 17, 0, 0, 0)],
  [(34, .aload_n 0, 0, 0, 0), (35, .getfield 16, 6, 4, 686), (38, .iload 4, 0, 0, 0), (40, .iaload, 0, 0, 0), (41, .iload_n 3, 0, 0, 0), (42, .if_icmp .ne 6, 0, 0, 0), (45, .iload 4, 0, 0, 0), (47, .ireturn, 0, 0, 0), (48, .iinc 4 1, 0, 0, 0), (51, .goto (-48), 0, 0, 0), (54, .aload_n 0, 0, 0, 0), (55, .iload_n 1, 0, 0, 0), (56, .iload_n 2, 0, 0, 0), (57, .iload_n 3, 0, 0, 0), (58, .invokevirtual 215, 105, 6, 965), (61, .ireturn, 0, 0, 0)]]
def am_c123 : List (List (Nat × am_I)) := [[(0, .aload_n 0, 0, 0, 0), (1, .iconst 0, 0, 0, 0), (2, .putfield 65, 6, 0, 682), (5, .aload_n 0, 0, 0, 0), (6, .getfield 196, 6, 9, 691), (9, .ifCond .ne 5, 0, 0, 0), (12, .iconst (-1), 0, 0, 0), (13, .ireturn, 0, 0, 0), (14, .aload_n 0, 0, 0, 0), (15, .getfield 187, 6, 1, 683), (18, .istore_n 1, 0, 0, 0), (19, .iconst 0, 0, 0, 0), (20, .istore_n 2, 0, 0, 0), (21, .iconst (-1), 0, 0, 0), (22, .istore_n 3, 0, 0, 0), (23, .iconst 0, 0, 0, 0), (24, .istore 4, 0, 0, 0), (26, .iload 4, 0, 0, 0), (28, .aload_n 0, 0, 0, 0), (29, .getfield 32, 6, 11, 693)],
  [(32, .iconst 2, 0, 0, 0), (33, .iaload, 0, 0, 0), (34, .if_icmp .ge 130, 0, 0, 0), (37, .aload_n 0, 0, 0, 0), (38, .iconst 2, 0, 0, 0), (39, .iload 4, 0, 0, 0), (41, .invokevirtual 69, 81, 4, 820), (44, .istore 5, 0, 0, 0), (46, .iload 5, 0, 0, 0), (48, .invokestatic 73, 79, 2, 835), (51, .ifCond .eq 24, 0, 0, 0), (54, .aload_n 0, 0, 0, 0), (55, .getfield 38, 6, 15, 697), (58, .iload_n 2, 0, 0, 0), (59, .iload 5, 0, 0, 0), (61, .iastore, 0, 0, 0), (62, .aload_n 0, 0, 0, 0), (63, .getfield 41, 6, 16, 698)],
  [(66, .iload_n 2, 0, 0, 0), (67, .iconst (-1), 0, 0, 0), (68, .iastore, 0, 0, 0), (69, .iinc 2 1, 0, 0, 0), (72, .goto 86, 0, 0, 0), (75, .aload_n 0, 0, 0, 0), (76, .iload 5, 0, 0, 0), (78, .invokestatic 80, 78, 2, 824), (81, .iload 5, 0, 0, 0), (83, .bipush 10, 0, 0, 0), (85, .idiv, 0, 0, 0), (86, .iconst (-1), 0, 0, 0), (87, .invokevirtual 219, 122, 6, 961), (90, .istore_n 3, 0, 0, 0), (91, .iload_n 3, 0, 0, 0), (92, .ifCond .lt 42, 0, 0, 0), (95, .iload_n 2, 0, 0, 0)],
  [(96, .ifCond .le 38, 0, 0, 0), (99, .aload_n 0, 0, 0, 0), (100, .getfield 41, 6, 16, 698), (103, .iload_n 2, 0, 0, 0), (104, .iconst 1, 0, 0, 0), (105, .isub, 0, 0, 0), (106, .iaload, 0, 0, 0), (107, .ifCond .lt 27, 0, 0, 0), (110, .iinc 2 (-1), 0, 0, 0), (113, .aload_n 0, 0, 0, 0), (114, .aload_n 0, 0, 0, 0), (115, .getfield 38, 6, 15, 697), (118, .iload_n 2, 0, 0, 0), (119, .iaload, 0, 0, 0), (120, .aload_n 0, 0, 0, 0), (121, .getfield 41, 6, 16, 698), (124, .iload_n 2, 0, 0, 0), (125, .iaload, 0, 0, 0), (126, .iload_n 3, 0, 0, 0), (127, .invokevirtual 219, 122, 6, 961)],
  [(130, .istore_n 3, 0, 0, 0), (131, .goto (-40), 0, 0, 0), (134, .iload_n 3, 0, 0, 0), (135, .ifCond .ge 10, 0, 0, 0), (138, .aload_n 0, 0, 0, 0), (139, .iload_n 1, 0, 0, 0), (140, .putfield 187, 6, 1, 683), (143, .iconst (-1), 0, 0, 0), (144, .ireturn, 0, 0, 0), (145, .iload_n 2, 0, 0, 0), (146, .ifCond .le 12, 0, 0, 0), (149, .aload_n 0, 0, 0, 0), (150, .getfield 41, 6, 16, 698), (153, .iload_n 2, 0, 0, 0), (154, .iconst 1, 0, 0, 0), (155, .isub, 0, 0, 0), (156, .iload_n 3, 0, 0, 0), (157, .iastore, 0, 0, 0), (158, .iinc 4 1, 0, 0, 0)],
  [(161, .goto (-135), 0, 0, 0), (164, .iload_n 3, 0, 0, 0), (165, .ireturn, 0, 0, 0)]]
def am_c124 : List (List (Nat × am_I)) := [[(0, .aload_n 0, 0, 0, 0), (1, .iconst 0, 0, 0, 0), (2, .putfield 65, 6, 0, 682), (5, .aload_n 0, 0, 0, 0), (6, .getfield 108, 6, 18, 700), (9, .ireturn, 0, 0, 0)]]
def am_c125 : List (List (Nat × am_I)) := [[(0, .aload_n 3, 0, 0, 0), (1, .iconst 0, 0, 0, 0), (2, .aload_n 0, 0, 0, 0), (3, .iload_n 1, 0, 0, 0), (4, .iload_n 2, 0, 0, 0), (5, .invokevirtual 7, 59, 4, 461), (8, .i2l, 0, 0, 0), (9, .lastore, 0, 0, 0), (10, .goto 15, 0, 0, 0), (13, .astore 4, 0, 0, 0), (15, .iconst 1, 0, 0, 0), (16, .ireturn, 0, 0, 0), (17, .astore 4, 0, 0, 0), (19, .iconst 2, 0, 0, 0), (20, .ireturn, 0, 0, 0), (21, .astore 4, 0, 0, 0), (23, .iconst 3, 0, 0, 0), (24, .ireturn, 0, 0, 0), (25, .iconst 0, 0, 0, 0), (26, .ireturn, 0, 0, 0)]]
def am_c126 : List (List (Nat × am_I)) := [[(0, .aload_n 3, 0, 0, 0), (1, .iconst 0, 0, 0, 0), (2, .aload_n 0, 0, 0, 0), (3, .iload_n 1, 0, 0, 0), (4, .iload_n 2, 0, 0, 0), (5, .invokevirtual 19, 60, 4, 621), (8, .i2l, 0, 0, 0), (9, .lastore, 0, 0, 0), (10, .goto 11, 0, 0, 0), (13, .astore 4, 0, 0, 0), (15, .iconst 1, 0, 0, 0), (16, .ireturn, 0, 0, 0), (17, .astore 4, 0, 0, 0), (19, .iconst 2, 0, 0, 0), (20, .ireturn, 0, 0, 0), (21, .iconst 0, 0, 0, 0), (22, .ireturn, 0, 0, 0)]]
def am_c127 : List (List (Nat × am_I)) := [[(0, .aload 4, 0, 0, 0), (2, .iconst 0, 0, 0, 0), (3, .aload_n 0, 0, 0, 0), (4, .iload_n 1, 0, 0, 0), (5, .iload_n 2, 0, 0, 0), (6, .iload_n 3, 0, 0, 0), (7, .invokevirtual 22, 61, 6, 629), (10, .ifCond .eq 7, 0, 0, 0), (13, .lconst 1, 0, 0, 0), (14, .goto 4, 0, 0, 0), (17, .lconst 0, 0, 0, 0), (18, .lastore, 0, 0, 0), (19, .goto 11, 0, 0, 0), (22, .astore 5, 0, 0, 0), (24, .iconst 1, 0, 0, 0), (25, .ireturn, 0, 0, 0), (26, .astore 5, 0, 0, 0), (28, .iconst 2, 0, 0, 0), (29, .ireturn, 0, 0, 0), (30, .iconst 0, 0, 0, 0), (31, .ireturn, 0, 0, 0)]]
def am_c128 : List (List (Nat × am_I)) := [[(0, .aload 4, 0, 0, 0), (2, .iconst 0, 0, 0, 0), (3, .aload_n 0, 0, 0, 0), (4, .iload_n 1, 0, 0, 0), (5, .iload_n 2, 0, 0, 0), (6, .iload_n 3, 0, 0, 0), (7, .invokevirtual 26, 62, 6, 637), (10, .ifCond .eq 7, 0, 0, 0), (13, .lconst 1, 0, 0, 0), (14, .goto 4, 0, 0, 0), (17, .lconst 0, 0, 0, 0), (18, .lastore, 0, 0, 0), (19, .goto 15, 0, 0, 0), (22, .astore 5, 0, 0, 0), (24, .iconst 1, 0, 0, 0), (25, .ireturn, 0, 0, 0), (26, .astore 5, 0, 0, 0), (28, .iconst 2, 0, 0, 0), (29, .ireturn, 0, 0, 0), (30, .astore 5, 0, 0, 0)],
  [(32, .iconst 3, 0, 0, 0), (33, .ireturn, 0, 0, 0), (34, .iconst 0, 0, 0, 0), (35, .ireturn, 0, 0, 0)]]
def am_c129 : List (List (Nat × am_I)) := [[(0, .aload_n 3, 0, 0, 0), (1, .iconst 0, 0, 0, 0), (2, .aload_n 0, 0, 0, 0), (3, .iload_n 1, 0, 0, 0), (4, .iload_n 2, 0, 0, 0), (5, .invokevirtual 29, 63, 4, 645), (8, .i2l, 0, 0, 0), (9, .lastore, 0, 0, 0), (10, .goto 15, 0, 0, 0), (13, .astore 4, 0, 0, 0), (15, .iconst 1, 0, 0, 0), (16, .ireturn, 0, 0, 0), (17, .astore 4, 0, 0, 0), (19, .iconst 2, 0, 0, 0), (20, .ireturn, 0, 0, 0), (21, .astore 4, 0, 0, 0), (23, .iconst 3, 0, 0, 0), (24, .ireturn, 0, 0, 0), (25, .iconst 0, 0, 0, 0), (26, .ireturn, 0, 0, 0)]]
def am_c130 : List (List (Nat × am_I)) := [[(0, .aload_n 3, 0, 0, 0), (1, .iconst 0, 0, 0, 0), (2, .aload_n 0, 0, 0, 0), (3, .iload_n 1, 0, 0, 0), (4, .iload_n 2, 0, 0, 0), (5, .invokevirtual 32, 64, 4, 664), (8, .i2l, 0, 0, 0), (9, .lastore, 0, 0, 0), (10, .goto 15, 0, 0, 0), (13, .astore 4, 0, 0, 0), (15, .iconst 1, 0, 0, 0), (16, .ireturn, 0, 0, 0), (17, .astore 4, 0, 0, 0), (19, .iconst 2, 0, 0, 0), (20, .ireturn, 0, 0, 0), (21, .astore 4, 0, 0, 0), (23, .iconst 3, 0, 0, 0), (24, .ireturn, 0, 0, 0), (25, .iconst 0, 0, 0, 0), (26, .ireturn, 0, 0, 0)]]
def am_c131 : List (List (Nat × am_I)) := [[(0, .new 8, 5, 0, 67), (3, .dup, 0, 0, 0), (4, .invokespecial 35, 55, 0, 69), (7, .astore_n 1, 0, 0, 0), (8, .new 36, 6, 0, 676), (11, .dup, 0, 0, 0), (12, .invokespecial 38, 76, 0, 678), (15, .astore_n 2, 0, 0, 0), (16, .iconst 1, 0, 0, 0), (17, .newarray .long, 2, 0, 0), (19, .astore_n 3, 0, 0, 0), (20, .iconst 0, 0, 0, 0), (21, .istore 4, 0, 0, 0), (23, .iload 4, 0, 0, 0), (25, .aload_n 0, 0, 0, 0), (26, .arraylength, 0, 0, 0), (27, .iconst 4, 0, 0, 0), (28, .isub, 0, 0, 0), (29, .if_icmp .gt 566, 0, 0, 0)],
  [(32, .aload_n 0, 0, 0, 0), (33, .iload 4, 0, 0, 0), (35, .iaload, 0, 0, 0), (36, .bipush 15, 0, 0, 0), (38, .iand, 0, 0, 0), (39, .tableswitch 550 0 14 #[73, 122, 135, 172, 212, 252, 304, 356, 396, 436, 449, 474, 499, 524, 537], 0, 73, 0)],
  [],
  [(112, .aload_n 1, 0, 0, 0), (113, .aload_n 0, 0, 0, 0), (114, .iload 4, 0, 0, 0), (116, .iconst 1, 0, 0, 0), (117, .iadd, 0, 0, 0), (118, .iaload, 0, 0, 0), (119, .aload_n 0, 0, 0, 0), (120, .iload 4, 0, 0, 0), (122, .iconst 2, 0, 0, 0), (123, .iadd, 0, 0, 0), (124, .iaload, 0, 0, 0), (125, .aload_n 0, 0, 0, 0), (126, .iload 4, 0, 0, 0)],
  [(128, .iconst 3, 0, 0, 0), (129, .iadd, 0, 0, 0), (130, .iaload, 0, 0, 0), (131, .invokevirtual 39, 56, 6, 208), (134, .pop, 0, 0, 0), (135, .aload_n 2, 0, 0, 0), (136, .aload_n 0, 0, 0, 0), (137, .iload 4, 0, 0, 0), (139, .iconst 1, 0, 0, 0), (140, .iadd, 0, 0, 0), (141, .iaload, 0, 0, 0), (142, .aload_n 0, 0, 0, 0), (143, .iload 4, 0, 0, 0), (145, .iconst 2, 0, 0, 0), (146, .iadd, 0, 0, 0), (147, .iaload, 0, 0, 0), (148, .aload_n 0, 0, 0, 0), (149, .iload 4, 0, 0, 0), (151, .iconst 3, 0, 0, 0), (152, .iadd, 0, 0, 0), (153, .iaload, 0, 0, 0), (154, .invokevirtual 43, 105, 6, 780), (157, .pop, 0, 0, 0), (158, .goto 431, 0, 0, 0)],
  [(161, .aload_n 1, 0, 0, 0), (162, .invokevirtual 44, 57, 0, 250), (165, .pop, 0, 0, 0), (166, .aload_n 2, 0, 0, 0), (167, .invokevirtual 48, 106, 0, 784), (170, .pop, 0, 0, 0), (171, .goto 418, 0, 0, 0), (174, .aload_n 1, 0, 0, 0), (175, .aload_n 0, 0, 0, 0), (176, .iload 4, 0, 0, 0), (178, .iconst 1, 0, 0, 0), (179, .iadd, 0, 0, 0), (180, .iaload, 0, 0, 0), (181, .aload_n 0, 0, 0, 0), (182, .iload 4, 0, 0, 0), (184, .iconst 2, 0, 0, 0), (185, .iadd, 0, 0, 0), (186, .iaload, 0, 0, 0), (187, .invokevirtual 49, 58, 4, 258), (190, .pop, 0, 0, 0), (191, .aload_n 2, 0, 0, 0)],
  [(192, .aload_n 0, 0, 0, 0), (193, .iload 4, 0, 0, 0), (195, .iconst 1, 0, 0, 0), (196, .iadd, 0, 0, 0), (197, .iaload, 0, 0, 0), (198, .aload_n 0, 0, 0, 0), (199, .iload 4, 0, 0, 0), (201, .iconst 2, 0, 0, 0), (202, .iadd, 0, 0, 0), (203, .iaload, 0, 0, 0), (204, .invokevirtual 52, 108, 4, 788), (207, .pop, 0, 0, 0), (208, .goto 381, 0, 0, 0), (211, .aload_n 1, 0, 0, 0), (212, .aload_n 0, 0, 0, 0), (213, .iload 4, 0, 0, 0), (215, .iconst 1, 0, 0, 0), (216, .iadd, 0, 0, 0), (217, .iaload, 0, 0, 0), (218, .aload_n 0, 0, 0, 0), (219, .iload 4, 0, 0, 0), (221, .iconst 2, 0, 0, 0), (222, .iadd, 0, 0, 0), (223, .iaload, 0, 0, 0)],
  [(224, .aload_n 3, 0, 0, 0), (225, .invokestatic 53, 125, 8, 455), (228, .istore 5, 0, 0, 0), (230, .aload_n 2, 0, 0, 0), (231, .aload_n 0, 0, 0, 0), (232, .iload 4, 0, 0, 0), (234, .iconst 1, 0, 0, 0), (235, .iadd, 0, 0, 0), (236, .iaload, 0, 0, 0), (237, .aload_n 0, 0, 0, 0), (238, .iload 4, 0, 0, 0), (240, .iconst 2, 0, 0, 0), (241, .iadd, 0, 0, 0), (242, .iaload, 0, 0, 0), (243, .invokevirtual 58, 112, 4, 796), (246, .istore 6, 0, 0, 0), (248, .goto 341, 0, 0, 0), (251, .aload_n 1, 0, 0, 0), (252, .aload_n 0, 0, 0, 0), (253, .iload 4, 0, 0, 0), (255, .iconst 1, 0, 0, 0)],
  [(256, .iadd, 0, 0, 0), (257, .iaload, 0, 0, 0), (258, .aload_n 0, 0, 0, 0), (259, .iload 4, 0, 0, 0), (261, .iconst 2, 0, 0, 0), (262, .iadd, 0, 0, 0), (263, .iaload, 0, 0, 0), (264, .aload_n 3, 0, 0, 0), (265, .invokestatic 59, 126, 8, 618), (268, .istore 5, 0, 0, 0), (270, .aload_n 2, 0, 0, 0), (271, .aload_n 0, 0, 0, 0), (272, .iload 4, 0, 0, 0), (274, .iconst 1, 0, 0, 0), (275, .iadd, 0, 0, 0), (276, .iaload, 0, 0, 0), (277, .aload_n 0, 0, 0, 0), (278, .iload 4, 0, 0, 0), (280, .iconst 2, 0, 0, 0), (281, .iadd, 0, 0, 0), (282, .iaload, 0, 0, 0), (283, .invokevirtual 61, 113, 4, 921), (286, .istore 6, 0, 0, 0)],
  [(288, .goto 301, 0, 0, 0), (291, .aload_n 1, 0, 0, 0), (292, .aload_n 0, 0, 0, 0), (293, .iload 4, 0, 0, 0), (295, .iconst 1, 0, 0, 0), (296, .iadd, 0, 0, 0), (297, .iaload, 0, 0, 0), (298, .aload_n 0, 0, 0, 0), (299, .iload 4, 0, 0, 0), (301, .iconst 2, 0, 0, 0), (302, .iadd, 0, 0, 0), (303, .iaload, 0, 0, 0), (304, .aload_n 0, 0, 0, 0), (305, .iload 4, 0, 0, 0), (307, .iconst 3, 0, 0, 0), (308, .iadd, 0, 0, 0), (309, .iaload, 0, 0, 0), (310, .aload_n 3, 0, 0, 0), (311, .invokestatic 62, 127, 10, 626), (314, .istore 5, 0, 0, 0), (316, .aload_n 2, 0, 0, 0), (317, .aload_n 0, 0, 0, 0), (318, .iload 4, 0, 0, 0)],
  [(320, .iconst 1, 0, 0, 0), (321, .iadd, 0, 0, 0), (322, .iaload, 0, 0, 0), (323, .aload_n 0, 0, 0, 0), (324, .iload 4, 0, 0, 0), (326, .iconst 2, 0, 0, 0), (327, .iadd, 0, 0, 0), (328, .iaload, 0, 0, 0), (329, .aload_n 0, 0, 0, 0), (330, .iload 4, 0, 0, 0), (332, .iconst 3, 0, 0, 0), (333, .iadd, 0, 0, 0), (334, .iaload, 0, 0, 0), (335, .invokevirtual 65, 114, 6, 925), (338, .istore 6, 0, 0, 0), (340, .goto 249, 0, 0, 0), (343, .aload_n 1, 0, 0, 0), (344, .aload_n 0, 0, 0, 0), (345, .iload 4, 0, 0, 0), (347, .iconst 1, 0, 0, 0), (348, .iadd, 0, 0, 0), (349, .iaload, 0, 0, 0), (350, .aload_n 0, 0, 0, 0), (351, .iload 4, 0, 0, 0)],
  [(353, .iconst 2, 0, 0, 0), (354, .iadd, 0, 0, 0), (355, .iaload, 0, 0, 0), (356, .aload_n 0, 0, 0, 0), (357, .iload 4, 0, 0, 0), (359, .iconst 3, 0, 0, 0), (360, .iadd, 0, 0, 0), (361, .iaload, 0, 0, 0), (362, .aload_n 3, 0, 0, 0), (363, .invokestatic 66, 128, 10, 634), (366, .istore 5, 0, 0, 0), (368, .aload_n 2, 0, 0, 0), (369, .aload_n 0, 0, 0, 0), (370, .iload 4, 0, 0, 0), (372, .iconst 1, 0, 0, 0), (373, .iadd, 0, 0, 0), (374, .iaload, 0, 0, 0), (375, .aload_n 0, 0, 0, 0), (376, .iload 4, 0, 0, 0), (378, .iconst 2, 0, 0, 0), (379, .iadd, 0, 0, 0), (380, .iaload, 0, 0, 0), (381, .aload_n 0, 0, 0, 0), (382, .iload 4, 0, 0, 0)],
  [(384, .iconst 3, 0, 0, 0), (385, .iadd, 0, 0, 0), (386, .iaload, 0, 0, 0), (387, .invokevirtual 68, 115, 6, 929), (390, .istore 6, 0, 0, 0), (392, .goto 197, 0, 0, 0), (395, .aload_n 1, 0, 0, 0), (396, .aload_n 0, 0, 0, 0), (397, .iload 4, 0, 0, 0), (399, .iconst 1, 0, 0, 0), (400, .iadd, 0, 0, 0), (401, .iaload, 0, 0, 0), (402, .aload_n 0, 0, 0, 0), (403, .iload 4, 0, 0, 0), (405, .iconst 2, 0, 0, 0), (406, .iadd, 0, 0, 0), (407, .iaload, 0, 0, 0), (408, .aload_n 3, 0, 0, 0), (409, .invokestatic 69, 129, 8, 642), (412, .istore 5, 0, 0, 0), (414, .aload_n 2, 0, 0, 0), (415, .aload_n 0, 0, 0, 0)],
  [(416, .iload 4, 0, 0, 0), (418, .iconst 1, 0, 0, 0), (419, .iadd, 0, 0, 0), (420, .iaload, 0, 0, 0), (421, .aload_n 0, 0, 0, 0), (422, .iload 4, 0, 0, 0), (424, .iconst 2, 0, 0, 0), (425, .iadd, 0, 0, 0), (426, .iaload, 0, 0, 0), (427, .invokevirtual 71, 116, 4, 933), (430, .istore 6, 0, 0, 0), (432, .goto 157, 0, 0, 0), (435, .aload_n 1, 0, 0, 0), (436, .aload_n 0, 0, 0, 0), (437, .iload 4, 0, 0, 0), (439, .iconst 1, 0, 0, 0), (440, .iadd, 0, 0, 0), (441, .iaload, 0, 0, 0), (442, .aload_n 0, 0, 0, 0), (443, .iload 4, 0, 0, 0), (445, .iconst 2, 0, 0, 0), (446, .iadd, 0, 0, 0), (447, .iaload, 0, 0, 0)],
  [(448, .aload_n 3, 0, 0, 0), (449, .invokestatic 72, 130, 8, 661), (452, .istore 5, 0, 0, 0), (454, .aload_n 2, 0, 0, 0), (455, .aload_n 0, 0, 0, 0), (456, .iload 4, 0, 0, 0), (458, .iconst 1, 0, 0, 0), (459, .iadd, 0, 0, 0), (460, .iaload, 0, 0, 0), (461, .aload_n 0, 0, 0, 0), (462, .iload 4, 0, 0, 0), (464, .iconst 2, 0, 0, 0), (465, .iadd, 0, 0, 0), (466, .iaload, 0, 0, 0), (467, .invokevirtual 74, 117, 4, 937), (470, .istore 6, 0, 0, 0), (472, .goto 117, 0, 0, 0), (475, .aload_n 1, 0, 0, 0), (476, .invokevirtual 75, 65, 0, 276), (479, .pop, 0, 0, 0)],
  [(480, .aload_n 2, 0, 0, 0), (481, .invokevirtual 78, 118, 0, 941), (484, .pop, 0, 0, 0), (485, .goto 104, 0, 0, 0), (488, .aload_n 1, 0, 0, 0), (489, .aload_n 0, 0, 0, 0), (490, .iload 4, 0, 0, 0), (492, .iconst 1, 0, 0, 0), (493, .iadd, 0, 0, 0), (494, .iaload, 0, 0, 0), (495, .invokevirtual 79, 66, 2, 284), (498, .pop, 0, 0, 0), (499, .aload_n 2, 0, 0, 0), (500, .aload_n 0, 0, 0, 0), (501, .iload 4, 0, 0, 0), (503, .iconst 1, 0, 0, 0), (504, .iadd, 0, 0, 0), (505, .iaload, 0, 0, 0), (506, .invokevirtual 83, 119, 2, 945), (509, .pop, 0, 0, 0), (510, .goto 79, 0, 0, 0)],
  [(513, .aload_n 1, 0, 0, 0), (514, .aload_n 0, 0, 0, 0), (515, .iload 4, 0, 0, 0), (517, .iconst 1, 0, 0, 0), (518, .iadd, 0, 0, 0), (519, .iaload, 0, 0, 0), (520, .invokevirtual 84, 67, 2, 293), (523, .pop, 0, 0, 0), (524, .aload_n 2, 0, 0, 0), (525, .aload_n 0, 0, 0, 0), (526, .iload 4, 0, 0, 0), (528, .iconst 1, 0, 0, 0), (529, .iadd, 0, 0, 0), (530, .iaload, 0, 0, 0), (531, .invokevirtual 88, 120, 2, 949), (534, .pop, 0, 0, 0), (535, .goto 54, 0, 0, 0), (538, .aload_n 1, 0, 0, 0), (539, .aload_n 0, 0, 0, 0), (540, .iload 4, 0, 0, 0), (542, .iconst 1, 0, 0, 0), (543, .iadd, 0, 0, 0)],
  [(544, .iaload, 0, 0, 0), (545, .invokevirtual 89, 68, 2, 313), (548, .pop, 0, 0, 0), (549, .aload_n 2, 0, 0, 0), (550, .aload_n 0, 0, 0, 0), (551, .iload 4, 0, 0, 0), (553, .iconst 1, 0, 0, 0), (554, .iadd, 0, 0, 0), (555, .iaload, 0, 0, 0), (556, .invokevirtual 92, 121, 2, 953), (559, .pop, 0, 0, 0), (560, .goto 29, 0, 0, 0), (563, .aload_n 1, 0, 0, 0), (564, .invokevirtual 93, 69, 0, 321), (567, .aload_n 2, 0, 0, 0), (568, .invokevirtual 96, 123, 0, 957), (571, .if_icmp .eq 18, 0, 0, 0), (574, .iconst 0, 0, 0, 0), (575, .ireturn, 0, 0, 0)],
  [(576, .aload_n 1, 0, 0, 0), (577, .invokevirtual 97, 70, 0, 447), (580, .pop, 0, 0, 0), (581, .aload_n 2, 0, 0, 0), (582, .invokevirtual 100, 124, 0, 966), (585, .pop, 0, 0, 0), (586, .goto 3, 0, 0, 0), (589, .iinc 4 4, 0, 0, 0), (592, .goto (-569), 0, 0, 0), (595, .iconst 1, 0, 0, 0), (596, .ireturn, 0, 0, 0)]]
def am_code : Nat → List (List (Nat × am_I)) := fun k => match k with
  | 0 => am_c0
  | 1 => am_c1
  | 2 => am_c2
  | 3 => am_c3
  | 4 => am_c4
  | 5 => am_c5
  | 6 => am_c6
  | 7 => am_c7
  | 8 => am_c8
  | 9 => am_c9
  | 10 => am_c10
  | 11 => am_c11
  | 12 => am_c12
  | 13 => am_c13
  | 14 => am_c14
  | 15 => am_c15
  | 16 => am_c16
  | 17 => am_c17
  | 18 => am_c18
  | 19 => am_c19
  | 20 => am_c20
  | 21 => am_c21
  | 22 => am_c22
  | 23 => am_c23
  | 24 => am_c24
  | 25 => am_c25
  | 26 => am_c26
  | 27 => am_c27
  | 28 => am_c28
  | 29 => am_c29
  | 30 => am_c30
  | 31 => am_c31
  | 32 => am_c32
  | 33 => am_c33
  | 34 => am_c34
  | 35 => am_c35
  | 36 => am_c36
  | 37 => am_c37
  | 38 => am_c38
  | 39 => am_c39
  | 40 => am_c40
  | 41 => am_c41
  | 42 => am_c42
  | 43 => am_c43
  | 44 => am_c44
  | 45 => am_c45
  | 46 => am_c46
  | 47 => am_c47
  | 48 => am_c48
  | 49 => am_c49
  | 50 => am_c50
  | 51 => am_c51
  | 52 => am_c52
  | 53 => am_c53
  | 54 => am_c54
  | 55 => am_c55
  | 56 => am_c56
  | 57 => am_c57
  | 58 => am_c58
  | 59 => am_c59
  | 60 => am_c60
  | 61 => am_c61
  | 62 => am_c62
  | 63 => am_c63
  | 64 => am_c64
  | 65 => am_c65
  | 66 => am_c66
  | 67 => am_c67
  | 68 => am_c68
  | 69 => am_c69
  | 70 => am_c70
  | 71 => am_c71
  | 72 => am_c72
  | 73 => am_c73
  | 74 => am_c74
  | 75 => am_c75
  | 76 => am_c76
  | 77 => am_c77
  | 78 => am_c78
  | 79 => am_c79
  | 80 => am_c80
  | 81 => am_c81
  | 82 => am_c82
  | 83 => am_c83
  | 84 => am_c84
  | 85 => am_c85
  | 86 => am_c86
  | 87 => am_c87
  | 88 => am_c88
  | 89 => am_c89
  | 90 => am_c90
  | 91 => am_c91
  | 92 => am_c92
  | 93 => am_c93
  | 94 => am_c94
  | 95 => am_c95
  | 96 => am_c96
  | 97 => am_c97
  | 98 => am_c98
  | 99 => am_c99
  | 100 => am_c100
  | 101 => am_c101
  | 102 => am_c102
  | 103 => am_c103
  | 104 => am_c104
  | 105 => am_c105
  | 106 => am_c106
  | 107 => am_c107
  | 108 => am_c108
  | 109 => am_c109
  | 110 => am_c110
  | 111 => am_c111
  | 112 => am_c112
  | 113 => am_c113
  | 114 => am_c114
  | 115 => am_c115
  | 116 => am_c116
  | 117 => am_c117
  | 118 => am_c118
  | 119 => am_c119
  | 120 => am_c120
  | 121 => am_c121
  | 122 => am_c122
  | 123 => am_c123
  | 124 => am_c124
  | 125 => am_c125
  | 126 => am_c126
  | 127 => am_c127
  | 128 => am_c128
  | 129 => am_c129
  | 130 => am_c130
  | 131 => am_c131
  | _ => []
def am_nm : Nat := 132
/-- the throws: method, pc, class link, string, constructor, class, text -/
def am_thr : List (Nat × Nat × Nat × Nat × Nat × Nat × String × Nat) := [(10, 21, 70, 72, 74, 1, "what should be a type is none", 508),
  (11, 27, 70, 77, 74, 1, "no type of this variable is known", 508),
  (14, 25, 70, 101, 74, 1, "what is applied is no function", 508),
  (14, 58, 70, 107, 74, 1, "a function is applied to another type than its own", 508),
  (15, 16, 109, 111, 113, 2, "too many variables are bound", 574),
  (16, 11, 109, 118, 113, 2, "a type is too large", 574),
  (40, 14, 71, 73, 75, 2, "too many nodes in one call", 359),
  (48, 36, 40, 42, 44, 2, "one reduction more than fuel", 553),
  (48, 147, 40, 75, 44, 2, "a reduction's term is too large", 553),
  (48, 173, 40, 77, 44, 2, "too many reductions", 553),
  (54, 17, 40, 101, 44, 2, "too many pairs in one comparison", 553),
  (73, 32, 157, 159, 161, 0, "no such term, or no such fuel", 469)]
def am_G : Nat := 40
def am_M : Nat := 131
