def R_Ba : String := "SignSolids$Ball"
def R_Bo : String := "SignSolids$Body"
def R_Bx : String := "SignSolids$Box"
def R_Fl : String := "SignSolids$Flood"
def R_Fo : String := "SignSolids$Form"
def R_Pa : String := "SignSolids$Pair"
def R_Pl : String := "SignSolids$Placed"
def R_Pn : String := "SignSolids$Plane"
def R_Rd : String := "SignSolids$Reader"
def R_Sh : String := "SignSolids$Sheet"
def R_Tp : String := "SignSolids$Tape"
def R_So : String := "SignSolids"
def R_Mo : String := "SignSolidsModel"
def R_La : String := "SignSolidsLaw"
def R_In : String := "java/lang/Integer"
def R_Ma : String := "java/lang/Math"
def R_St : String := "java/lang/String"
def R_S1 : String := "java/lang/StringLatin1"
def R_S2 : String := "java/lang/StringUTF16"
def R_Pr : String := "jdk/internal/util/Preconditions"
def F_Ba : u_T := fun k => match k with
  | 0 => ("SignSolids$Ball", "x", "I", true)
  | 1 => ("SignSolids$Ball", "y", "I", true)
  | 2 => ("SignSolids$Ball", "z", "I", true)
  | _ => ("SignSolids$Ball", "\x72", "I", true)
def t_Ba : Nat → FieldType := fun k => match k with
  | 0 => .int
  | 1 => .int
  | 2 => .int
  | _ => .int
theorem n_Ba : ∀ a, a < 4 → ∀ b, b < 4 → a ≠ b → (F_Ba a).2.1 ≠ (F_Ba b).2.1 := by decide +kernel
theorem t_Ba_ok : ∀ k, k < 4 → parseFieldDescriptor (F_Ba k).2.2.1 = some (t_Ba k) := by decide +kernel
def F_Bo : u_T := fun k => match k with
  | 0 => ("SignSolids$Body", "form", "LSignSolids$Form;", true)
  | 1 => ("SignSolids$Body", "texts", "I", true)
  | 2 => ("SignSolids$Body", "rows", "[I", true)
  | 3 => ("SignSolids$Body", "painted", "Z", false)
  | 4 => ("SignSolids$Body", "partings", "[I", true)
  | _ => ("SignSolids$Body", "isParted", "Z", false)
def t_Bo : Nat → FieldType := fun k => match k with
  | 0 => .object "SignSolids$Form"
  | 1 => .int
  | 2 => .array .int
  | 3 => .boolean
  | 4 => .array .int
  | _ => .boolean
theorem n_Bo : ∀ a, a < 6 → ∀ b, b < 6 → a ≠ b → (F_Bo a).2.1 ≠ (F_Bo b).2.1 := by decide +kernel
theorem t_Bo_ok : ∀ k, k < 6 → parseFieldDescriptor (F_Bo k).2.2.1 = some (t_Bo k) := by decide +kernel
def F_Bx : u_T := fun k => match k with
  | 0 => ("SignSolids$Box", "x", "I", true)
  | 1 => ("SignSolids$Box", "y", "I", true)
  | 2 => ("SignSolids$Box", "z", "I", true)
  | 3 => ("SignSolids$Box", "u", "I", true)
  | 4 => ("SignSolids$Box", "v", "I", true)
  | _ => ("SignSolids$Box", "w", "I", true)
def t_Bx : Nat → FieldType := fun k => match k with
  | 0 => .int
  | 1 => .int
  | 2 => .int
  | 3 => .int
  | 4 => .int
  | _ => .int
theorem n_Bx : ∀ a, a < 6 → ∀ b, b < 6 → a ≠ b → (F_Bx a).2.1 ≠ (F_Bx b).2.1 := by decide +kernel
theorem t_Bx_ok : ∀ k, k < 6 → parseFieldDescriptor (F_Bx k).2.2.1 = some (t_Bx k) := by decide +kernel
def F_Fl : u_T := fun k => match k with
  | 0 => ("SignSolids$Flood", "left", "[I", true)
  | 1 => ("SignSolids$Flood", "leastRow", "I", false)
  | 2 => ("SignSolids$Flood", "pending", "[I", true)
  | 3 => ("SignSolids$Flood", "stack", "[I", true)
  | 4 => ("SignSolids$Flood", "stacked", "I", false)
  | 5 => ("SignSolids$Flood", "pieceSize", "I", false)
  | _ => ("SignSolids$Flood", "pieceAtEnd", "Z", false)
def t_Fl : Nat → FieldType := fun k => match k with
  | 0 => .array .int
  | 1 => .int
  | 2 => .array .int
  | 3 => .array .int
  | 4 => .int
  | 5 => .int
  | _ => .boolean
theorem n_Fl : ∀ a, a < 7 → ∀ b, b < 7 → a ≠ b → (F_Fl a).2.1 ≠ (F_Fl b).2.1 := by decide +kernel
theorem t_Fl_ok : ∀ k, k < 7 → parseFieldDescriptor (F_Fl k).2.2.1 = some (t_Fl k) := by decide +kernel
def F_Fo : u_T := fun k => match k with
  | _ => ("", "", "", false)
def t_Fo : Nat → FieldType := fun k => match k with
  | _ => .int
theorem n_Fo : ∀ a, a < 0 → ∀ b, b < 0 → a ≠ b → (F_Fo a).2.1 ≠ (F_Fo b).2.1 := by decide +kernel
theorem t_Fo_ok : ∀ k, k < 0 → parseFieldDescriptor (F_Fo k).2.2.1 = some (t_Fo k) := by decide +kernel
def F_Pa : u_T := fun k => match k with
  | 0 => ("SignSolids$Pair", "kind", "I", true)
  | 1 => ("SignSolids$Pair", "first", "LSignSolids$Form;", true)
  | _ => ("SignSolids$Pair", "second", "LSignSolids$Form;", true)
def t_Pa : Nat → FieldType := fun k => match k with
  | 0 => .int
  | 1 => .object "SignSolids$Form"
  | _ => .object "SignSolids$Form"
theorem n_Pa : ∀ a, a < 3 → ∀ b, b < 3 → a ≠ b → (F_Pa a).2.1 ≠ (F_Pa b).2.1 := by decide +kernel
theorem t_Pa_ok : ∀ k, k < 3 → parseFieldDescriptor (F_Pa k).2.2.1 = some (t_Pa k) := by decide +kernel
def F_Pl : u_T := fun k => match k with
  | 0 => ("SignSolids$Placed", "kind", "I", true)
  | 1 => ("SignSolids$Placed", "x", "I", true)
  | 2 => ("SignSolids$Placed", "y", "I", true)
  | 3 => ("SignSolids$Placed", "z", "I", true)
  | _ => ("SignSolids$Placed", "inner", "LSignSolids$Form;", true)
def t_Pl : Nat → FieldType := fun k => match k with
  | 0 => .int
  | 1 => .int
  | 2 => .int
  | 3 => .int
  | _ => .object "SignSolids$Form"
theorem n_Pl : ∀ a, a < 5 → ∀ b, b < 5 → a ≠ b → (F_Pl a).2.1 ≠ (F_Pl b).2.1 := by decide +kernel
theorem t_Pl_ok : ∀ k, k < 5 → parseFieldDescriptor (F_Pl k).2.2.1 = some (t_Pl k) := by decide +kernel
def F_Pn : u_T := fun k => match k with
  | 0 => ("SignSolids$Plane", "a", "I", true)
  | 1 => ("SignSolids$Plane", "b", "I", true)
  | 2 => ("SignSolids$Plane", "c", "I", true)
  | _ => ("SignSolids$Plane", "d", "I", true)
def t_Pn : Nat → FieldType := fun k => match k with
  | 0 => .int
  | 1 => .int
  | 2 => .int
  | _ => .int
theorem n_Pn : ∀ a, a < 4 → ∀ b, b < 4 → a ≠ b → (F_Pn a).2.1 ≠ (F_Pn b).2.1 := by decide +kernel
theorem t_Pn_ok : ∀ k, k < 4 → parseFieldDescriptor (F_Pn k).2.2.1 = some (t_Pn k) := by decide +kernel
def F_Rd : u_T := fun k => match k with
  | 0 => ("SignSolids$Reader", "tape", "LSignSolids$Tape;", true)
  | 1 => ("SignSolids$Reader", "place", "I", false)
  | 2 => ("SignSolids$Reader", "token", "I", false)
  | 3 => ("SignSolids$Reader", "tokenPlace", "I", false)
  | 4 => ("SignSolids$Reader", "tokenValue", "I", false)
  | 5 => ("SignSolids$Reader", "texts", "I", false)
  | 6 => ("SignSolids$Reader", "fault", "I", false)
  | _ => ("SignSolids$Reader", "faultPlace", "I", false)
def t_Rd : Nat → FieldType := fun k => match k with
  | 0 => .object "SignSolids$Tape"
  | 1 => .int
  | 2 => .int
  | 3 => .int
  | 4 => .int
  | 5 => .int
  | 6 => .int
  | _ => .int
theorem n_Rd : ∀ a, a < 8 → ∀ b, b < 8 → a ≠ b → (F_Rd a).2.1 ≠ (F_Rd b).2.1 := by decide +kernel
theorem t_Rd_ok : ∀ k, k < 8 → parseFieldDescriptor (F_Rd k).2.2.1 = some (t_Rd k) := by decide +kernel
def F_Sh : u_T := fun k => match k with
  | 0 => ("SignSolids$Sheet", "cells", "[I", true)
  | 1 => ("SignSolids$Sheet", "lane", "I", false)
  | _ => ("SignSolids$Sheet", "size", "I", false)
def t_Sh : Nat → FieldType := fun k => match k with
  | 0 => .array .int
  | 1 => .int
  | _ => .int
theorem n_Sh : ∀ a, a < 3 → ∀ b, b < 3 → a ≠ b → (F_Sh a).2.1 ≠ (F_Sh b).2.1 := by decide +kernel
theorem t_Sh_ok : ∀ k, k < 3 → parseFieldDescriptor (F_Sh k).2.2.1 = some (t_Sh k) := by decide +kernel
def F_Tp : u_T := fun k => match k with
  | 0 => ("SignSolids$Tape", "bytes", "[B", true)
  | _ => ("SignSolids$Tape", "length", "I", false)
def t_Tp : Nat → FieldType := fun k => match k with
  | 0 => .array .byte
  | _ => .int
theorem n_Tp : ∀ a, a < 2 → ∀ b, b < 2 → a ≠ b → (F_Tp a).2.1 ≠ (F_Tp b).2.1 := by decide +kernel
theorem t_Tp_ok : ∀ k, k < 2 → parseFieldDescriptor (F_Tp k).2.2.1 = some (t_Tp k) := by decide +kernel
def F_So : u_T := fun k => match k with
  | 0 => ("SignSolids", "tape", "LSignSolids$Tape;", true)
  | 1 => ("SignSolids", "reader", "LSignSolids$Reader;", true)
  | 2 => ("SignSolids", "bodies", "[LSignSolids$Body;", true)
  | 3 => ("SignSolids", "bodyCount", "I", false)
  | 4 => ("SignSolids", "latestFault", "I", false)
  | 5 => ("SignSolids", "flood", "LSignSolids$Flood;", true)
  | _ => ("SignSolids", "sheets", "[LSignSolids$Sheet;", true)
def t_So : Nat → FieldType := fun k => match k with
  | 0 => .object "SignSolids$Tape"
  | 1 => .object "SignSolids$Reader"
  | 2 => .array (.object "SignSolids$Body")
  | 3 => .int
  | 4 => .int
  | 5 => .object "SignSolids$Flood"
  | _ => .array (.object "SignSolids$Sheet")
theorem n_So : ∀ a, a < 7 → ∀ b, b < 7 → a ≠ b → (F_So a).2.1 ≠ (F_So b).2.1 := by decide +kernel
theorem t_So_ok : ∀ k, k < 7 → parseFieldDescriptor (F_So k).2.2.1 = some (t_So k) := by decide +kernel
def F_Mo : u_T := fun k => match k with
  | 0 => ("SignSolidsModel", "bodies", "I", false)
  | 1 => ("SignSolidsModel", "ruleMany", "[I", true)
  | 2 => ("SignSolidsModel", "kind", "[I", true)
  | 3 => ("SignSolidsModel", "above", "[I", true)
  | 4 => ("SignSolidsModel", "numbers", "[I", true)
  | 5 => ("SignSolidsModel", "tape", "[I", true)
  | 6 => ("SignSolidsModel", "taped", "I", false)
  | 7 => ("SignSolidsModel", "fault", "I", false)
  | 8 => ("SignSolidsModel", "wrong", "I", false)
  | 9 => ("SignSolidsModel", "wrongAt", "I", false)
  | 10 => ("SignSolidsModel", "at", "I", false)
  | 11 => ("SignSolidsModel", "place", "I", false)
  | 12 => ("SignSolidsModel", "token", "I", false)
  | 13 => ("SignSolidsModel", "value", "I", false)
  | 14 => ("SignSolidsModel", "wanted", "[I", true)
  | 15 => ("SignSolidsModel", "standing", "[I", true)
  | 16 => ("SignSolidsModel", "fromX", "[J", true)
  | 17 => ("SignSolidsModel", "toX", "[J", true)
  | 18 => ("SignSolidsModel", "fromY", "[J", true)
  | 19 => ("SignSolidsModel", "toY", "[J", true)
  | 20 => ("SignSolidsModel", "fromZ", "[J", true)
  | 21 => ("SignSolidsModel", "toZ", "[J", true)
  | 22 => ("SignSolidsModel", "pileLow", "[J", true)
  | 23 => ("SignSolidsModel", "pileHigh", "[J", true)
  | 24 => ("SignSolidsModel", "low", "J", false)
  | 25 => ("SignSolidsModel", "high", "J", false)
  | 26 => ("SignSolidsModel", "waits", "[I", true)
  | 27 => ("SignSolidsModel", "waiting", "I", false)
  | 28 => ("SignSolidsModel", "leaves", "I", false)
  | 29 => ("SignSolidsModel", "leavesIn", "I", false)
  | 30 => ("SignSolidsModel", "pointsIn", "I", false)
  | 31 => ("SignSolidsModel", "deepest", "I", false)
  | 32 => ("SignSolidsModel", "asked", "I", false)
  | 33 => ("SignSolidsModel", "within", "[Z", true)
  | 34 => ("SignSolidsModel", "other", "[Z", true)
  | 35 => ("SignSolidsModel", "edges", "[I", true)
  | 36 => ("SignSolidsModel", "corners", "[Z", true)
  | 37 => ("SignSolidsModel", "partOf", "[I", true)
  | 38 => ("SignSolidsModel", "row", "[I", true)
  | 39 => ("SignSolidsModel", "partMany", "I", false)
  | 40 => ("SignSolidsModel", "greatest", "I", false)
  | 41 => ("SignSolidsModel", "hollowMany", "I", false)
  | 42 => ("SignSolidsModel", "hollowPoints", "I", false)
  | 43 => ("SignSolidsModel", "lanes", "[I", true)
  | 44 => ("SignSolidsModel", "lengths", "[I", true)
  | _ => ("SignSolidsModel", "cells", "[I", true)
def t_Mo : Nat → FieldType := fun k => match k with
  | 0 => .int
  | 1 => .array .int
  | 2 => .array .int
  | 3 => .array .int
  | 4 => .array .int
  | 5 => .array .int
  | 6 => .int
  | 7 => .int
  | 8 => .int
  | 9 => .int
  | 10 => .int
  | 11 => .int
  | 12 => .int
  | 13 => .int
  | 14 => .array .int
  | 15 => .array .int
  | 16 => .array .long
  | 17 => .array .long
  | 18 => .array .long
  | 19 => .array .long
  | 20 => .array .long
  | 21 => .array .long
  | 22 => .array .long
  | 23 => .array .long
  | 24 => .long
  | 25 => .long
  | 26 => .array .int
  | 27 => .int
  | 28 => .int
  | 29 => .int
  | 30 => .int
  | 31 => .int
  | 32 => .int
  | 33 => .array .boolean
  | 34 => .array .boolean
  | 35 => .array .int
  | 36 => .array .boolean
  | 37 => .array .int
  | 38 => .array .int
  | 39 => .int
  | 40 => .int
  | 41 => .int
  | 42 => .int
  | 43 => .array .int
  | 44 => .array .int
  | _ => .array .int
theorem n_Mo : ∀ a, a < 46 → ∀ b, b < 46 → a ≠ b → (F_Mo a).2.1 ≠ (F_Mo b).2.1 := by decide +kernel
theorem t_Mo_ok : ∀ k, k < 46 → parseFieldDescriptor (F_Mo k).2.2.1 = some (t_Mo k) := by decide +kernel
abbrev b_So_init : ByteArray := prog_1_method_1_code
def y_So_init : MethodName := ⟨R_So, "<init>", "()V"⟩
abbrev b_Tp_init : ByteArray := prog_12_method_1_code
def y_Tp_init : MethodName := ⟨R_Tp, "<init>", "()V"⟩
abbrev b_Rd_init : ByteArray := prog_10_method_1_code
def y_Rd_init : MethodName := ⟨R_Rd, "<init>", "(LSignSolids$Tape;)V"⟩
abbrev b_Fl_init : ByteArray := prog_5_method_1_code
def y_Fl_init : MethodName := ⟨R_Fl, "<init>", "()V"⟩
abbrev b_Sh_init : ByteArray := prog_11_method_1_code
def y_Sh_init : MethodName := ⟨R_Sh, "<init>", "()V"⟩
abbrev b_So_feed : ByteArray := prog_1_method_2_code
def y_So_feed : MethodName := ⟨R_So, "feed", "(J)I"⟩
abbrev b_Tp_append : ByteArray := prog_12_method_2_code
def y_Tp_append : MethodName := ⟨R_Tp, "append", "(J)Z"⟩
abbrev b_So_end : ByteArray := prog_1_method_3_code
def y_So_end : MethodName := ⟨R_So, "end", "(I)I"⟩
abbrev b_Tp_shorten : ByteArray := prog_12_method_3_code
def y_Tp_shorten : MethodName := ⟨R_Tp, "shorten", "(I)Z"⟩
abbrev b_So_body : ByteArray := prog_1_method_4_code
def y_So_body : MethodName := ⟨R_So, "body", "()I"⟩
abbrev b_Rd_read : ByteArray := prog_10_method_2_code
def y_Rd_read : MethodName := ⟨R_Rd, "read", "()LSignSolids$Form;"⟩
abbrev b_Rd_readToken : ByteArray := prog_10_method_9_code
def y_Rd_readToken : MethodName := ⟨R_Rd, "readToken", "()V"⟩
abbrev b_Tp_byteAt : ByteArray := prog_12_method_4_code
def y_Tp_byteAt : MethodName := ⟨R_Tp, "byteAt", "(I)I"⟩
abbrev b_Rd_isLetter : ByteArray := prog_10_method_13_code
def y_Rd_isLetter : MethodName := ⟨R_Rd, "isLetter", "(I)Z"⟩
abbrev b_Rd_readName : ByteArray := prog_10_method_10_code
def y_Rd_readName : MethodName := ⟨R_Rd, "readName", "()V"⟩
abbrev b_Rd_nameOf : ByteArray := prog_10_method_12_code
def y_Rd_nameOf : MethodName := ⟨R_Rd, "nameOf", "(I)Ljava/lang/String;"⟩
abbrev b_St_length : ByteArray := prog_17_method_54_code
def y_St_length : MethodName := ⟨R_St, "length", "()I"⟩
abbrev b_St_coder : ByteArray := prog_17_method_152_code
def y_St_coder : MethodName := ⟨R_St, "coder", "()B"⟩
abbrev b_St_charAt : ByteArray := prog_17_method_56_code
def y_St_charAt : MethodName := ⟨R_St, "charAt", "(I)C"⟩
abbrev b_St_isLatin1 : ByteArray := prog_17_method_154_code
def y_St_isLatin1 : MethodName := ⟨R_St, "isLatin1", "()Z"⟩
abbrev b_S1_charAt : ByteArray := prog_18_method_2_code
def y_S1_charAt : MethodName := ⟨R_S1, "charAt", "([BI)C"⟩
abbrev b_St_checkIndex : ByteArray := prog_17_method_155_code
def y_St_checkIndex : MethodName := ⟨R_St, "checkIndex", "(II)V"⟩
abbrev b_Pr_checkIndex : ByteArray := prog_20_method_11_code
def y_Pr_checkIndex : MethodName := ⟨R_Pr, "checkIndex", "(IILjava/util/function/BiFunction;)I"⟩
abbrev b_S2_charAt : ByteArray := prog_19_method_83_code
def y_S2_charAt : MethodName := ⟨R_S2, "charAt", "([BI)C"⟩
abbrev b_S2_checkIndex : ByteArray := prog_19_method_91_code
def y_S2_checkIndex : MethodName := ⟨R_S2, "checkIndex", "(I[B)V"⟩
abbrev b_S2_length : ByteArray := prog_19_method_6_code
def y_S2_length : MethodName := ⟨R_S2, "length", "([B)I"⟩
abbrev b_S2_getChar : ByteArray := prog_19_method_5_code
def y_S2_getChar : MethodName := ⟨R_S2, "getChar", "([BI)C"⟩
abbrev b_Rd_fail : ByteArray := prog_10_method_15_code
def y_Rd_fail : MethodName := ⟨R_Rd, "fail", "(II)V"⟩
abbrev b_Rd_isFigure : ByteArray := prog_10_method_14_code
def y_Rd_isFigure : MethodName := ⟨R_Rd, "isFigure", "(I)Z"⟩
abbrev b_Rd_readFigures : ByteArray := prog_10_method_11_code
def y_Rd_readFigures : MethodName := ⟨R_Rd, "readFigures", "()V"⟩
abbrev b_Rd_readText : ByteArray := prog_10_method_3_code
def y_Rd_readText : MethodName := ⟨R_Rd, "readText", "(I)LSignSolids$Form;"⟩
abbrev b_Rd_numberCount : ByteArray := prog_10_method_4_code
def y_Rd_numberCount : MethodName := ⟨R_Rd, "numberCount", "(I)I"⟩
abbrev b_Rd_leastNumber : ByteArray := prog_10_method_5_code
def y_Rd_leastNumber : MethodName := ⟨R_Rd, "leastNumber", "(II)I"⟩
abbrev b_Rd_readNumber : ByteArray := prog_10_method_8_code
def y_Rd_readNumber : MethodName := ⟨R_Rd, "readNumber", "(II)I"⟩
abbrev b_Rd_isPair : ByteArray := prog_10_method_6_code
def y_Rd_isPair : MethodName := ⟨R_Rd, "isPair", "(I)Z"⟩
abbrev b_Rd_formOf : ByteArray := prog_10_method_7_code
def y_Rd_formOf : MethodName := ⟨R_Rd, "formOf", "(I[ILSignSolids$Form;LSignSolids$Form;)LSignSolids$Form;"⟩
abbrev b_Ba_init : ByteArray := prog_2_method_1_code
def y_Ba_init : MethodName := ⟨R_Ba, "<init>", "(IIII)V"⟩
abbrev b_Fo_init : ByteArray := prog_6_method_1_code
def y_Fo_init : MethodName := ⟨R_Fo, "<init>", "()V"⟩
abbrev b_Bx_init : ByteArray := prog_4_method_1_code
def y_Bx_init : MethodName := ⟨R_Bx, "<init>", "(IIIIII)V"⟩
abbrev b_Pn_init : ByteArray := prog_9_method_1_code
def y_Pn_init : MethodName := ⟨R_Pn, "<init>", "(IIII)V"⟩
abbrev b_Pa_init : ByteArray := prog_7_method_1_code
def y_Pa_init : MethodName := ⟨R_Pa, "<init>", "(ILSignSolids$Form;LSignSolids$Form;)V"⟩
abbrev b_Pl_init : ByteArray := prog_8_method_1_code
def y_Pl_init : MethodName := ⟨R_Pl, "<init>", "(IIIILSignSolids$Form;)V"⟩
abbrev b_Bo_init : ByteArray := prog_3_method_1_code
def y_Bo_init : MethodName := ⟨R_Bo, "<init>", "(LSignSolids$Form;I)V"⟩
abbrev b_So_fault : ByteArray := prog_1_method_5_code
def y_So_fault : MethodName := ⟨R_So, "fault", "()I"⟩
abbrev b_So_drop : ByteArray := prog_1_method_6_code
def y_So_drop : MethodName := ⟨R_So, "drop", "()I"⟩
abbrev b_So_rule : ByteArray := prog_1_method_7_code
def y_So_rule : MethodName := ⟨R_So, "rule", "(IIII)I"⟩
abbrev b_So_bodyNumber : ByteArray := prog_1_method_24_code
def y_So_bodyNumber : MethodName := ⟨R_So, "bodyNumber", "(I)LSignSolids$Body;"⟩
abbrev b_So_isNear : ByteArray := prog_1_method_31_code
def y_So_isNear : MethodName := ⟨R_So, "isNear", "(II)Z"⟩
abbrev b_So_isBetween : ByteArray := prog_1_method_30_code
def y_So_isBetween : MethodName := ⟨R_So, "isBetween", "(III)Z"⟩
abbrev b_Ba_valueAt : ByteArray := prog_2_method_2_code
def y_Ba_valueAt : MethodName := ⟨R_Ba, "valueAt", "(III)I"⟩
abbrev b_Bx_valueAt : ByteArray := prog_4_method_2_code
def y_Bx_valueAt : MethodName := ⟨R_Bx, "valueAt", "(III)I"⟩
abbrev b_Ma_max : ByteArray := prog_16_method_65_code
def y_Ma_max : MethodName := ⟨R_Ma, "max", "(II)I"⟩
abbrev b_Pa_valueAt : ByteArray := prog_7_method_2_code
def y_Pa_valueAt : MethodName := ⟨R_Pa, "valueAt", "(III)I"⟩
abbrev b_Pl_valueAt : ByteArray := prog_8_method_2_code
def y_Pl_valueAt : MethodName := ⟨R_Pl, "valueAt", "(III)I"⟩
abbrev b_Pn_valueAt : ByteArray := prog_9_method_2_code
def y_Pn_valueAt : MethodName := ⟨R_Pn, "valueAt", "(III)I"⟩
abbrev b_Pl_modulo : ByteArray := prog_8_method_5_code
def y_Pl_modulo : MethodName := ⟨R_Pl, "modulo", "(I)I"⟩
abbrev b_Ma_floorMod : ByteArray := prog_16_method_50_code
def y_Ma_floorMod : MethodName := ⟨R_Ma, "floorMod", "(II)I"⟩
abbrev b_Pa_joined : ByteArray := prog_7_method_4_code
def y_Pa_joined : MethodName := ⟨R_Pa, "joined", "(II)I"⟩
abbrev b_Ma_min : ByteArray := prog_16_method_69_code
def y_Ma_min : MethodName := ⟨R_Ma, "min", "(II)I"⟩
abbrev b_So_span : ByteArray := prog_1_method_8_code
def y_So_span : MethodName := ⟨R_So, "span", "(IIIIIIIZ)I"⟩
abbrev b_So_isPoint : ByteArray := prog_1_method_32_code
def y_So_isPoint : MethodName := ⟨R_So, "isPoint", "(III)Z"⟩
abbrev b_Ba_bound : ByteArray := prog_2_method_3_code
def y_Ba_bound : MethodName := ⟨R_Ba, "bound", "(IIIIIIZ)I"⟩
abbrev b_Ba_squareBound : ByteArray := prog_2_method_4_code
def y_Ba_squareBound : MethodName := ⟨R_Ba, "squareBound", "(IIZ)I"⟩
abbrev b_Bx_bound : ByteArray := prog_4_method_3_code
def y_Bx_bound : MethodName := ⟨R_Bx, "bound", "(IIIIIIZ)I"⟩
abbrev b_Pa_bound : ByteArray := prog_7_method_3_code
def y_Pa_bound : MethodName := ⟨R_Pa, "bound", "(IIIIIIZ)I"⟩
abbrev b_Pl_bound : ByteArray := prog_8_method_3_code
def y_Pl_bound : MethodName := ⟨R_Pl, "bound", "(IIIIIIZ)I"⟩
abbrev b_Pn_bound : ByteArray := prog_9_method_3_code
def y_Pn_bound : MethodName := ⟨R_Pn, "bound", "(IIIIIIZ)I"⟩
abbrev b_Pl_repeatedBound : ByteArray := prog_8_method_4_code
def y_Pl_repeatedBound : MethodName := ⟨R_Pl, "repeatedBound", "(IIIIIIZ)I"⟩
abbrev b_So_parted : ByteArray := prog_1_method_9_code
def y_So_parted : MethodName := ⟨R_So, "parted", "(II)I"⟩
abbrev b_Bo_partedNumber : ByteArray := prog_3_method_9_code
def y_Bo_partedNumber : MethodName := ⟨R_Bo, "partedNumber", "(I)I"⟩
abbrev b_Bo_partBlock : ByteArray := prog_3_method_10_code
def y_Bo_partBlock : MethodName := ⟨R_Bo, "partBlock", "(IIIIIII)V"⟩
abbrev b_Bo_partInTwos : ByteArray := prog_3_method_11_code
def y_Bo_partInTwos : MethodName := ⟨R_Bo, "partInTwos", "(IIIIIII)V"⟩
abbrev b_So_volume : ByteArray := prog_1_method_10_code
def y_So_volume : MethodName := ⟨R_So, "volume", "(I)I"⟩
abbrev b_So_paintedBody : ByteArray := prog_1_method_25_code
def y_So_paintedBody : MethodName := ⟨R_So, "paintedBody", "(I)LSignSolids$Body;"⟩
abbrev b_Bo_paint : ByteArray := prog_3_method_3_code
def y_Bo_paint : MethodName := ⟨R_Bo, "paint", "()V"⟩
abbrev b_Bo_size : ByteArray := prog_3_method_5_code
def y_Bo_size : MethodName := ⟨R_Bo, "size", "()I"⟩
abbrev b_Bo_sliceSize : ByteArray := prog_3_method_6_code
def y_Bo_sliceSize : MethodName := ⟨R_Bo, "sliceSize", "(I)I"⟩
abbrev b_Bo_rowAt : ByteArray := prog_3_method_4_code
def y_Bo_rowAt : MethodName := ⟨R_Bo, "rowAt", "(II)I"⟩
abbrev b_So_rowPlace : ByteArray := prog_1_method_35_code
def y_So_rowPlace : MethodName := ⟨R_So, "rowPlace", "(II)I"⟩
abbrev b_In_bitCount : ByteArray := prog_15_method_49_code
def y_In_bitCount : MethodName := ⟨R_In, "bitCount", "(I)I"⟩
abbrev b_So_point : ByteArray := prog_1_method_11_code
def y_So_point : MethodName := ⟨R_So, "point", "(III)I"⟩
abbrev b_Bo_coordinate : ByteArray := prog_3_method_7_code
def y_Bo_coordinate : MethodName := ⟨R_Bo, "coordinate", "(II)I"⟩
abbrev b_Bo_xOfPoint : ByteArray := prog_3_method_8_code
def y_Bo_xOfPoint : MethodName := ⟨R_Bo, "xOfPoint", "(II)I"⟩
abbrev b_In_numberOfTrailingZeros : ByteArray := prog_15_method_48_code
def y_In_numberOfTrailingZeros : MethodName := ⟨R_In, "numberOfTrailingZeros", "(I)I"⟩
abbrev b_So_skin : ByteArray := prog_1_method_12_code
def y_So_skin : MethodName := ⟨R_So, "skin", "(II)I"⟩
abbrev b_Bo_squares : ByteArray := prog_3_method_12_code
def y_Bo_squares : MethodName := ⟨R_Bo, "squares", "()I"⟩
abbrev b_Bo_outline : ByteArray := prog_3_method_13_code
def y_Bo_outline : MethodName := ⟨R_Bo, "outline", "(I)I"⟩
abbrev b_Bo_edges : ByteArray := prog_3_method_14_code
def y_Bo_edges : MethodName := ⟨R_Bo, "edges", "(Z)I"⟩
abbrev b_Bo_edgesRound : ByteArray := prog_3_method_15_code
def y_Bo_edgesRound : MethodName := ⟨R_Bo, "edgesRound", "(IIIIZ)I"⟩
abbrev b_Bo_corners : ByteArray := prog_3_method_16_code
def y_Bo_corners : MethodName := ⟨R_Bo, "corners", "()I"⟩
abbrev b_So_parts : ByteArray := prog_1_method_13_code
def y_So_parts : MethodName := ⟨R_So, "parts", "(II)I"⟩
abbrev b_Fl_loadWithin : ByteArray := prog_5_method_2_code
def y_Fl_loadWithin : MethodName := ⟨R_Fl, "loadWithin", "(LSignSolids$Body;)V"⟩
abbrev b_Fl_yOf : ByteArray := prog_5_method_16_code
def y_Fl_yOf : MethodName := ⟨R_Fl, "yOf", "(I)I"⟩
abbrev b_Fl_zOf : ByteArray := prog_5_method_17_code
def y_Fl_zOf : MethodName := ⟨R_Fl, "zOf", "(I)I"⟩
abbrev b_Fl_countPieces : ByteArray := prog_5_method_5_code
def y_Fl_countPieces : MethodName := ⟨R_Fl, "countPieces", "()I"⟩
abbrev b_Fl_takePiece : ByteArray := prog_5_method_11_code
def y_Fl_takePiece : MethodName := ⟨R_Fl, "takePiece", "()Z"⟩
abbrev b_Fl_take : ByteArray := prog_5_method_14_code
def y_Fl_take : MethodName := ⟨R_Fl, "take", "(III)V"⟩
abbrev b_Fl_spread : ByteArray := prog_5_method_12_code
def y_Fl_spread : MethodName := ⟨R_Fl, "spread", "(I)V"⟩
abbrev b_Fl_grown : ByteArray := prog_5_method_13_code
def y_Fl_grown : MethodName := ⟨R_Fl, "grown", "(II)I"⟩
abbrev b_Fl_isAtEnd : ByteArray := prog_5_method_15_code
def y_Fl_isAtEnd : MethodName := ⟨R_Fl, "isAtEnd", "(I)Z"⟩
abbrev b_Fl_greatestPiece : ByteArray := prog_5_method_6_code
def y_Fl_greatestPiece : MethodName := ⟨R_Fl, "greatestPiece", "()I"⟩
abbrev b_Fl_loadWithout : ByteArray := prog_5_method_3_code
def y_Fl_loadWithout : MethodName := ⟨R_Fl, "loadWithout", "(LSignSolids$Body;)V"⟩
abbrev b_Fl_countShutPieces : ByteArray := prog_5_method_7_code
def y_Fl_countShutPieces : MethodName := ⟨R_Fl, "countShutPieces", "()I"⟩
abbrev b_Fl_countShutPoints : ByteArray := prog_5_method_8_code
def y_Fl_countShutPoints : MethodName := ⟨R_Fl, "countShutPoints", "()I"⟩
abbrev b_So_part : ByteArray := prog_1_method_14_code
def y_So_part : MethodName := ⟨R_So, "part", "(IIII)I"⟩
abbrev b_Fl_pieceOf : ByteArray := prog_5_method_9_code
def y_Fl_pieceOf : MethodName := ⟨R_Fl, "pieceOf", "(III)I"⟩
abbrev b_Fl_isLeft : ByteArray := prog_5_method_10_code
def y_Fl_isLeft : MethodName := ⟨R_Fl, "isLeft", "(III)Z"⟩
abbrev b_So_slice : ByteArray := prog_1_method_15_code
def y_So_slice : MethodName := ⟨R_So, "slice", "(III)I"⟩
abbrev b_Fl_loadSlice : ByteArray := prog_5_method_4_code
def y_Fl_loadSlice : MethodName := ⟨R_Fl, "loadSlice", "(LSignSolids$Body;I)V"⟩
abbrev b_So_thin : ByteArray := prog_1_method_16_code
def y_So_thin : MethodName := ⟨R_So, "thin", "(II)I"⟩
abbrev b_Bo_thinPoints : ByteArray := prog_3_method_17_code
def y_Bo_thinPoints : MethodName := ⟨R_Bo, "thinPoints", "(I)I"⟩
abbrev b_So_overhang : ByteArray := prog_1_method_17_code
def y_So_overhang : MethodName := ⟨R_So, "overhang", "(II)I"⟩
abbrev b_Bo_hangingPoints : ByteArray := prog_3_method_18_code
def y_Bo_hangingPoints : MethodName := ⟨R_Bo, "hangingPoints", "(I)I"⟩
abbrev b_So_both : ByteArray := prog_1_method_18_code
def y_So_both : MethodName := ⟨R_So, "both", "(III)I"⟩
abbrev b_Bo_shared : ByteArray := prog_3_method_19_code
def y_Bo_shared : MethodName := ⟨R_Bo, "shared", "(LSignSolids$Body;)I"⟩
abbrev b_So_ray : ByteArray := prog_1_method_19_code
def y_So_ray : MethodName := ⟨R_So, "ray", "(IIIIIII)I"⟩
abbrev b_So_isStep : ByteArray := prog_1_method_33_code
def y_So_isStep : MethodName := ⟨R_So, "isStep", "(III)Z"⟩
abbrev b_Bo_has : ByteArray := prog_3_method_2_code
def y_Bo_has : MethodName := ⟨R_Bo, "has", "(III)Z"⟩
abbrev b_So_sheet : ByteArray := prog_1_method_20_code
def y_So_sheet : MethodName := ⟨R_So, "sheet", "(III)I"⟩
abbrev b_So_sheetNumber : ByteArray := prog_1_method_26_code
def y_So_sheetNumber : MethodName := ⟨R_So, "sheetNumber", "(I)LSignSolids$Sheet;"⟩
abbrev b_So_isLane : ByteArray := prog_1_method_34_code
def y_So_isLane : MethodName := ⟨R_So, "isLane", "(I)Z"⟩
abbrev b_Sh_renew : ByteArray := prog_11_method_3_code
def y_Sh_renew : MethodName := ⟨R_Sh, "renew", "(II)V"⟩
abbrev b_So_lay : ByteArray := prog_1_method_21_code
def y_So_lay : MethodName := ⟨R_So, "lay", "(III)I"⟩
abbrev b_Sh_isNothing : ByteArray := prog_11_method_2_code
def y_Sh_isNothing : MethodName := ⟨R_Sh, "isNothing", "()Z"⟩
abbrev b_Sh_put : ByteArray := prog_11_method_6_code
def y_Sh_put : MethodName := ⟨R_Sh, "put", "(II)Z"⟩
abbrev b_Sh_hasCell : ByteArray := prog_11_method_4_code
def y_Sh_hasCell : MethodName := ⟨R_Sh, "hasCell", "(I)Z"⟩
abbrev b_So_scan : ByteArray := prog_1_method_22_code
def y_So_scan : MethodName := ⟨R_So, "scan", "(IIIII)I"⟩
abbrev b_So_countScanned : ByteArray := prog_1_method_29_code
def y_So_countScanned : MethodName := ⟨R_So, "countScanned", "(LSignSolids$Body;LSignSolids$Sheet;II)I"⟩
abbrev b_Sh_cell : ByteArray := prog_11_method_5_code
def y_Sh_cell : MethodName := ⟨R_Sh, "cell", "(I)I"⟩
abbrev b_So_count : ByteArray := prog_1_method_23_code
def y_So_count : MethodName := ⟨R_So, "count", "(I)I"⟩
abbrev b_So_cellsOfFirstSheet : ByteArray := prog_1_method_27_code
def y_So_cellsOfFirstSheet : MethodName := ⟨R_So, "cellsOfFirstSheet", "()I"⟩
abbrev b_So_textsOfLatestBody : ByteArray := prog_1_method_28_code
def y_So_textsOfLatestBody : MethodName := ⟨R_So, "textsOfLatestBody", "()I"⟩
abbrev b_Mo_init : ByteArray := prog_14_method_1_code
def y_Mo_init : MethodName := ⟨R_Mo, "<init>", "()V"⟩
abbrev b_Mo_feed : ByteArray := prog_14_method_4_code
def y_Mo_feed : MethodName := ⟨R_Mo, "feed", "(J)I"⟩
abbrev b_Mo_end : ByteArray := prog_14_method_5_code
def y_Mo_end : MethodName := ⟨R_Mo, "end", "(I)I"⟩
abbrev b_Mo_in : ByteArray := prog_14_method_3_code
def y_Mo_in : MethodName := ⟨R_Mo, "in", "(JJJ)Z"⟩
abbrev b_Mo_body : ByteArray := prog_14_method_13_code
def y_Mo_body : MethodName := ⟨R_Mo, "body", "()I"⟩
abbrev b_Mo_next : ByteArray := prog_14_method_9_code
def y_Mo_next : MethodName := ⟨R_Mo, "next", "()V"⟩
abbrev b_Mo_byteAt : ByteArray := prog_14_method_6_code
def y_Mo_byteAt : MethodName := ⟨R_Mo, "byteAt", "(I)I"⟩
abbrev b_Mo_ruleOf : ByteArray := prog_14_method_8_code
def y_Mo_ruleOf : MethodName := ⟨R_Mo, "ruleOf", "(J)I"⟩
abbrev b_Mo_fails : ByteArray := prog_14_method_7_code
def y_Mo_fails : MethodName := ⟨R_Mo, "fails", "(I)V"⟩
abbrev b_Mo_one : ByteArray := prog_14_method_12_code
def y_Mo_one : MethodName := ⟨R_Mo, "one", "(I)V"⟩
abbrev b_Mo_numbersOf : ByteArray := prog_14_method_10_code
def y_Mo_numbersOf : MethodName := ⟨R_Mo, "numbersOf", "(I)I"⟩
abbrev b_Mo_textsOf : ByteArray := prog_14_method_11_code
def y_Mo_textsOf : MethodName := ⟨R_Mo, "textsOf", "(I)I"⟩
abbrev b_Mo_fault : ByteArray := prog_14_method_14_code
def y_Mo_fault : MethodName := ⟨R_Mo, "fault", "()I"⟩
abbrev b_Mo_drop : ByteArray := prog_14_method_15_code
def y_Mo_drop : MethodName := ⟨R_Mo, "drop", "()I"⟩
abbrev b_Mo_rule : ByteArray := prog_14_method_24_code
def y_Mo_rule : MethodName := ⟨R_Mo, "rule", "(IIII)I"⟩
abbrev b_Mo_is : ByteArray := prog_14_method_16_code
def y_Mo_is : MethodName := ⟨R_Mo, "is", "(I)Z"⟩
abbrev b_Mo_spans : ByteArray := prog_14_method_23_code
def y_Mo_spans : MethodName := ⟨R_Mo, "spans", "(IJJJJJJ)V"⟩
abbrev b_Mo_goDown : ByteArray := prog_14_method_18_code
def y_Mo_goDown : MethodName := ⟨R_Mo, "goDown", "(II)V"⟩
abbrev b_Mo_modulo : ByteArray := prog_14_method_17_code
def y_Mo_modulo : MethodName := ⟨R_Mo, "modulo", "(JI)J"⟩
abbrev b_Mo_leaf : ByteArray := prog_14_method_22_code
def y_Mo_leaf : MethodName := ⟨R_Mo, "leaf", "(II)V"⟩
abbrev b_Mo_addSquares : ByteArray := prog_14_method_19_code
def y_Mo_addSquares : MethodName := ⟨R_Mo, "addSquares", "(JJI)V"⟩
abbrev b_Mo_greater : ByteArray := prog_14_method_21_code
def y_Mo_greater : MethodName := ⟨R_Mo, "greater", "(JJ)V"⟩
abbrev b_Mo_addProducts : ByteArray := prog_14_method_20_code
def y_Mo_addProducts : MethodName := ⟨R_Mo, "addProducts", "(JJI)V"⟩
abbrev b_Mo_span : ByteArray := prog_14_method_26_code
def y_Mo_span : MethodName := ⟨R_Mo, "span", "(IIIIIIIZ)I"⟩
abbrev b_Mo_isPoint : ByteArray := prog_14_method_25_code
def y_Mo_isPoint : MethodName := ⟨R_Mo, "isPoint", "(III)Z"⟩
abbrev b_Mo_parted : ByteArray := prog_14_method_29_code
def y_Mo_parted : MethodName := ⟨R_Mo, "parted", "(II)I"⟩
abbrev b_Mo_partAll : ByteArray := prog_14_method_28_code
def y_Mo_partAll : MethodName := ⟨R_Mo, "partAll", "(I)V"⟩
abbrev b_Mo_puts : ByteArray := prog_14_method_27_code
def y_Mo_puts : MethodName := ⟨R_Mo, "puts", "(IIIIIII)V"⟩
abbrev b_Mo_volume : ByteArray := prog_14_method_35_code
def y_Mo_volume : MethodName := ⟨R_Mo, "volume", "(I)I"⟩
abbrev b_Mo_ask : ByteArray := prog_14_method_32_code
def y_Mo_ask : MethodName := ⟨R_Mo, "ask", "(I)V"⟩
abbrev b_Mo_isWithin : ByteArray := prog_14_method_31_code
def y_Mo_isWithin : MethodName := ⟨R_Mo, "isWithin", "(IIII)Z"⟩
abbrev b_Mo_point : ByteArray := prog_14_method_36_code
def y_Mo_point : MethodName := ⟨R_Mo, "point", "(III)I"⟩
abbrev b_Mo_skin : ByteArray := prog_14_method_38_code
def y_Mo_skin : MethodName := ⟨R_Mo, "skin", "(II)I"⟩
abbrev b_Mo_hasSide : ByteArray := prog_14_method_34_code
def y_Mo_hasSide : MethodName := ⟨R_Mo, "hasSide", "(II)Z"⟩
abbrev b_Mo_has : ByteArray := prog_14_method_33_code
def y_Mo_has : MethodName := ⟨R_Mo, "has", "(III)Z"⟩
abbrev b_Mo_indexOf : ByteArray := prog_14_method_30_code
def y_Mo_indexOf : MethodName := ⟨R_Mo, "indexOf", "(III)I"⟩
abbrev b_Mo_square : ByteArray := prog_14_method_37_code
def y_Mo_square : MethodName := ⟨R_Mo, "square", "(IIII)V"⟩
abbrev b_Mo_parts : ByteArray := prog_14_method_43_code
def y_Mo_parts : MethodName := ⟨R_Mo, "parts", "(II)I"⟩
abbrev b_Mo_layParts : ByteArray := prog_14_method_42_code
def y_Mo_layParts : MethodName := ⟨R_Mo, "layParts", "(I)V"⟩
abbrev b_Mo_spread : ByteArray := prog_14_method_41_code
def y_Mo_spread : MethodName := ⟨R_Mo, "spread", "(III)I"⟩
abbrev b_Mo_sideOf : ByteArray := prog_14_method_40_code
def y_Mo_sideOf : MethodName := ⟨R_Mo, "sideOf", "(II)I"⟩
abbrev b_Mo_isEnd : ByteArray := prog_14_method_39_code
def y_Mo_isEnd : MethodName := ⟨R_Mo, "isEnd", "(I)Z"⟩
abbrev b_Mo_part : ByteArray := prog_14_method_44_code
def y_Mo_part : MethodName := ⟨R_Mo, "part", "(IIII)I"⟩
abbrev b_Mo_slice : ByteArray := prog_14_method_45_code
def y_Mo_slice : MethodName := ⟨R_Mo, "slice", "(III)I"⟩
abbrev b_Mo_thin : ByteArray := prog_14_method_46_code
def y_Mo_thin : MethodName := ⟨R_Mo, "thin", "(II)I"⟩
abbrev b_Mo_overhang : ByteArray := prog_14_method_47_code
def y_Mo_overhang : MethodName := ⟨R_Mo, "overhang", "(II)I"⟩
abbrev b_Mo_both : ByteArray := prog_14_method_48_code
def y_Mo_both : MethodName := ⟨R_Mo, "both", "(III)I"⟩
abbrev b_Mo_ray : ByteArray := prog_14_method_49_code
def y_Mo_ray : MethodName := ⟨R_Mo, "ray", "(IIIIIII)I"⟩
abbrev b_Mo_sheet : ByteArray := prog_14_method_50_code
def y_Mo_sheet : MethodName := ⟨R_Mo, "sheet", "(III)I"⟩
abbrev b_Mo_lay : ByteArray := prog_14_method_51_code
def y_Mo_lay : MethodName := ⟨R_Mo, "lay", "(III)I"⟩
abbrev b_Mo_scan : ByteArray := prog_14_method_52_code
def y_Mo_scan : MethodName := ⟨R_Mo, "scan", "(IIIII)I"⟩
abbrev b_Mo_count : ByteArray := prog_14_method_53_code
def y_Mo_count : MethodName := ⟨R_Mo, "count", "(I)I"⟩
/-- all words of the tables that a call may hand on -/
def GW : List Cond := lw_tbl.filter goodWord
theorem gw_mem {w : Cond} {i : Nat} (h : lw_tbl[i]? = some w) (hg : goodWord w = true) : w ∈ GW := List.mem_filter.mpr ⟨List.mem_of_getElem? h, hg⟩
theorem ws_Rd_readToken : Cond.selects R_Rd y_Rd_readToken y_Rd_readToken ∈ GW := gw_mem (i := 0) (by decide +kernel) (by decide +kernel)
theorem ws_Rd_readName : Cond.selects R_Rd y_Rd_readName y_Rd_readName ∈ GW := gw_mem (i := 1) (by decide +kernel) (by decide +kernel)
theorem ws_Rd_fail : Cond.selects R_Rd y_Rd_fail y_Rd_fail ∈ GW := gw_mem (i := 2) (by decide +kernel) (by decide +kernel)
theorem ws_Rd_readFigures : Cond.selects R_Rd y_Rd_readFigures y_Rd_readFigures ∈ GW := gw_mem (i := 3) (by decide +kernel) (by decide +kernel)
theorem ws_Rd_readText : Cond.selects R_Rd y_Rd_readText y_Rd_readText ∈ GW := gw_mem (i := 4) (by decide +kernel) (by decide +kernel)
theorem ws_Rd_readNumber : Cond.selects R_Rd y_Rd_readNumber y_Rd_readNumber ∈ GW := gw_mem (i := 5) (by decide +kernel) (by decide +kernel)
theorem ws_So_bodyNumber : Cond.selects R_So y_So_bodyNumber y_So_bodyNumber ∈ GW := gw_mem (i := 6) (by decide +kernel) (by decide +kernel)
theorem ws_Pl_modulo : Cond.selects R_Pl y_Pl_modulo y_Pl_modulo ∈ GW := gw_mem (i := 7) (by decide +kernel) (by decide +kernel)
theorem ws_Pa_joined : Cond.selects R_Pa y_Pa_joined y_Pa_joined ∈ GW := gw_mem (i := 8) (by decide +kernel) (by decide +kernel)
theorem ws_Pl_repeatedBound : Cond.selects R_Pl y_Pl_repeatedBound y_Pl_repeatedBound ∈ GW := gw_mem (i := 9) (by decide +kernel) (by decide +kernel)
theorem ws_Bo_partBlock : Cond.selects R_Bo y_Bo_partBlock y_Bo_partBlock ∈ GW := gw_mem (i := 10) (by decide +kernel) (by decide +kernel)
theorem ws_Bo_partInTwos : Cond.selects R_Bo y_Bo_partInTwos y_Bo_partInTwos ∈ GW := gw_mem (i := 11) (by decide +kernel) (by decide +kernel)
theorem ws_So_paintedBody : Cond.selects R_So y_So_paintedBody y_So_paintedBody ∈ GW := gw_mem (i := 12) (by decide +kernel) (by decide +kernel)
theorem ws_Fl_takePiece : Cond.selects R_Fl y_Fl_takePiece y_Fl_takePiece ∈ GW := gw_mem (i := 13) (by decide +kernel) (by decide +kernel)
theorem ws_Fl_take : Cond.selects R_Fl y_Fl_take y_Fl_take ∈ GW := gw_mem (i := 14) (by decide +kernel) (by decide +kernel)
theorem ws_Fl_spread : Cond.selects R_Fl y_Fl_spread y_Fl_spread ∈ GW := gw_mem (i := 15) (by decide +kernel) (by decide +kernel)
theorem ws_Fl_isLeft : Cond.selects R_Fl y_Fl_isLeft y_Fl_isLeft ∈ GW := gw_mem (i := 16) (by decide +kernel) (by decide +kernel)
theorem ws_So_sheetNumber : Cond.selects R_So y_So_sheetNumber y_So_sheetNumber ∈ GW := gw_mem (i := 17) (by decide +kernel) (by decide +kernel)
theorem ws_So_cellsOfFirstSheet : Cond.selects R_So y_So_cellsOfFirstSheet y_So_cellsOfFirstSheet ∈ GW := gw_mem (i := 18) (by decide +kernel) (by decide +kernel)
theorem ws_So_textsOfLatestBody : Cond.selects R_So y_So_textsOfLatestBody y_So_textsOfLatestBody ∈ GW := gw_mem (i := 19) (by decide +kernel) (by decide +kernel)
theorem ws_Mo_next : Cond.selects R_Mo y_Mo_next y_Mo_next ∈ GW := gw_mem (i := 20) (by decide +kernel) (by decide +kernel)
theorem ws_Mo_byteAt : Cond.selects R_Mo y_Mo_byteAt y_Mo_byteAt ∈ GW := gw_mem (i := 21) (by decide +kernel) (by decide +kernel)
theorem ws_Mo_fails : Cond.selects R_Mo y_Mo_fails y_Mo_fails ∈ GW := gw_mem (i := 22) (by decide +kernel) (by decide +kernel)
theorem ws_Mo_one : Cond.selects R_Mo y_Mo_one y_Mo_one ∈ GW := gw_mem (i := 23) (by decide +kernel) (by decide +kernel)
theorem ws_Mo_is : Cond.selects R_Mo y_Mo_is y_Mo_is ∈ GW := gw_mem (i := 24) (by decide +kernel) (by decide +kernel)
theorem ws_Mo_spans : Cond.selects R_Mo y_Mo_spans y_Mo_spans ∈ GW := gw_mem (i := 25) (by decide +kernel) (by decide +kernel)
theorem ws_Mo_goDown : Cond.selects R_Mo y_Mo_goDown y_Mo_goDown ∈ GW := gw_mem (i := 26) (by decide +kernel) (by decide +kernel)
theorem ws_Mo_leaf : Cond.selects R_Mo y_Mo_leaf y_Mo_leaf ∈ GW := gw_mem (i := 27) (by decide +kernel) (by decide +kernel)
theorem ws_Mo_addSquares : Cond.selects R_Mo y_Mo_addSquares y_Mo_addSquares ∈ GW := gw_mem (i := 28) (by decide +kernel) (by decide +kernel)
theorem ws_Mo_greater : Cond.selects R_Mo y_Mo_greater y_Mo_greater ∈ GW := gw_mem (i := 29) (by decide +kernel) (by decide +kernel)
theorem ws_Mo_addProducts : Cond.selects R_Mo y_Mo_addProducts y_Mo_addProducts ∈ GW := gw_mem (i := 30) (by decide +kernel) (by decide +kernel)
theorem ws_Mo_partAll : Cond.selects R_Mo y_Mo_partAll y_Mo_partAll ∈ GW := gw_mem (i := 31) (by decide +kernel) (by decide +kernel)
theorem ws_Mo_puts : Cond.selects R_Mo y_Mo_puts y_Mo_puts ∈ GW := gw_mem (i := 32) (by decide +kernel) (by decide +kernel)
theorem ws_Mo_ask : Cond.selects R_Mo y_Mo_ask y_Mo_ask ∈ GW := gw_mem (i := 33) (by decide +kernel) (by decide +kernel)
theorem ws_Mo_isWithin : Cond.selects R_Mo y_Mo_isWithin y_Mo_isWithin ∈ GW := gw_mem (i := 34) (by decide +kernel) (by decide +kernel)
theorem ws_Mo_hasSide : Cond.selects R_Mo y_Mo_hasSide y_Mo_hasSide ∈ GW := gw_mem (i := 35) (by decide +kernel) (by decide +kernel)
theorem ws_Mo_has : Cond.selects R_Mo y_Mo_has y_Mo_has ∈ GW := gw_mem (i := 36) (by decide +kernel) (by decide +kernel)
theorem ws_Mo_square : Cond.selects R_Mo y_Mo_square y_Mo_square ∈ GW := gw_mem (i := 37) (by decide +kernel) (by decide +kernel)
theorem ws_Mo_layParts : Cond.selects R_Mo y_Mo_layParts y_Mo_layParts ∈ GW := gw_mem (i := 38) (by decide +kernel) (by decide +kernel)
theorem ws_Mo_spread : Cond.selects R_Mo y_Mo_spread y_Mo_spread ∈ GW := gw_mem (i := 39) (by decide +kernel) (by decide +kernel)
theorem wn_La : Cond.initialized R_La ∈ GW := gw_mem (i := 40) (by decide +kernel) (by decide +kernel)
theorem wn_So : Cond.initialized R_So ∈ GW := gw_mem (i := 41) (by decide +kernel) (by decide +kernel)
theorem wn_Tp : Cond.initialized R_Tp ∈ GW := gw_mem (i := 42) (by decide +kernel) (by decide +kernel)
theorem wn_Rd : Cond.initialized R_Rd ∈ GW := gw_mem (i := 43) (by decide +kernel) (by decide +kernel)
theorem wn_Fl : Cond.initialized R_Fl ∈ GW := gw_mem (i := 44) (by decide +kernel) (by decide +kernel)
theorem wn_Sh : Cond.initialized R_Sh ∈ GW := gw_mem (i := 45) (by decide +kernel) (by decide +kernel)
theorem wn_Mo : Cond.initialized R_Mo ∈ GW := gw_mem (i := 46) (by decide +kernel) (by decide +kernel)
theorem wn_St : Cond.initialized R_St ∈ GW := gw_mem (i := 47) (by decide +kernel) (by decide +kernel)
theorem wn_S1 : Cond.initialized R_S1 ∈ GW := gw_mem (i := 48) (by decide +kernel) (by decide +kernel)
theorem wn_Pr : Cond.initialized R_Pr ∈ GW := gw_mem (i := 49) (by decide +kernel) (by decide +kernel)
theorem wn_S2 : Cond.initialized R_S2 ∈ GW := gw_mem (i := 50) (by decide +kernel) (by decide +kernel)
theorem wn_Fo : Cond.initialized R_Fo ∈ GW := gw_mem (i := 51) (by decide +kernel) (by decide +kernel)
theorem wn_Ba : Cond.initialized R_Ba ∈ GW := gw_mem (i := 52) (by decide +kernel) (by decide +kernel)
theorem wn_Bx : Cond.initialized R_Bx ∈ GW := gw_mem (i := 53) (by decide +kernel) (by decide +kernel)
theorem wn_Pn : Cond.initialized R_Pn ∈ GW := gw_mem (i := 54) (by decide +kernel) (by decide +kernel)
theorem wn_Pa : Cond.initialized R_Pa ∈ GW := gw_mem (i := 55) (by decide +kernel) (by decide +kernel)
theorem wn_Pl : Cond.initialized R_Pl ∈ GW := gw_mem (i := 56) (by decide +kernel) (by decide +kernel)
theorem wn_Bo : Cond.initialized R_Bo ∈ GW := gw_mem (i := 57) (by decide +kernel) (by decide +kernel)
theorem wn_Ma : Cond.initialized R_Ma ∈ GW := gw_mem (i := 58) (by decide +kernel) (by decide +kernel)
theorem wn_In : Cond.initialized R_In ∈ GW := gw_mem (i := 59) (by decide +kernel) (by decide +kernel)
theorem wk_La_7 : Cond.classLink R_La 7 R_So ∈ GW := gw_mem (i := 60) (by decide +kernel) (by decide +kernel)
theorem wz_So : Cond.instantiable R_So 7 ∈ GW := gw_mem (i := 61) (by decide +kernel) (by decide +kernel)
theorem wl_La_9 : Cond.methodLink R_La 9 y_So_init ∈ GW := gw_mem (i := 62) (by decide +kernel) (by decide +kernel)
theorem wi_So_init : Cond.instanceMethod y_So_init ∈ GW := gw_mem (i := 63) (by decide +kernel) (by decide +kernel)
theorem wc_So_init : Cond.code y_So_init b_So_init 2 none ∈ GW := gw_mem (i := 64) (by decide +kernel) (by decide +kernel)
theorem wl_So_3 : Cond.methodLink R_So 3 objectInit ∈ GW := gw_mem (i := 65) (by decide +kernel) (by decide +kernel)
theorem wi_Ob_init : Cond.instanceMethod objectInit ∈ GW := gw_mem (i := 66) (by decide +kernel) (by decide +kernel)
theorem wk_So_9 : Cond.classLink R_So 9 R_Tp ∈ GW := gw_mem (i := 68) (by decide +kernel) (by decide +kernel)
theorem wz_Tp : Cond.instantiable R_Tp 2 ∈ GW := gw_mem (i := 69) (by decide +kernel) (by decide +kernel)
theorem wi_Tp_init : Cond.instanceMethod y_Tp_init ∈ GW := gw_mem (i := 71) (by decide +kernel) (by decide +kernel)
theorem wc_Tp_init : Cond.code y_Tp_init b_Tp_init 1 none ∈ GW := gw_mem (i := 72) (by decide +kernel) (by decide +kernel)
theorem wl_Tp_1 : Cond.methodLink R_Tp 1 objectInit ∈ GW := gw_mem (i := 73) (by decide +kernel) (by decide +kernel)
theorem wf_Tp_9 : Cond.fieldLink R_Tp 9 "SignSolids$Tape" "bytes" "[B" ∈ GW := gw_mem (i := 74) (by decide +kernel) (by decide +kernel)
theorem wf_Tp_13 : Cond.fieldLink R_Tp 13 "SignSolids$Tape" "length" "I" ∈ GW := gw_mem (i := 75) (by decide +kernel) (by decide +kernel)
theorem wa_byte : Cond.arrayClass .byte ∈ GW := gw_mem (i := 82) (by decide +kernel) (by decide +kernel)
theorem wk_So_16 : Cond.classLink R_So 16 R_Rd ∈ GW := gw_mem (i := 83) (by decide +kernel) (by decide +kernel)
theorem wz_Rd : Cond.instantiable R_Rd 8 ∈ GW := gw_mem (i := 84) (by decide +kernel) (by decide +kernel)
theorem wl_So_18 : Cond.methodLink R_So 18 y_Rd_init ∈ GW := gw_mem (i := 85) (by decide +kernel) (by decide +kernel)
theorem wi_Rd_init : Cond.instanceMethod y_Rd_init ∈ GW := gw_mem (i := 86) (by decide +kernel) (by decide +kernel)
theorem wc_Rd_init : Cond.code y_Rd_init b_Rd_init 2 none ∈ GW := gw_mem (i := 87) (by decide +kernel) (by decide +kernel)
theorem wl_Rd_3 : Cond.methodLink R_Rd 3 objectInit ∈ GW := gw_mem (i := 88) (by decide +kernel) (by decide +kernel)
theorem wf_Rd_33 : Cond.fieldLink R_Rd 33 "SignSolids$Reader" "tape" "LSignSolids$Tape;" ∈ GW := gw_mem (i := 89) (by decide +kernel) (by decide +kernel)
theorem wf_Rd_9 : Cond.fieldLink R_Rd 9 "SignSolids$Reader" "place" "I" ∈ GW := gw_mem (i := 90) (by decide +kernel) (by decide +kernel)
theorem wf_Rd_15 : Cond.fieldLink R_Rd 15 "SignSolids$Reader" "token" "I" ∈ GW := gw_mem (i := 91) (by decide +kernel) (by decide +kernel)
theorem wf_Rd_18 : Cond.fieldLink R_Rd 18 "SignSolids$Reader" "tokenPlace" "I" ∈ GW := gw_mem (i := 92) (by decide +kernel) (by decide +kernel)
theorem wf_Rd_21 : Cond.fieldLink R_Rd 21 "SignSolids$Reader" "tokenValue" "I" ∈ GW := gw_mem (i := 93) (by decide +kernel) (by decide +kernel)
theorem wf_Rd_24 : Cond.fieldLink R_Rd 24 "SignSolids$Reader" "texts" "I" ∈ GW := gw_mem (i := 94) (by decide +kernel) (by decide +kernel)
theorem wf_Rd_27 : Cond.fieldLink R_Rd 27 "SignSolids$Reader" "fault" "I" ∈ GW := gw_mem (i := 96) (by decide +kernel) (by decide +kernel)
theorem wf_Rd_30 : Cond.fieldLink R_Rd 30 "SignSolids$Reader" "faultPlace" "I" ∈ GW := gw_mem (i := 98) (by decide +kernel) (by decide +kernel)
theorem wk_So_25 : Cond.classLink R_So 25 R_Bo ∈ GW := gw_mem (i := 117) (by decide +kernel) (by decide +kernel)
theorem wk_So_38 : Cond.classLink R_So 38 R_Fl ∈ GW := gw_mem (i := 119) (by decide +kernel) (by decide +kernel)
theorem wz_Fl : Cond.instantiable R_Fl 7 ∈ GW := gw_mem (i := 120) (by decide +kernel) (by decide +kernel)
theorem wi_Fl_init : Cond.instanceMethod y_Fl_init ∈ GW := gw_mem (i := 122) (by decide +kernel) (by decide +kernel)
theorem wc_Fl_init : Cond.code y_Fl_init b_Fl_init 1 none ∈ GW := gw_mem (i := 123) (by decide +kernel) (by decide +kernel)
theorem wl_Fl_3 : Cond.methodLink R_Fl 3 objectInit ∈ GW := gw_mem (i := 124) (by decide +kernel) (by decide +kernel)
theorem wf_Fl_9 : Cond.fieldLink R_Fl 9 "SignSolids$Flood" "left" "[I" ∈ GW := gw_mem (i := 125) (by decide +kernel) (by decide +kernel)
theorem wf_Fl_15 : Cond.fieldLink R_Fl 15 "SignSolids$Flood" "leastRow" "I" ∈ GW := gw_mem (i := 126) (by decide +kernel) (by decide +kernel)
theorem wf_Fl_19 : Cond.fieldLink R_Fl 19 "SignSolids$Flood" "pending" "[I" ∈ GW := gw_mem (i := 127) (by decide +kernel) (by decide +kernel)
theorem wf_Fl_22 : Cond.fieldLink R_Fl 22 "SignSolids$Flood" "stack" "[I" ∈ GW := gw_mem (i := 128) (by decide +kernel) (by decide +kernel)
theorem wf_Fl_25 : Cond.fieldLink R_Fl 25 "SignSolids$Flood" "stacked" "I" ∈ GW := gw_mem (i := 129) (by decide +kernel) (by decide +kernel)
theorem wf_Fl_28 : Cond.fieldLink R_Fl 28 "SignSolids$Flood" "pieceSize" "I" ∈ GW := gw_mem (i := 130) (by decide +kernel) (by decide +kernel)
theorem wf_Fl_31 : Cond.fieldLink R_Fl 31 "SignSolids$Flood" "pieceAtEnd" "Z" ∈ GW := gw_mem (i := 131) (by decide +kernel) (by decide +kernel)
theorem wa_int : Cond.arrayClass .int ∈ GW := gw_mem (i := 147) (by decide +kernel) (by decide +kernel)
theorem wk_So_45 : Cond.classLink R_So 45 R_Sh ∈ GW := gw_mem (i := 148) (by decide +kernel) (by decide +kernel)
theorem wz_Sh : Cond.instantiable R_Sh 3 ∈ GW := gw_mem (i := 150) (by decide +kernel) (by decide +kernel)
theorem wi_Sh_init : Cond.instanceMethod y_Sh_init ∈ GW := gw_mem (i := 152) (by decide +kernel) (by decide +kernel)
theorem wc_Sh_init : Cond.code y_Sh_init b_Sh_init 1 none ∈ GW := gw_mem (i := 153) (by decide +kernel) (by decide +kernel)
theorem wl_Sh_3 : Cond.methodLink R_Sh 3 objectInit ∈ GW := gw_mem (i := 154) (by decide +kernel) (by decide +kernel)
theorem wf_Sh_9 : Cond.fieldLink R_Sh 9 "SignSolids$Sheet" "cells" "[I" ∈ GW := gw_mem (i := 155) (by decide +kernel) (by decide +kernel)
theorem wf_Sh_15 : Cond.fieldLink R_Sh 15 "SignSolids$Sheet" "lane" "I" ∈ GW := gw_mem (i := 156) (by decide +kernel) (by decide +kernel)
theorem wf_Sh_19 : Cond.fieldLink R_Sh 19 "SignSolids$Sheet" "size" "I" ∈ GW := gw_mem (i := 158) (by decide +kernel) (by decide +kernel)
theorem wf_So_12 : Cond.fieldLink R_So 12 "SignSolids" "tape" "LSignSolids$Tape;" ∈ GW := gw_mem (i := 167) (by decide +kernel) (by decide +kernel)
theorem wf_So_21 : Cond.fieldLink R_So 21 "SignSolids" "reader" "LSignSolids$Reader;" ∈ GW := gw_mem (i := 168) (by decide +kernel) (by decide +kernel)
theorem wf_So_27 : Cond.fieldLink R_So 27 "SignSolids" "bodies" "[LSignSolids$Body;" ∈ GW := gw_mem (i := 169) (by decide +kernel) (by decide +kernel)
theorem wf_So_31 : Cond.fieldLink R_So 31 "SignSolids" "bodyCount" "I" ∈ GW := gw_mem (i := 170) (by decide +kernel) (by decide +kernel)
theorem wf_So_35 : Cond.fieldLink R_So 35 "SignSolids" "latestFault" "I" ∈ GW := gw_mem (i := 171) (by decide +kernel) (by decide +kernel)
theorem wf_So_41 : Cond.fieldLink R_So 41 "SignSolids" "flood" "LSignSolids$Flood;" ∈ GW := gw_mem (i := 172) (by decide +kernel) (by decide +kernel)
theorem wf_So_47 : Cond.fieldLink R_So 47 "SignSolids" "sheets" "[LSignSolids$Sheet;" ∈ GW := gw_mem (i := 173) (by decide +kernel) (by decide +kernel)
theorem wl_La_15 : Cond.methodLink R_La 15 y_So_feed ∈ GW := gw_mem (i := 189) (by decide +kernel) (by decide +kernel)
theorem wi_So_feed : Cond.instanceMethod y_So_feed ∈ GW := gw_mem (i := 190) (by decide +kernel) (by decide +kernel)
theorem ws_So_feed : Cond.selects R_So y_So_feed y_So_feed ∈ GW := gw_mem (i := 191) (by decide +kernel) (by decide +kernel)
theorem wc_So_feed : Cond.code y_So_feed b_So_feed 3 (some .int) ∈ GW := gw_mem (i := 192) (by decide +kernel) (by decide +kernel)
theorem wl_So_52 : Cond.methodLink R_So 52 y_Tp_append ∈ GW := gw_mem (i := 193) (by decide +kernel) (by decide +kernel)
theorem wi_Tp_append : Cond.instanceMethod y_Tp_append ∈ GW := gw_mem (i := 194) (by decide +kernel) (by decide +kernel)
theorem ws_Tp_append : Cond.selects R_Tp y_Tp_append y_Tp_append ∈ GW := gw_mem (i := 195) (by decide +kernel) (by decide +kernel)
theorem wc_Tp_append : Cond.code y_Tp_append b_Tp_append 4 (some .boolean) ∈ GW := gw_mem (i := 196) (by decide +kernel) (by decide +kernel)
theorem wl_La_20 : Cond.methodLink R_La 20 y_So_end ∈ GW := gw_mem (i := 197) (by decide +kernel) (by decide +kernel)
theorem wi_So_end : Cond.instanceMethod y_So_end ∈ GW := gw_mem (i := 198) (by decide +kernel) (by decide +kernel)
theorem ws_So_end : Cond.selects R_So y_So_end y_So_end ∈ GW := gw_mem (i := 199) (by decide +kernel) (by decide +kernel)
theorem wc_So_end : Cond.code y_So_end b_So_end 3 (some .int) ∈ GW := gw_mem (i := 200) (by decide +kernel) (by decide +kernel)
theorem wl_So_59 : Cond.methodLink R_So 59 y_Tp_shorten ∈ GW := gw_mem (i := 201) (by decide +kernel) (by decide +kernel)
theorem wi_Tp_shorten : Cond.instanceMethod y_Tp_shorten ∈ GW := gw_mem (i := 202) (by decide +kernel) (by decide +kernel)
theorem ws_Tp_shorten : Cond.selects R_Tp y_Tp_shorten y_Tp_shorten ∈ GW := gw_mem (i := 203) (by decide +kernel) (by decide +kernel)
theorem wc_Tp_shorten : Cond.code y_Tp_shorten b_Tp_shorten 2 (some .boolean) ∈ GW := gw_mem (i := 204) (by decide +kernel) (by decide +kernel)
theorem wl_La_25 : Cond.methodLink R_La 25 y_So_body ∈ GW := gw_mem (i := 205) (by decide +kernel) (by decide +kernel)
theorem wi_So_body : Cond.instanceMethod y_So_body ∈ GW := gw_mem (i := 206) (by decide +kernel) (by decide +kernel)
theorem ws_So_body : Cond.selects R_So y_So_body y_So_body ∈ GW := gw_mem (i := 207) (by decide +kernel) (by decide +kernel)
theorem wc_So_body : Cond.code y_So_body b_So_body 2 (some .int) ∈ GW := gw_mem (i := 208) (by decide +kernel) (by decide +kernel)
theorem wl_So_63 : Cond.methodLink R_So 63 y_Rd_read ∈ GW := gw_mem (i := 209) (by decide +kernel) (by decide +kernel)
theorem wi_Rd_read : Cond.instanceMethod y_Rd_read ∈ GW := gw_mem (i := 210) (by decide +kernel) (by decide +kernel)
theorem ws_Rd_read : Cond.selects R_Rd y_Rd_read y_Rd_read ∈ GW := gw_mem (i := 211) (by decide +kernel) (by decide +kernel)
theorem wc_Rd_read : Cond.code y_Rd_read b_Rd_read 2 (some (.object "SignSolids$Form")) ∈ GW := gw_mem (i := 212) (by decide +kernel) (by decide +kernel)
theorem wl_Rd_37 : Cond.methodLink R_Rd 37 y_Rd_readToken ∈ GW := gw_mem (i := 213) (by decide +kernel) (by decide +kernel)
theorem wi_Rd_readToken : Cond.instanceMethod y_Rd_readToken ∈ GW := gw_mem (i := 215) (by decide +kernel) (by decide +kernel)
theorem wc_Rd_readToken : Cond.code y_Rd_readToken b_Rd_readToken 2 none ∈ GW := gw_mem (i := 216) (by decide +kernel) (by decide +kernel)
theorem wl_Rd_92 : Cond.methodLink R_Rd 92 y_Tp_byteAt ∈ GW := gw_mem (i := 217) (by decide +kernel) (by decide +kernel)
theorem wi_Tp_byteAt : Cond.instanceMethod y_Tp_byteAt ∈ GW := gw_mem (i := 218) (by decide +kernel) (by decide +kernel)
theorem ws_Tp_byteAt : Cond.selects R_Tp y_Tp_byteAt y_Tp_byteAt ∈ GW := gw_mem (i := 219) (by decide +kernel) (by decide +kernel)
theorem wc_Tp_byteAt : Cond.code y_Tp_byteAt b_Tp_byteAt 2 (some .int) ∈ GW := gw_mem (i := 220) (by decide +kernel) (by decide +kernel)
theorem wl_Rd_95 : Cond.methodLink R_Rd 95 y_Rd_isLetter ∈ GW := gw_mem (i := 221) (by decide +kernel) (by decide +kernel)
theorem wt_Rd_isLetter : Cond.static y_Rd_isLetter ∈ GW := gw_mem (i := 222) (by decide +kernel) (by decide +kernel)
theorem wc_Rd_isLetter : Cond.code y_Rd_isLetter b_Rd_isLetter 1 (some .boolean) ∈ GW := gw_mem (i := 223) (by decide +kernel) (by decide +kernel)
theorem wl_Rd_98 : Cond.methodLink R_Rd 98 y_Rd_readName ∈ GW := gw_mem (i := 224) (by decide +kernel) (by decide +kernel)
theorem wi_Rd_readName : Cond.instanceMethod y_Rd_readName ∈ GW := gw_mem (i := 226) (by decide +kernel) (by decide +kernel)
theorem wc_Rd_readName : Cond.code y_Rd_readName b_Rd_readName 5 none ∈ GW := gw_mem (i := 227) (by decide +kernel) (by decide +kernel)
theorem wl_Rd_107 : Cond.methodLink R_Rd 107 y_Rd_nameOf ∈ GW := gw_mem (i := 228) (by decide +kernel) (by decide +kernel)
theorem wt_Rd_nameOf : Cond.static y_Rd_nameOf ∈ GW := gw_mem (i := 229) (by decide +kernel) (by decide +kernel)
theorem wc_Rd_nameOf : Cond.code y_Rd_nameOf b_Rd_nameOf 1 (some (.object "java/lang/String")) ∈ GW := gw_mem (i := 230) (by decide +kernel) (by decide +kernel)
theorem wl_Rd_111 : Cond.methodLink R_Rd 111 y_St_length ∈ GW := gw_mem (i := 241) (by decide +kernel) (by decide +kernel)
theorem wi_St_length : Cond.instanceMethod y_St_length ∈ GW := gw_mem (i := 242) (by decide +kernel) (by decide +kernel)
theorem ws_St_length : Cond.selects R_St y_St_length y_St_length ∈ GW := gw_mem (i := 243) (by decide +kernel) (by decide +kernel)
theorem wc_St_length : Cond.code y_St_length b_St_length 1 (some .int) ∈ GW := gw_mem (i := 244) (by decide +kernel) (by decide +kernel)
theorem wl_St_335 : Cond.methodLink R_St 335 y_St_coder ∈ GW := gw_mem (i := 245) (by decide +kernel) (by decide +kernel)
theorem wi_St_coder : Cond.instanceMethod y_St_coder ∈ GW := gw_mem (i := 246) (by decide +kernel) (by decide +kernel)
theorem ws_St_coder : Cond.selects R_St y_St_coder y_St_coder ∈ GW := gw_mem (i := 247) (by decide +kernel) (by decide +kernel)
theorem wc_St_coder : Cond.code y_St_coder b_St_coder 1 (some .byte) ∈ GW := gw_mem (i := 248) (by decide +kernel) (by decide +kernel)
theorem wf_St_38 : Cond.fieldLink R_St 38 "java/lang/String" "COMPACT_STRINGS" "Z" ∈ GW := gw_mem (i := 249) (by decide +kernel) (by decide +kernel)
theorem wl_Rd_117 : Cond.methodLink R_Rd 117 y_St_charAt ∈ GW := gw_mem (i := 251) (by decide +kernel) (by decide +kernel)
theorem wi_St_charAt : Cond.instanceMethod y_St_charAt ∈ GW := gw_mem (i := 252) (by decide +kernel) (by decide +kernel)
theorem ws_St_charAt : Cond.selects R_St y_St_charAt y_St_charAt ∈ GW := gw_mem (i := 253) (by decide +kernel) (by decide +kernel)
theorem wc_St_charAt : Cond.code y_St_charAt b_St_charAt 2 (some .char) ∈ GW := gw_mem (i := 254) (by decide +kernel) (by decide +kernel)
theorem wl_St_492 : Cond.methodLink R_St 492 y_St_isLatin1 ∈ GW := gw_mem (i := 255) (by decide +kernel) (by decide +kernel)
theorem wi_St_isLatin1 : Cond.instanceMethod y_St_isLatin1 ∈ GW := gw_mem (i := 256) (by decide +kernel) (by decide +kernel)
theorem ws_St_isLatin1 : Cond.selects R_St y_St_isLatin1 y_St_isLatin1 ∈ GW := gw_mem (i := 257) (by decide +kernel) (by decide +kernel)
theorem wc_St_isLatin1 : Cond.code y_St_isLatin1 b_St_isLatin1 1 (some .boolean) ∈ GW := gw_mem (i := 258) (by decide +kernel) (by decide +kernel)
theorem wl_St_495 : Cond.methodLink R_St 495 y_S1_charAt ∈ GW := gw_mem (i := 259) (by decide +kernel) (by decide +kernel)
theorem wt_S1_charAt : Cond.static y_S1_charAt ∈ GW := gw_mem (i := 260) (by decide +kernel) (by decide +kernel)
theorem wc_S1_charAt : Cond.code y_S1_charAt b_S1_charAt 2 (some .char) ∈ GW := gw_mem (i := 261) (by decide +kernel) (by decide +kernel)
theorem wl_S1_9 : Cond.methodLink R_S1 9 y_St_checkIndex ∈ GW := gw_mem (i := 262) (by decide +kernel) (by decide +kernel)
theorem wt_St_checkIndex : Cond.static y_St_checkIndex ∈ GW := gw_mem (i := 263) (by decide +kernel) (by decide +kernel)
theorem wc_St_checkIndex : Cond.code y_St_checkIndex b_St_checkIndex 2 none ∈ GW := gw_mem (i := 264) (by decide +kernel) (by decide +kernel)
theorem wf_St_1053 : Cond.fieldLink R_St 1053 "jdk/internal/util/Preconditions" "SIOOBE_FORMATTER" "Ljava/util/function/BiFunction;" ∈ GW := gw_mem (i := 265) (by decide +kernel) (by decide +kernel)
theorem wl_St_1059 : Cond.methodLink R_St 1059 y_Pr_checkIndex ∈ GW := gw_mem (i := 267) (by decide +kernel) (by decide +kernel)
theorem wt_Pr_checkIndex : Cond.static y_Pr_checkIndex ∈ GW := gw_mem (i := 268) (by decide +kernel) (by decide +kernel)
theorem wc_Pr_checkIndex : Cond.code y_Pr_checkIndex b_Pr_checkIndex 3 (some .int) ∈ GW := gw_mem (i := 269) (by decide +kernel) (by decide +kernel)
theorem wl_St_498 : Cond.methodLink R_St 498 y_S2_charAt ∈ GW := gw_mem (i := 270) (by decide +kernel) (by decide +kernel)
theorem wt_S2_charAt : Cond.static y_S2_charAt ∈ GW := gw_mem (i := 271) (by decide +kernel) (by decide +kernel)
theorem wc_S2_charAt : Cond.code y_S2_charAt b_S2_charAt 2 (some .char) ∈ GW := gw_mem (i := 272) (by decide +kernel) (by decide +kernel)
theorem wl_S2_67 : Cond.methodLink R_S2 67 y_S2_checkIndex ∈ GW := gw_mem (i := 273) (by decide +kernel) (by decide +kernel)
theorem wt_S2_checkIndex : Cond.static y_S2_checkIndex ∈ GW := gw_mem (i := 274) (by decide +kernel) (by decide +kernel)
theorem wc_S2_checkIndex : Cond.code y_S2_checkIndex b_S2_checkIndex 2 none ∈ GW := gw_mem (i := 275) (by decide +kernel) (by decide +kernel)
theorem wl_S2_48 : Cond.methodLink R_S2 48 y_S2_length ∈ GW := gw_mem (i := 276) (by decide +kernel) (by decide +kernel)
theorem wt_S2_length : Cond.static y_S2_length ∈ GW := gw_mem (i := 277) (by decide +kernel) (by decide +kernel)
theorem wc_S2_length : Cond.code y_S2_length b_S2_length 1 (some .int) ∈ GW := gw_mem (i := 278) (by decide +kernel) (by decide +kernel)
theorem wl_S2_414 : Cond.methodLink R_S2 414 y_St_checkIndex ∈ GW := gw_mem (i := 279) (by decide +kernel) (by decide +kernel)
theorem wl_S2_71 : Cond.methodLink R_S2 71 y_S2_getChar ∈ GW := gw_mem (i := 280) (by decide +kernel) (by decide +kernel)
theorem wt_S2_getChar : Cond.static y_S2_getChar ∈ GW := gw_mem (i := 281) (by decide +kernel) (by decide +kernel)
theorem wc_S2_getChar : Cond.code y_S2_getChar b_S2_getChar 2 (some .char) ∈ GW := gw_mem (i := 282) (by decide +kernel) (by decide +kernel)
theorem wf_S2_44 : Cond.fieldLink R_S2 44 "java/lang/StringUTF16" "$assertionsDisabled" "Z" ∈ GW := gw_mem (i := 283) (by decide +kernel) (by decide +kernel)
theorem wf_S2_59 : Cond.fieldLink R_S2 59 "java/lang/StringUTF16" "HI_BYTE_SHIFT" "I" ∈ GW := gw_mem (i := 285) (by decide +kernel) (by decide +kernel)
theorem wf_S2_63 : Cond.fieldLink R_S2 63 "java/lang/StringUTF16" "LO_BYTE_SHIFT" "I" ∈ GW := gw_mem (i := 287) (by decide +kernel) (by decide +kernel)
theorem wl_Rd_44 : Cond.methodLink R_Rd 44 y_Rd_fail ∈ GW := gw_mem (i := 289) (by decide +kernel) (by decide +kernel)
theorem wi_Rd_fail : Cond.instanceMethod y_Rd_fail ∈ GW := gw_mem (i := 291) (by decide +kernel) (by decide +kernel)
theorem wc_Rd_fail : Cond.code y_Rd_fail b_Rd_fail 3 none ∈ GW := gw_mem (i := 292) (by decide +kernel) (by decide +kernel)
theorem wl_Rd_101 : Cond.methodLink R_Rd 101 y_Rd_isFigure ∈ GW := gw_mem (i := 293) (by decide +kernel) (by decide +kernel)
theorem wt_Rd_isFigure : Cond.static y_Rd_isFigure ∈ GW := gw_mem (i := 294) (by decide +kernel) (by decide +kernel)
theorem wc_Rd_isFigure : Cond.code y_Rd_isFigure b_Rd_isFigure 1 (some .boolean) ∈ GW := gw_mem (i := 295) (by decide +kernel) (by decide +kernel)
theorem wl_Rd_104 : Cond.methodLink R_Rd 104 y_Rd_readFigures ∈ GW := gw_mem (i := 296) (by decide +kernel) (by decide +kernel)
theorem wi_Rd_readFigures : Cond.instanceMethod y_Rd_readFigures ∈ GW := gw_mem (i := 298) (by decide +kernel) (by decide +kernel)
theorem wc_Rd_readFigures : Cond.code y_Rd_readFigures b_Rd_readFigures 4 none ∈ GW := gw_mem (i := 299) (by decide +kernel) (by decide +kernel)
theorem wl_Rd_40 : Cond.methodLink R_Rd 40 y_Rd_readText ∈ GW := gw_mem (i := 300) (by decide +kernel) (by decide +kernel)
theorem wi_Rd_readText : Cond.instanceMethod y_Rd_readText ∈ GW := gw_mem (i := 302) (by decide +kernel) (by decide +kernel)
theorem wc_Rd_readText : Cond.code y_Rd_readText b_Rd_readText 6 (some (.object "SignSolids$Form")) ∈ GW := gw_mem (i := 303) (by decide +kernel) (by decide +kernel)
theorem wl_Rd_48 : Cond.methodLink R_Rd 48 y_Rd_numberCount ∈ GW := gw_mem (i := 304) (by decide +kernel) (by decide +kernel)
theorem wt_Rd_numberCount : Cond.static y_Rd_numberCount ∈ GW := gw_mem (i := 305) (by decide +kernel) (by decide +kernel)
theorem wc_Rd_numberCount : Cond.code y_Rd_numberCount b_Rd_numberCount 1 (some .int) ∈ GW := gw_mem (i := 306) (by decide +kernel) (by decide +kernel)
theorem wl_Rd_52 : Cond.methodLink R_Rd 52 y_Rd_leastNumber ∈ GW := gw_mem (i := 307) (by decide +kernel) (by decide +kernel)
theorem wt_Rd_leastNumber : Cond.static y_Rd_leastNumber ∈ GW := gw_mem (i := 308) (by decide +kernel) (by decide +kernel)
theorem wc_Rd_leastNumber : Cond.code y_Rd_leastNumber b_Rd_leastNumber 2 (some .int) ∈ GW := gw_mem (i := 309) (by decide +kernel) (by decide +kernel)
theorem wl_Rd_56 : Cond.methodLink R_Rd 56 y_Rd_readNumber ∈ GW := gw_mem (i := 310) (by decide +kernel) (by decide +kernel)
theorem wi_Rd_readNumber : Cond.instanceMethod y_Rd_readNumber ∈ GW := gw_mem (i := 312) (by decide +kernel) (by decide +kernel)
theorem wc_Rd_readNumber : Cond.code y_Rd_readNumber b_Rd_readNumber 4 (some .int) ∈ GW := gw_mem (i := 313) (by decide +kernel) (by decide +kernel)
theorem wl_Rd_59 : Cond.methodLink R_Rd 59 y_Rd_isPair ∈ GW := gw_mem (i := 314) (by decide +kernel) (by decide +kernel)
theorem wt_Rd_isPair : Cond.static y_Rd_isPair ∈ GW := gw_mem (i := 315) (by decide +kernel) (by decide +kernel)
theorem wc_Rd_isPair : Cond.code y_Rd_isPair b_Rd_isPair 1 (some .boolean) ∈ GW := gw_mem (i := 316) (by decide +kernel) (by decide +kernel)
theorem wl_Rd_63 : Cond.methodLink R_Rd 63 y_Rd_formOf ∈ GW := gw_mem (i := 317) (by decide +kernel) (by decide +kernel)
theorem wt_Rd_formOf : Cond.static y_Rd_formOf ∈ GW := gw_mem (i := 318) (by decide +kernel) (by decide +kernel)
theorem wc_Rd_formOf : Cond.code y_Rd_formOf b_Rd_formOf 4 (some (.object "SignSolids$Form")) ∈ GW := gw_mem (i := 319) (by decide +kernel) (by decide +kernel)
theorem wk_Rd_67 : Cond.classLink R_Rd 67 R_Ba ∈ GW := gw_mem (i := 320) (by decide +kernel) (by decide +kernel)
theorem wz_Ba : Cond.instantiable R_Ba 4 ∈ GW := gw_mem (i := 321) (by decide +kernel) (by decide +kernel)
theorem wl_Rd_69 : Cond.methodLink R_Rd 69 y_Ba_init ∈ GW := gw_mem (i := 322) (by decide +kernel) (by decide +kernel)
theorem wi_Ba_init : Cond.instanceMethod y_Ba_init ∈ GW := gw_mem (i := 323) (by decide +kernel) (by decide +kernel)
theorem wc_Ba_init : Cond.code y_Ba_init b_Ba_init 5 none ∈ GW := gw_mem (i := 324) (by decide +kernel) (by decide +kernel)
theorem wi_Fo_init : Cond.instanceMethod y_Fo_init ∈ GW := gw_mem (i := 326) (by decide +kernel) (by decide +kernel)
theorem wc_Fo_init : Cond.code y_Fo_init b_Fo_init 1 none ∈ GW := gw_mem (i := 327) (by decide +kernel) (by decide +kernel)
theorem wl_Fo_1 : Cond.methodLink R_Fo 1 objectInit ∈ GW := gw_mem (i := 328) (by decide +kernel) (by decide +kernel)
theorem wf_Ba_7 : Cond.fieldLink R_Ba 7 "SignSolids$Ball" "x" "I" ∈ GW := gw_mem (i := 329) (by decide +kernel) (by decide +kernel)
theorem wf_Ba_13 : Cond.fieldLink R_Ba 13 "SignSolids$Ball" "y" "I" ∈ GW := gw_mem (i := 330) (by decide +kernel) (by decide +kernel)
theorem wf_Ba_16 : Cond.fieldLink R_Ba 16 "SignSolids$Ball" "z" "I" ∈ GW := gw_mem (i := 331) (by decide +kernel) (by decide +kernel)
theorem wf_Ba_19 : Cond.fieldLink R_Ba 19 "SignSolids$Ball" "\x72" "I" ∈ GW := gw_mem (i := 332) (by decide +kernel) (by decide +kernel)
theorem wk_Rd_72 : Cond.classLink R_Rd 72 R_Bx ∈ GW := gw_mem (i := 342) (by decide +kernel) (by decide +kernel)
theorem wz_Bx : Cond.instantiable R_Bx 6 ∈ GW := gw_mem (i := 343) (by decide +kernel) (by decide +kernel)
theorem wl_Rd_74 : Cond.methodLink R_Rd 74 y_Bx_init ∈ GW := gw_mem (i := 344) (by decide +kernel) (by decide +kernel)
theorem wi_Bx_init : Cond.instanceMethod y_Bx_init ∈ GW := gw_mem (i := 345) (by decide +kernel) (by decide +kernel)
theorem wc_Bx_init : Cond.code y_Bx_init b_Bx_init 7 none ∈ GW := gw_mem (i := 346) (by decide +kernel) (by decide +kernel)
theorem wf_Bx_7 : Cond.fieldLink R_Bx 7 "SignSolids$Box" "x" "I" ∈ GW := gw_mem (i := 348) (by decide +kernel) (by decide +kernel)
theorem wf_Bx_13 : Cond.fieldLink R_Bx 13 "SignSolids$Box" "y" "I" ∈ GW := gw_mem (i := 349) (by decide +kernel) (by decide +kernel)
theorem wf_Bx_16 : Cond.fieldLink R_Bx 16 "SignSolids$Box" "z" "I" ∈ GW := gw_mem (i := 350) (by decide +kernel) (by decide +kernel)
theorem wf_Bx_19 : Cond.fieldLink R_Bx 19 "SignSolids$Box" "u" "I" ∈ GW := gw_mem (i := 351) (by decide +kernel) (by decide +kernel)
theorem wf_Bx_22 : Cond.fieldLink R_Bx 22 "SignSolids$Box" "v" "I" ∈ GW := gw_mem (i := 352) (by decide +kernel) (by decide +kernel)
theorem wf_Bx_25 : Cond.fieldLink R_Bx 25 "SignSolids$Box" "w" "I" ∈ GW := gw_mem (i := 353) (by decide +kernel) (by decide +kernel)
theorem wk_Rd_77 : Cond.classLink R_Rd 77 R_Pn ∈ GW := gw_mem (i := 367) (by decide +kernel) (by decide +kernel)
theorem wz_Pn : Cond.instantiable R_Pn 4 ∈ GW := gw_mem (i := 368) (by decide +kernel) (by decide +kernel)
theorem wl_Rd_79 : Cond.methodLink R_Rd 79 y_Pn_init ∈ GW := gw_mem (i := 369) (by decide +kernel) (by decide +kernel)
theorem wi_Pn_init : Cond.instanceMethod y_Pn_init ∈ GW := gw_mem (i := 370) (by decide +kernel) (by decide +kernel)
theorem wc_Pn_init : Cond.code y_Pn_init b_Pn_init 5 none ∈ GW := gw_mem (i := 371) (by decide +kernel) (by decide +kernel)
theorem wf_Pn_7 : Cond.fieldLink R_Pn 7 "SignSolids$Plane" "a" "I" ∈ GW := gw_mem (i := 373) (by decide +kernel) (by decide +kernel)
theorem wf_Pn_13 : Cond.fieldLink R_Pn 13 "SignSolids$Plane" "b" "I" ∈ GW := gw_mem (i := 374) (by decide +kernel) (by decide +kernel)
theorem wf_Pn_16 : Cond.fieldLink R_Pn 16 "SignSolids$Plane" "c" "I" ∈ GW := gw_mem (i := 375) (by decide +kernel) (by decide +kernel)
theorem wf_Pn_19 : Cond.fieldLink R_Pn 19 "SignSolids$Plane" "d" "I" ∈ GW := gw_mem (i := 376) (by decide +kernel) (by decide +kernel)
theorem wk_Rd_80 : Cond.classLink R_Rd 80 R_Pa ∈ GW := gw_mem (i := 386) (by decide +kernel) (by decide +kernel)
theorem wz_Pa : Cond.instantiable R_Pa 3 ∈ GW := gw_mem (i := 387) (by decide +kernel) (by decide +kernel)
theorem wl_Rd_82 : Cond.methodLink R_Rd 82 y_Pa_init ∈ GW := gw_mem (i := 388) (by decide +kernel) (by decide +kernel)
theorem wi_Pa_init : Cond.instanceMethod y_Pa_init ∈ GW := gw_mem (i := 389) (by decide +kernel) (by decide +kernel)
theorem wc_Pa_init : Cond.code y_Pa_init b_Pa_init 4 none ∈ GW := gw_mem (i := 390) (by decide +kernel) (by decide +kernel)
theorem wf_Pa_9 : Cond.fieldLink R_Pa 9 "SignSolids$Pair" "kind" "I" ∈ GW := gw_mem (i := 392) (by decide +kernel) (by decide +kernel)
theorem wf_Pa_15 : Cond.fieldLink R_Pa 15 "SignSolids$Pair" "first" "LSignSolids$Form;" ∈ GW := gw_mem (i := 393) (by decide +kernel) (by decide +kernel)
theorem wf_Pa_19 : Cond.fieldLink R_Pa 19 "SignSolids$Pair" "second" "LSignSolids$Form;" ∈ GW := gw_mem (i := 394) (by decide +kernel) (by decide +kernel)
theorem wk_Rd_85 : Cond.classLink R_Rd 85 R_Pl ∈ GW := gw_mem (i := 402) (by decide +kernel) (by decide +kernel)
theorem wz_Pl : Cond.instantiable R_Pl 5 ∈ GW := gw_mem (i := 403) (by decide +kernel) (by decide +kernel)
theorem wl_Rd_87 : Cond.methodLink R_Rd 87 y_Pl_init ∈ GW := gw_mem (i := 404) (by decide +kernel) (by decide +kernel)
theorem wi_Pl_init : Cond.instanceMethod y_Pl_init ∈ GW := gw_mem (i := 405) (by decide +kernel) (by decide +kernel)
theorem wc_Pl_init : Cond.code y_Pl_init b_Pl_init 6 none ∈ GW := gw_mem (i := 406) (by decide +kernel) (by decide +kernel)
theorem wf_Pl_9 : Cond.fieldLink R_Pl 9 "SignSolids$Placed" "kind" "I" ∈ GW := gw_mem (i := 408) (by decide +kernel) (by decide +kernel)
theorem wf_Pl_15 : Cond.fieldLink R_Pl 15 "SignSolids$Placed" "x" "I" ∈ GW := gw_mem (i := 409) (by decide +kernel) (by decide +kernel)
theorem wf_Pl_18 : Cond.fieldLink R_Pl 18 "SignSolids$Placed" "y" "I" ∈ GW := gw_mem (i := 410) (by decide +kernel) (by decide +kernel)
theorem wf_Pl_21 : Cond.fieldLink R_Pl 21 "SignSolids$Placed" "z" "I" ∈ GW := gw_mem (i := 411) (by decide +kernel) (by decide +kernel)
theorem wf_Pl_24 : Cond.fieldLink R_Pl 24 "SignSolids$Placed" "inner" "LSignSolids$Form;" ∈ GW := gw_mem (i := 412) (by decide +kernel) (by decide +kernel)
theorem wz_Bo : Cond.instantiable R_Bo 6 ∈ GW := gw_mem (i := 424) (by decide +kernel) (by decide +kernel)
theorem wl_So_76 : Cond.methodLink R_So 76 y_Bo_init ∈ GW := gw_mem (i := 425) (by decide +kernel) (by decide +kernel)
theorem wi_Bo_init : Cond.instanceMethod y_Bo_init ∈ GW := gw_mem (i := 426) (by decide +kernel) (by decide +kernel)
theorem wc_Bo_init : Cond.code y_Bo_init b_Bo_init 3 none ∈ GW := gw_mem (i := 427) (by decide +kernel) (by decide +kernel)
theorem wl_Bo_3 : Cond.methodLink R_Bo 3 objectInit ∈ GW := gw_mem (i := 428) (by decide +kernel) (by decide +kernel)
theorem wf_Bo_25 : Cond.fieldLink R_Bo 25 "SignSolids$Body" "form" "LSignSolids$Form;" ∈ GW := gw_mem (i := 429) (by decide +kernel) (by decide +kernel)
theorem wf_Bo_29 : Cond.fieldLink R_Bo 29 "SignSolids$Body" "texts" "I" ∈ GW := gw_mem (i := 431) (by decide +kernel) (by decide +kernel)
theorem wf_Bo_9 : Cond.fieldLink R_Bo 9 "SignSolids$Body" "rows" "[I" ∈ GW := gw_mem (i := 433) (by decide +kernel) (by decide +kernel)
theorem wf_Bo_15 : Cond.fieldLink R_Bo 15 "SignSolids$Body" "painted" "Z" ∈ GW := gw_mem (i := 434) (by decide +kernel) (by decide +kernel)
theorem wf_Bo_19 : Cond.fieldLink R_Bo 19 "SignSolids$Body" "partings" "[I" ∈ GW := gw_mem (i := 435) (by decide +kernel) (by decide +kernel)
theorem wf_Bo_22 : Cond.fieldLink R_Bo 22 "SignSolids$Body" "isParted" "Z" ∈ GW := gw_mem (i := 436) (by decide +kernel) (by decide +kernel)
theorem wl_La_30 : Cond.methodLink R_La 30 y_So_fault ∈ GW := gw_mem (i := 450) (by decide +kernel) (by decide +kernel)
theorem wi_So_fault : Cond.instanceMethod y_So_fault ∈ GW := gw_mem (i := 451) (by decide +kernel) (by decide +kernel)
theorem ws_So_fault : Cond.selects R_So y_So_fault y_So_fault ∈ GW := gw_mem (i := 452) (by decide +kernel) (by decide +kernel)
theorem wc_So_fault : Cond.code y_So_fault b_So_fault 1 (some .int) ∈ GW := gw_mem (i := 453) (by decide +kernel) (by decide +kernel)
theorem wl_La_34 : Cond.methodLink R_La 34 y_So_drop ∈ GW := gw_mem (i := 454) (by decide +kernel) (by decide +kernel)
theorem wi_So_drop : Cond.instanceMethod y_So_drop ∈ GW := gw_mem (i := 455) (by decide +kernel) (by decide +kernel)
theorem ws_So_drop : Cond.selects R_So y_So_drop y_So_drop ∈ GW := gw_mem (i := 456) (by decide +kernel) (by decide +kernel)
theorem wc_So_drop : Cond.code y_So_drop b_So_drop 1 (some .int) ∈ GW := gw_mem (i := 457) (by decide +kernel) (by decide +kernel)
theorem wl_La_38 : Cond.methodLink R_La 38 y_So_rule ∈ GW := gw_mem (i := 458) (by decide +kernel) (by decide +kernel)
theorem wi_So_rule : Cond.instanceMethod y_So_rule ∈ GW := gw_mem (i := 459) (by decide +kernel) (by decide +kernel)
theorem ws_So_rule : Cond.selects R_So y_So_rule y_So_rule ∈ GW := gw_mem (i := 460) (by decide +kernel) (by decide +kernel)
theorem wc_So_rule : Cond.code y_So_rule b_So_rule 6 (some .int) ∈ GW := gw_mem (i := 461) (by decide +kernel) (by decide +kernel)
theorem wl_So_79 : Cond.methodLink R_So 79 y_So_bodyNumber ∈ GW := gw_mem (i := 462) (by decide +kernel) (by decide +kernel)
theorem wi_So_bodyNumber : Cond.instanceMethod y_So_bodyNumber ∈ GW := gw_mem (i := 464) (by decide +kernel) (by decide +kernel)
theorem wc_So_bodyNumber : Cond.code y_So_bodyNumber b_So_bodyNumber 2 (some (.object "SignSolids$Body")) ∈ GW := gw_mem (i := 465) (by decide +kernel) (by decide +kernel)
theorem wl_So_83 : Cond.methodLink R_So 83 y_So_isNear ∈ GW := gw_mem (i := 466) (by decide +kernel) (by decide +kernel)
theorem wt_So_isNear : Cond.static y_So_isNear ∈ GW := gw_mem (i := 467) (by decide +kernel) (by decide +kernel)
theorem wc_So_isNear : Cond.code y_So_isNear b_So_isNear 2 (some .boolean) ∈ GW := gw_mem (i := 468) (by decide +kernel) (by decide +kernel)
theorem wl_So_106 : Cond.methodLink R_So 106 y_So_isBetween ∈ GW := gw_mem (i := 469) (by decide +kernel) (by decide +kernel)
theorem wt_So_isBetween : Cond.static y_So_isBetween ∈ GW := gw_mem (i := 470) (by decide +kernel) (by decide +kernel)
theorem wc_So_isBetween : Cond.code y_So_isBetween b_So_isBetween 3 (some .boolean) ∈ GW := gw_mem (i := 471) (by decide +kernel) (by decide +kernel)
theorem wx_So_87 : Cond.constant R_So 87 (-1000000000) ∈ GW := gw_mem (i := 472) (by decide +kernel) (by decide +kernel)
theorem wl_So_92 : Cond.methodLink R_So 92 ⟨"SignSolids$Form", "valueAt", "(III)I"⟩ ∈ GW := gw_mem (i := 473) (by decide +kernel) (by decide +kernel)
theorem wq_Fo_valueAt : Cond.sameMethod "SignSolids$Form" "SignSolids$Form" "valueAt" "(III)I" ∈ GW := gw_mem (i := 475) (by decide +kernel) (by decide +kernel)
theorem ws_Ba_Fo_valueAt : Cond.selects R_Ba ⟨"SignSolids$Form", "valueAt", "(III)I"⟩ y_Ba_valueAt ∈ GW := gw_mem (i := 476) (by decide +kernel) (by decide +kernel)
theorem wi_Ba_valueAt : Cond.instanceMethod y_Ba_valueAt ∈ GW := gw_mem (i := 477) (by decide +kernel) (by decide +kernel)
theorem wc_Ba_valueAt : Cond.code y_Ba_valueAt b_Ba_valueAt 4 (some .int) ∈ GW := gw_mem (i := 478) (by decide +kernel) (by decide +kernel)
theorem ws_Bx_Fo_valueAt : Cond.selects R_Bx ⟨"SignSolids$Form", "valueAt", "(III)I"⟩ y_Bx_valueAt ∈ GW := gw_mem (i := 479) (by decide +kernel) (by decide +kernel)
theorem wi_Bx_valueAt : Cond.instanceMethod y_Bx_valueAt ∈ GW := gw_mem (i := 480) (by decide +kernel) (by decide +kernel)
theorem wc_Bx_valueAt : Cond.code y_Bx_valueAt b_Bx_valueAt 7 (some .int) ∈ GW := gw_mem (i := 481) (by decide +kernel) (by decide +kernel)
theorem wl_Bx_28 : Cond.methodLink R_Bx 28 y_Ma_max ∈ GW := gw_mem (i := 482) (by decide +kernel) (by decide +kernel)
theorem wt_Ma_max : Cond.static y_Ma_max ∈ GW := gw_mem (i := 483) (by decide +kernel) (by decide +kernel)
theorem wc_Ma_max : Cond.code y_Ma_max b_Ma_max 2 (some .int) ∈ GW := gw_mem (i := 484) (by decide +kernel) (by decide +kernel)
theorem ws_Pa_Fo_valueAt : Cond.selects R_Pa ⟨"SignSolids$Form", "valueAt", "(III)I"⟩ y_Pa_valueAt ∈ GW := gw_mem (i := 485) (by decide +kernel) (by decide +kernel)
theorem wi_Pa_valueAt : Cond.instanceMethod y_Pa_valueAt ∈ GW := gw_mem (i := 486) (by decide +kernel) (by decide +kernel)
theorem wc_Pa_valueAt : Cond.code y_Pa_valueAt b_Pa_valueAt 4 (some .int) ∈ GW := gw_mem (i := 487) (by decide +kernel) (by decide +kernel)
theorem wl_Pa_22 : Cond.methodLink R_Pa 22 ⟨"SignSolids$Form", "valueAt", "(III)I"⟩ ∈ GW := gw_mem (i := 488) (by decide +kernel) (by decide +kernel)
theorem wi_Pl_valueAt : Cond.instanceMethod y_Pl_valueAt ∈ GW := gw_mem (i := 489) (by decide +kernel) (by decide +kernel)
theorem wc_Pl_valueAt : Cond.code y_Pl_valueAt b_Pl_valueAt 4 (some .int) ∈ GW := gw_mem (i := 490) (by decide +kernel) (by decide +kernel)
theorem wl_Pl_28 : Cond.methodLink R_Pl 28 ⟨"SignSolids$Form", "valueAt", "(III)I"⟩ ∈ GW := gw_mem (i := 491) (by decide +kernel) (by decide +kernel)
theorem wi_Pn_valueAt : Cond.instanceMethod y_Pn_valueAt ∈ GW := gw_mem (i := 492) (by decide +kernel) (by decide +kernel)
theorem wc_Pn_valueAt : Cond.code y_Pn_valueAt b_Pn_valueAt 4 (some .int) ∈ GW := gw_mem (i := 493) (by decide +kernel) (by decide +kernel)
theorem wl_Pl_32 : Cond.methodLink R_Pl 32 y_Pl_modulo ∈ GW := gw_mem (i := 494) (by decide +kernel) (by decide +kernel)
theorem wi_Pl_modulo : Cond.instanceMethod y_Pl_modulo ∈ GW := gw_mem (i := 496) (by decide +kernel) (by decide +kernel)
theorem wc_Pl_modulo : Cond.code y_Pl_modulo b_Pl_modulo 2 (some .int) ∈ GW := gw_mem (i := 497) (by decide +kernel) (by decide +kernel)
theorem wl_Pl_43 : Cond.methodLink R_Pl 43 y_Ma_floorMod ∈ GW := gw_mem (i := 498) (by decide +kernel) (by decide +kernel)
theorem wt_Ma_floorMod : Cond.static y_Ma_floorMod ∈ GW := gw_mem (i := 499) (by decide +kernel) (by decide +kernel)
theorem wc_Ma_floorMod : Cond.code y_Ma_floorMod b_Ma_floorMod 3 (some .int) ∈ GW := gw_mem (i := 500) (by decide +kernel) (by decide +kernel)
theorem wl_Pa_26 : Cond.methodLink R_Pa 26 y_Pa_joined ∈ GW := gw_mem (i := 501) (by decide +kernel) (by decide +kernel)
theorem wi_Pa_joined : Cond.instanceMethod y_Pa_joined ∈ GW := gw_mem (i := 503) (by decide +kernel) (by decide +kernel)
theorem wc_Pa_joined : Cond.code y_Pa_joined b_Pa_joined 3 (some .int) ∈ GW := gw_mem (i := 504) (by decide +kernel) (by decide +kernel)
theorem wl_Pa_34 : Cond.methodLink R_Pa 34 y_Ma_min ∈ GW := gw_mem (i := 505) (by decide +kernel) (by decide +kernel)
theorem wt_Ma_min : Cond.static y_Ma_min ∈ GW := gw_mem (i := 506) (by decide +kernel) (by decide +kernel)
theorem wc_Ma_min : Cond.code y_Ma_min b_Ma_min 2 (some .int) ∈ GW := gw_mem (i := 507) (by decide +kernel) (by decide +kernel)
theorem wl_Pa_39 : Cond.methodLink R_Pa 39 y_Ma_max ∈ GW := gw_mem (i := 508) (by decide +kernel) (by decide +kernel)
theorem ws_Pl_Fo_valueAt : Cond.selects R_Pl ⟨"SignSolids$Form", "valueAt", "(III)I"⟩ y_Pl_valueAt ∈ GW := gw_mem (i := 509) (by decide +kernel) (by decide +kernel)
theorem ws_Pn_Fo_valueAt : Cond.selects R_Pn ⟨"SignSolids$Form", "valueAt", "(III)I"⟩ y_Pn_valueAt ∈ GW := gw_mem (i := 510) (by decide +kernel) (by decide +kernel)
theorem wl_La_43 : Cond.methodLink R_La 43 y_So_span ∈ GW := gw_mem (i := 511) (by decide +kernel) (by decide +kernel)
theorem wi_So_span : Cond.instanceMethod y_So_span ∈ GW := gw_mem (i := 512) (by decide +kernel) (by decide +kernel)
theorem ws_So_span : Cond.selects R_So y_So_span y_So_span ∈ GW := gw_mem (i := 513) (by decide +kernel) (by decide +kernel)
theorem wc_So_span : Cond.code y_So_span b_So_span 10 (some .int) ∈ GW := gw_mem (i := 514) (by decide +kernel) (by decide +kernel)
theorem wl_So_98 : Cond.methodLink R_So 98 y_So_isPoint ∈ GW := gw_mem (i := 515) (by decide +kernel) (by decide +kernel)
theorem wt_So_isPoint : Cond.static y_So_isPoint ∈ GW := gw_mem (i := 516) (by decide +kernel) (by decide +kernel)
theorem wc_So_isPoint : Cond.code y_So_isPoint b_So_isPoint 3 (some .boolean) ∈ GW := gw_mem (i := 517) (by decide +kernel) (by decide +kernel)
theorem wl_So_102 : Cond.methodLink R_So 102 ⟨"SignSolids$Form", "bound", "(IIIIIIZ)I"⟩ ∈ GW := gw_mem (i := 518) (by decide +kernel) (by decide +kernel)
theorem wq_Fo_bound : Cond.sameMethod "SignSolids$Form" "SignSolids$Form" "bound" "(IIIIIIZ)I" ∈ GW := gw_mem (i := 520) (by decide +kernel) (by decide +kernel)
theorem ws_Ba_Fo_bound : Cond.selects R_Ba ⟨"SignSolids$Form", "bound", "(IIIIIIZ)I"⟩ y_Ba_bound ∈ GW := gw_mem (i := 521) (by decide +kernel) (by decide +kernel)
theorem wi_Ba_bound : Cond.instanceMethod y_Ba_bound ∈ GW := gw_mem (i := 522) (by decide +kernel) (by decide +kernel)
theorem wc_Ba_bound : Cond.code y_Ba_bound b_Ba_bound 9 (some .int) ∈ GW := gw_mem (i := 523) (by decide +kernel) (by decide +kernel)
theorem wl_Ba_22 : Cond.methodLink R_Ba 22 y_Ba_squareBound ∈ GW := gw_mem (i := 524) (by decide +kernel) (by decide +kernel)
theorem wt_Ba_squareBound : Cond.static y_Ba_squareBound ∈ GW := gw_mem (i := 525) (by decide +kernel) (by decide +kernel)
theorem wc_Ba_squareBound : Cond.code y_Ba_squareBound b_Ba_squareBound 3 (some .int) ∈ GW := gw_mem (i := 526) (by decide +kernel) (by decide +kernel)
theorem wl_Ba_26 : Cond.methodLink R_Ba 26 y_Ma_max ∈ GW := gw_mem (i := 527) (by decide +kernel) (by decide +kernel)
theorem wl_Ba_32 : Cond.methodLink R_Ba 32 y_Ma_min ∈ GW := gw_mem (i := 528) (by decide +kernel) (by decide +kernel)
theorem ws_Bx_Fo_bound : Cond.selects R_Bx ⟨"SignSolids$Form", "bound", "(IIIIIIZ)I"⟩ y_Bx_bound ∈ GW := gw_mem (i := 529) (by decide +kernel) (by decide +kernel)
theorem wi_Bx_bound : Cond.instanceMethod y_Bx_bound ∈ GW := gw_mem (i := 530) (by decide +kernel) (by decide +kernel)
theorem wc_Bx_bound : Cond.code y_Bx_bound b_Bx_bound 11 (some .int) ∈ GW := gw_mem (i := 531) (by decide +kernel) (by decide +kernel)
theorem ws_Pa_Fo_bound : Cond.selects R_Pa ⟨"SignSolids$Form", "bound", "(IIIIIIZ)I"⟩ y_Pa_bound ∈ GW := gw_mem (i := 532) (by decide +kernel) (by decide +kernel)
theorem wi_Pa_bound : Cond.instanceMethod y_Pa_bound ∈ GW := gw_mem (i := 533) (by decide +kernel) (by decide +kernel)
theorem wc_Pa_bound : Cond.code y_Pa_bound b_Pa_bound 9 (some .int) ∈ GW := gw_mem (i := 534) (by decide +kernel) (by decide +kernel)
theorem wl_Pa_30 : Cond.methodLink R_Pa 30 ⟨"SignSolids$Form", "bound", "(IIIIIIZ)I"⟩ ∈ GW := gw_mem (i := 535) (by decide +kernel) (by decide +kernel)
theorem wi_Pl_bound : Cond.instanceMethod y_Pl_bound ∈ GW := gw_mem (i := 536) (by decide +kernel) (by decide +kernel)
theorem wc_Pl_bound : Cond.code y_Pl_bound b_Pl_bound 8 (some .int) ∈ GW := gw_mem (i := 537) (by decide +kernel) (by decide +kernel)
theorem wl_Pl_36 : Cond.methodLink R_Pl 36 ⟨"SignSolids$Form", "bound", "(IIIIIIZ)I"⟩ ∈ GW := gw_mem (i := 538) (by decide +kernel) (by decide +kernel)
theorem wi_Pn_bound : Cond.instanceMethod y_Pn_bound ∈ GW := gw_mem (i := 539) (by decide +kernel) (by decide +kernel)
theorem wc_Pn_bound : Cond.code y_Pn_bound b_Pn_bound 11 (some .int) ∈ GW := gw_mem (i := 540) (by decide +kernel) (by decide +kernel)
theorem wl_Pn_22 : Cond.methodLink R_Pn 22 y_Ma_max ∈ GW := gw_mem (i := 541) (by decide +kernel) (by decide +kernel)
theorem wl_Pn_28 : Cond.methodLink R_Pn 28 y_Ma_min ∈ GW := gw_mem (i := 542) (by decide +kernel) (by decide +kernel)
theorem wl_Pl_40 : Cond.methodLink R_Pl 40 y_Pl_repeatedBound ∈ GW := gw_mem (i := 543) (by decide +kernel) (by decide +kernel)
theorem wi_Pl_repeatedBound : Cond.instanceMethod y_Pl_repeatedBound ∈ GW := gw_mem (i := 545) (by decide +kernel) (by decide +kernel)
theorem wc_Pl_repeatedBound : Cond.code y_Pl_repeatedBound b_Pl_repeatedBound 10 (some .int) ∈ GW := gw_mem (i := 546) (by decide +kernel) (by decide +kernel)
theorem ws_Pl_Fo_bound : Cond.selects R_Pl ⟨"SignSolids$Form", "bound", "(IIIIIIZ)I"⟩ y_Pl_bound ∈ GW := gw_mem (i := 547) (by decide +kernel) (by decide +kernel)
theorem ws_Pn_Fo_bound : Cond.selects R_Pn ⟨"SignSolids$Form", "bound", "(IIIIIIZ)I"⟩ y_Pn_bound ∈ GW := gw_mem (i := 548) (by decide +kernel) (by decide +kernel)
theorem wl_La_48 : Cond.methodLink R_La 48 y_So_parted ∈ GW := gw_mem (i := 549) (by decide +kernel) (by decide +kernel)
theorem wi_So_parted : Cond.instanceMethod y_So_parted ∈ GW := gw_mem (i := 550) (by decide +kernel) (by decide +kernel)
theorem ws_So_parted : Cond.selects R_So y_So_parted y_So_parted ∈ GW := gw_mem (i := 551) (by decide +kernel) (by decide +kernel)
theorem wc_So_parted : Cond.code y_So_parted b_So_parted 4 (some .int) ∈ GW := gw_mem (i := 552) (by decide +kernel) (by decide +kernel)
theorem wl_So_109 : Cond.methodLink R_So 109 y_Bo_partedNumber ∈ GW := gw_mem (i := 553) (by decide +kernel) (by decide +kernel)
theorem wi_Bo_partedNumber : Cond.instanceMethod y_Bo_partedNumber ∈ GW := gw_mem (i := 554) (by decide +kernel) (by decide +kernel)
theorem ws_Bo_partedNumber : Cond.selects R_Bo y_Bo_partedNumber y_Bo_partedNumber ∈ GW := gw_mem (i := 555) (by decide +kernel) (by decide +kernel)
theorem wc_Bo_partedNumber : Cond.code y_Bo_partedNumber b_Bo_partedNumber 2 (some .int) ∈ GW := gw_mem (i := 556) (by decide +kernel) (by decide +kernel)
theorem wl_Bo_65 : Cond.methodLink R_Bo 65 y_Bo_partBlock ∈ GW := gw_mem (i := 557) (by decide +kernel) (by decide +kernel)
theorem wi_Bo_partBlock : Cond.instanceMethod y_Bo_partBlock ∈ GW := gw_mem (i := 559) (by decide +kernel) (by decide +kernel)
theorem wc_Bo_partBlock : Cond.code y_Bo_partBlock b_Bo_partBlock 10 none ∈ GW := gw_mem (i := 560) (by decide +kernel) (by decide +kernel)
theorem wl_Bo_69 : Cond.methodLink R_Bo 69 y_Ma_max ∈ GW := gw_mem (i := 561) (by decide +kernel) (by decide +kernel)
theorem wl_Bo_74 : Cond.methodLink R_Bo 74 ⟨"SignSolids$Form", "bound", "(IIIIIIZ)I"⟩ ∈ GW := gw_mem (i := 562) (by decide +kernel) (by decide +kernel)
theorem wl_Bo_78 : Cond.methodLink R_Bo 78 y_Bo_partInTwos ∈ GW := gw_mem (i := 563) (by decide +kernel) (by decide +kernel)
theorem wi_Bo_partInTwos : Cond.instanceMethod y_Bo_partInTwos ∈ GW := gw_mem (i := 565) (by decide +kernel) (by decide +kernel)
theorem wc_Bo_partInTwos : Cond.code y_Bo_partInTwos b_Bo_partInTwos 18 none ∈ GW := gw_mem (i := 566) (by decide +kernel) (by decide +kernel)
theorem wl_La_53 : Cond.methodLink R_La 53 y_So_volume ∈ GW := gw_mem (i := 567) (by decide +kernel) (by decide +kernel)
theorem wi_So_volume : Cond.instanceMethod y_So_volume ∈ GW := gw_mem (i := 568) (by decide +kernel) (by decide +kernel)
theorem ws_So_volume : Cond.selects R_So y_So_volume y_So_volume ∈ GW := gw_mem (i := 569) (by decide +kernel) (by decide +kernel)
theorem wc_So_volume : Cond.code y_So_volume b_So_volume 3 (some .int) ∈ GW := gw_mem (i := 570) (by decide +kernel) (by decide +kernel)
theorem wl_So_113 : Cond.methodLink R_So 113 y_So_paintedBody ∈ GW := gw_mem (i := 571) (by decide +kernel) (by decide +kernel)
theorem wi_So_paintedBody : Cond.instanceMethod y_So_paintedBody ∈ GW := gw_mem (i := 573) (by decide +kernel) (by decide +kernel)
theorem wc_So_paintedBody : Cond.code y_So_paintedBody b_So_paintedBody 3 (some (.object "SignSolids$Body")) ∈ GW := gw_mem (i := 574) (by decide +kernel) (by decide +kernel)
theorem wl_So_213 : Cond.methodLink R_So 213 y_Bo_paint ∈ GW := gw_mem (i := 575) (by decide +kernel) (by decide +kernel)
theorem wi_Bo_paint : Cond.instanceMethod y_Bo_paint ∈ GW := gw_mem (i := 576) (by decide +kernel) (by decide +kernel)
theorem ws_Bo_paint : Cond.selects R_Bo y_Bo_paint y_Bo_paint ∈ GW := gw_mem (i := 577) (by decide +kernel) (by decide +kernel)
theorem wc_Bo_paint : Cond.code y_Bo_paint b_Bo_paint 4 none ∈ GW := gw_mem (i := 578) (by decide +kernel) (by decide +kernel)
theorem wl_Bo_37 : Cond.methodLink R_Bo 37 ⟨"SignSolids$Form", "valueAt", "(III)I"⟩ ∈ GW := gw_mem (i := 579) (by decide +kernel) (by decide +kernel)
theorem wl_So_116 : Cond.methodLink R_So 116 y_Bo_size ∈ GW := gw_mem (i := 580) (by decide +kernel) (by decide +kernel)
theorem wi_Bo_size : Cond.instanceMethod y_Bo_size ∈ GW := gw_mem (i := 581) (by decide +kernel) (by decide +kernel)
theorem ws_Bo_size : Cond.selects R_Bo y_Bo_size y_Bo_size ∈ GW := gw_mem (i := 582) (by decide +kernel) (by decide +kernel)
theorem wc_Bo_size : Cond.code y_Bo_size b_Bo_size 3 (some .int) ∈ GW := gw_mem (i := 583) (by decide +kernel) (by decide +kernel)
theorem wl_Bo_47 : Cond.methodLink R_Bo 47 y_Bo_sliceSize ∈ GW := gw_mem (i := 584) (by decide +kernel) (by decide +kernel)
theorem wi_Bo_sliceSize : Cond.instanceMethod y_Bo_sliceSize ∈ GW := gw_mem (i := 585) (by decide +kernel) (by decide +kernel)
theorem ws_Bo_sliceSize : Cond.selects R_Bo y_Bo_sliceSize y_Bo_sliceSize ∈ GW := gw_mem (i := 586) (by decide +kernel) (by decide +kernel)
theorem wc_Bo_sliceSize : Cond.code y_Bo_sliceSize b_Bo_sliceSize 4 (some .int) ∈ GW := gw_mem (i := 587) (by decide +kernel) (by decide +kernel)
theorem wl_Bo_51 : Cond.methodLink R_Bo 51 y_Bo_rowAt ∈ GW := gw_mem (i := 588) (by decide +kernel) (by decide +kernel)
theorem wi_Bo_rowAt : Cond.instanceMethod y_Bo_rowAt ∈ GW := gw_mem (i := 589) (by decide +kernel) (by decide +kernel)
theorem ws_Bo_rowAt : Cond.selects R_Bo y_Bo_rowAt y_Bo_rowAt ∈ GW := gw_mem (i := 590) (by decide +kernel) (by decide +kernel)
theorem wc_Bo_rowAt : Cond.code y_Bo_rowAt b_Bo_rowAt 4 (some .int) ∈ GW := gw_mem (i := 591) (by decide +kernel) (by decide +kernel)
theorem wt_So_rowPlace : Cond.static y_So_rowPlace ∈ GW := gw_mem (i := 593) (by decide +kernel) (by decide +kernel)
theorem wc_So_rowPlace : Cond.code y_So_rowPlace b_So_rowPlace 3 (some .int) ∈ GW := gw_mem (i := 594) (by decide +kernel) (by decide +kernel)
theorem wl_Bo_54 : Cond.methodLink R_Bo 54 y_In_bitCount ∈ GW := gw_mem (i := 595) (by decide +kernel) (by decide +kernel)
theorem wt_In_bitCount : Cond.static y_In_bitCount ∈ GW := gw_mem (i := 596) (by decide +kernel) (by decide +kernel)
theorem wc_In_bitCount : Cond.code y_In_bitCount b_In_bitCount 1 (some .int) ∈ GW := gw_mem (i := 597) (by decide +kernel) (by decide +kernel)
theorem wx_In_265 : Cond.constant R_In 265 (1431655765) ∈ GW := gw_mem (i := 598) (by decide +kernel) (by decide +kernel)
theorem wx_In_266 : Cond.constant R_In 266 (858993459) ∈ GW := gw_mem (i := 599) (by decide +kernel) (by decide +kernel)
theorem wx_In_267 : Cond.constant R_In 267 (252645135) ∈ GW := gw_mem (i := 600) (by decide +kernel) (by decide +kernel)
theorem wl_La_57 : Cond.methodLink R_La 57 y_So_point ∈ GW := gw_mem (i := 601) (by decide +kernel) (by decide +kernel)
theorem wi_So_point : Cond.instanceMethod y_So_point ∈ GW := gw_mem (i := 602) (by decide +kernel) (by decide +kernel)
theorem ws_So_point : Cond.selects R_So y_So_point y_So_point ∈ GW := gw_mem (i := 603) (by decide +kernel) (by decide +kernel)
theorem wc_So_point : Cond.code y_So_point b_So_point 5 (some .int) ∈ GW := gw_mem (i := 604) (by decide +kernel) (by decide +kernel)
theorem wl_So_120 : Cond.methodLink R_So 120 y_Bo_coordinate ∈ GW := gw_mem (i := 605) (by decide +kernel) (by decide +kernel)
theorem wi_Bo_coordinate : Cond.instanceMethod y_Bo_coordinate ∈ GW := gw_mem (i := 606) (by decide +kernel) (by decide +kernel)
theorem ws_Bo_coordinate : Cond.selects R_Bo y_Bo_coordinate y_Bo_coordinate ∈ GW := gw_mem (i := 607) (by decide +kernel) (by decide +kernel)
theorem wc_Bo_coordinate : Cond.code y_Bo_coordinate b_Bo_coordinate 8 (some .int) ∈ GW := gw_mem (i := 608) (by decide +kernel) (by decide +kernel)
theorem wl_Bo_59 : Cond.methodLink R_Bo 59 y_Bo_xOfPoint ∈ GW := gw_mem (i := 609) (by decide +kernel) (by decide +kernel)
theorem wt_Bo_xOfPoint : Cond.static y_Bo_xOfPoint ∈ GW := gw_mem (i := 610) (by decide +kernel) (by decide +kernel)
theorem wc_Bo_xOfPoint : Cond.code y_Bo_xOfPoint b_Bo_xOfPoint 4 (some .int) ∈ GW := gw_mem (i := 611) (by decide +kernel) (by decide +kernel)
theorem wl_Bo_62 : Cond.methodLink R_Bo 62 y_In_numberOfTrailingZeros ∈ GW := gw_mem (i := 612) (by decide +kernel) (by decide +kernel)
theorem wt_In_numberOfTrailingZeros : Cond.static y_In_numberOfTrailingZeros ∈ GW := gw_mem (i := 613) (by decide +kernel) (by decide +kernel)
theorem wc_In_numberOfTrailingZeros : Cond.code y_In_numberOfTrailingZeros b_In_numberOfTrailingZeros 2 (some .int) ∈ GW := gw_mem (i := 614) (by decide +kernel) (by decide +kernel)
theorem wx_In_264 : Cond.constant R_In 264 (65536) ∈ GW := gw_mem (i := 615) (by decide +kernel) (by decide +kernel)
theorem wl_La_62 : Cond.methodLink R_La 62 y_So_skin ∈ GW := gw_mem (i := 616) (by decide +kernel) (by decide +kernel)
theorem wi_So_skin : Cond.instanceMethod y_So_skin ∈ GW := gw_mem (i := 617) (by decide +kernel) (by decide +kernel)
theorem ws_So_skin : Cond.selects R_So y_So_skin y_So_skin ∈ GW := gw_mem (i := 618) (by decide +kernel) (by decide +kernel)
theorem wc_So_skin : Cond.code y_So_skin b_So_skin 4 (some .int) ∈ GW := gw_mem (i := 619) (by decide +kernel) (by decide +kernel)
theorem wl_So_124 : Cond.methodLink R_So 124 y_Bo_squares ∈ GW := gw_mem (i := 620) (by decide +kernel) (by decide +kernel)
theorem wi_Bo_squares : Cond.instanceMethod y_Bo_squares ∈ GW := gw_mem (i := 621) (by decide +kernel) (by decide +kernel)
theorem ws_Bo_squares : Cond.selects R_Bo y_Bo_squares y_Bo_squares ∈ GW := gw_mem (i := 622) (by decide +kernel) (by decide +kernel)
theorem wc_Bo_squares : Cond.code y_Bo_squares b_Bo_squares 5 (some .int) ∈ GW := gw_mem (i := 623) (by decide +kernel) (by decide +kernel)
theorem wl_Bo_81 : Cond.methodLink R_Bo 81 y_Bo_outline ∈ GW := gw_mem (i := 624) (by decide +kernel) (by decide +kernel)
theorem wi_Bo_outline : Cond.instanceMethod y_Bo_outline ∈ GW := gw_mem (i := 625) (by decide +kernel) (by decide +kernel)
theorem ws_Bo_outline : Cond.selects R_Bo y_Bo_outline y_Bo_outline ∈ GW := gw_mem (i := 626) (by decide +kernel) (by decide +kernel)
theorem wc_Bo_outline : Cond.code y_Bo_outline b_Bo_outline 5 (some .int) ∈ GW := gw_mem (i := 627) (by decide +kernel) (by decide +kernel)
theorem wl_So_127 : Cond.methodLink R_So 127 y_Bo_edges ∈ GW := gw_mem (i := 628) (by decide +kernel) (by decide +kernel)
theorem wi_Bo_edges : Cond.instanceMethod y_Bo_edges ∈ GW := gw_mem (i := 629) (by decide +kernel) (by decide +kernel)
theorem ws_Bo_edges : Cond.selects R_Bo y_Bo_edges y_Bo_edges ∈ GW := gw_mem (i := 630) (by decide +kernel) (by decide +kernel)
theorem wc_Bo_edges : Cond.code y_Bo_edges b_Bo_edges 8 (some .int) ∈ GW := gw_mem (i := 631) (by decide +kernel) (by decide +kernel)
theorem wl_Bo_84 : Cond.methodLink R_Bo 84 y_Bo_edgesRound ∈ GW := gw_mem (i := 632) (by decide +kernel) (by decide +kernel)
theorem wt_Bo_edgesRound : Cond.static y_Bo_edgesRound ∈ GW := gw_mem (i := 633) (by decide +kernel) (by decide +kernel)
theorem wc_Bo_edgesRound : Cond.code y_Bo_edgesRound b_Bo_edgesRound 6 (some .int) ∈ GW := gw_mem (i := 634) (by decide +kernel) (by decide +kernel)
theorem wl_So_131 : Cond.methodLink R_So 131 y_Bo_corners ∈ GW := gw_mem (i := 635) (by decide +kernel) (by decide +kernel)
theorem wi_Bo_corners : Cond.instanceMethod y_Bo_corners ∈ GW := gw_mem (i := 636) (by decide +kernel) (by decide +kernel)
theorem ws_Bo_corners : Cond.selects R_Bo y_Bo_corners y_Bo_corners ∈ GW := gw_mem (i := 637) (by decide +kernel) (by decide +kernel)
theorem wc_Bo_corners : Cond.code y_Bo_corners b_Bo_corners 10 (some .int) ∈ GW := gw_mem (i := 638) (by decide +kernel) (by decide +kernel)
theorem wl_La_66 : Cond.methodLink R_La 66 y_So_parts ∈ GW := gw_mem (i := 639) (by decide +kernel) (by decide +kernel)
theorem wi_So_parts : Cond.instanceMethod y_So_parts ∈ GW := gw_mem (i := 640) (by decide +kernel) (by decide +kernel)
theorem ws_So_parts : Cond.selects R_So y_So_parts y_So_parts ∈ GW := gw_mem (i := 641) (by decide +kernel) (by decide +kernel)
theorem wc_So_parts : Cond.code y_So_parts b_So_parts 4 (some .int) ∈ GW := gw_mem (i := 642) (by decide +kernel) (by decide +kernel)
theorem wl_So_134 : Cond.methodLink R_So 134 y_Fl_loadWithin ∈ GW := gw_mem (i := 643) (by decide +kernel) (by decide +kernel)
theorem wi_Fl_loadWithin : Cond.instanceMethod y_Fl_loadWithin ∈ GW := gw_mem (i := 644) (by decide +kernel) (by decide +kernel)
theorem ws_Fl_loadWithin : Cond.selects R_Fl y_Fl_loadWithin y_Fl_loadWithin ∈ GW := gw_mem (i := 645) (by decide +kernel) (by decide +kernel)
theorem wc_Fl_loadWithin : Cond.code y_Fl_loadWithin b_Fl_loadWithin 3 none ∈ GW := gw_mem (i := 646) (by decide +kernel) (by decide +kernel)
theorem wl_Fl_35 : Cond.methodLink R_Fl 35 y_Fl_yOf ∈ GW := gw_mem (i := 647) (by decide +kernel) (by decide +kernel)
theorem wt_Fl_yOf : Cond.static y_Fl_yOf ∈ GW := gw_mem (i := 648) (by decide +kernel) (by decide +kernel)
theorem wc_Fl_yOf : Cond.code y_Fl_yOf b_Fl_yOf 1 (some .int) ∈ GW := gw_mem (i := 649) (by decide +kernel) (by decide +kernel)
theorem wl_Fl_39 : Cond.methodLink R_Fl 39 y_Fl_zOf ∈ GW := gw_mem (i := 650) (by decide +kernel) (by decide +kernel)
theorem wt_Fl_zOf : Cond.static y_Fl_zOf ∈ GW := gw_mem (i := 651) (by decide +kernel) (by decide +kernel)
theorem wc_Fl_zOf : Cond.code y_Fl_zOf b_Fl_zOf 1 (some .int) ∈ GW := gw_mem (i := 652) (by decide +kernel) (by decide +kernel)
theorem wl_Fl_42 : Cond.methodLink R_Fl 42 y_Bo_rowAt ∈ GW := gw_mem (i := 653) (by decide +kernel) (by decide +kernel)
theorem wl_So_138 : Cond.methodLink R_So 138 y_Fl_countPieces ∈ GW := gw_mem (i := 654) (by decide +kernel) (by decide +kernel)
theorem wi_Fl_countPieces : Cond.instanceMethod y_Fl_countPieces ∈ GW := gw_mem (i := 655) (by decide +kernel) (by decide +kernel)
theorem ws_Fl_countPieces : Cond.selects R_Fl y_Fl_countPieces y_Fl_countPieces ∈ GW := gw_mem (i := 656) (by decide +kernel) (by decide +kernel)
theorem wc_Fl_countPieces : Cond.code y_Fl_countPieces b_Fl_countPieces 2 (some .int) ∈ GW := gw_mem (i := 657) (by decide +kernel) (by decide +kernel)
theorem wl_Fl_49 : Cond.methodLink R_Fl 49 y_Fl_takePiece ∈ GW := gw_mem (i := 658) (by decide +kernel) (by decide +kernel)
theorem wi_Fl_takePiece : Cond.instanceMethod y_Fl_takePiece ∈ GW := gw_mem (i := 660) (by decide +kernel) (by decide +kernel)
theorem wc_Fl_takePiece : Cond.code y_Fl_takePiece b_Fl_takePiece 2 (some .boolean) ∈ GW := gw_mem (i := 661) (by decide +kernel) (by decide +kernel)
theorem wl_Fl_65 : Cond.methodLink R_Fl 65 y_Fl_take ∈ GW := gw_mem (i := 662) (by decide +kernel) (by decide +kernel)
theorem wi_Fl_take : Cond.instanceMethod y_Fl_take ∈ GW := gw_mem (i := 664) (by decide +kernel) (by decide +kernel)
theorem wc_Fl_take : Cond.code y_Fl_take b_Fl_take 5 none ∈ GW := gw_mem (i := 665) (by decide +kernel) (by decide +kernel)
theorem wl_Fl_69 : Cond.methodLink R_Fl 69 y_Fl_spread ∈ GW := gw_mem (i := 667) (by decide +kernel) (by decide +kernel)
theorem wi_Fl_spread : Cond.instanceMethod y_Fl_spread ∈ GW := gw_mem (i := 669) (by decide +kernel) (by decide +kernel)
theorem wc_Fl_spread : Cond.code y_Fl_spread b_Fl_spread 5 none ∈ GW := gw_mem (i := 670) (by decide +kernel) (by decide +kernel)
theorem wl_Fl_73 : Cond.methodLink R_Fl 73 y_Fl_grown ∈ GW := gw_mem (i := 671) (by decide +kernel) (by decide +kernel)
theorem wt_Fl_grown : Cond.static y_Fl_grown ∈ GW := gw_mem (i := 672) (by decide +kernel) (by decide +kernel)
theorem wc_Fl_grown : Cond.code y_Fl_grown b_Fl_grown 4 (some .int) ∈ GW := gw_mem (i := 673) (by decide +kernel) (by decide +kernel)
theorem wl_Fl_76 : Cond.methodLink R_Fl 76 y_In_bitCount ∈ GW := gw_mem (i := 674) (by decide +kernel) (by decide +kernel)
theorem wl_Fl_81 : Cond.methodLink R_Fl 81 y_Fl_isAtEnd ∈ GW := gw_mem (i := 675) (by decide +kernel) (by decide +kernel)
theorem wt_Fl_isAtEnd : Cond.static y_Fl_isAtEnd ∈ GW := gw_mem (i := 676) (by decide +kernel) (by decide +kernel)
theorem wc_Fl_isAtEnd : Cond.code y_Fl_isAtEnd b_Fl_isAtEnd 1 (some .boolean) ∈ GW := gw_mem (i := 677) (by decide +kernel) (by decide +kernel)
theorem wx_Fl_85 : Cond.constant R_Fl 85 (32770) ∈ GW := gw_mem (i := 678) (by decide +kernel) (by decide +kernel)
theorem wl_So_141 : Cond.methodLink R_So 141 y_Fl_greatestPiece ∈ GW := gw_mem (i := 679) (by decide +kernel) (by decide +kernel)
theorem wi_Fl_greatestPiece : Cond.instanceMethod y_Fl_greatestPiece ∈ GW := gw_mem (i := 680) (by decide +kernel) (by decide +kernel)
theorem ws_Fl_greatestPiece : Cond.selects R_Fl y_Fl_greatestPiece y_Fl_greatestPiece ∈ GW := gw_mem (i := 681) (by decide +kernel) (by decide +kernel)
theorem wc_Fl_greatestPiece : Cond.code y_Fl_greatestPiece b_Fl_greatestPiece 3 (some .int) ∈ GW := gw_mem (i := 682) (by decide +kernel) (by decide +kernel)
theorem wl_Fl_53 : Cond.methodLink R_Fl 53 y_Ma_max ∈ GW := gw_mem (i := 683) (by decide +kernel) (by decide +kernel)
theorem wl_So_144 : Cond.methodLink R_So 144 y_Fl_loadWithout ∈ GW := gw_mem (i := 684) (by decide +kernel) (by decide +kernel)
theorem wi_Fl_loadWithout : Cond.instanceMethod y_Fl_loadWithout ∈ GW := gw_mem (i := 685) (by decide +kernel) (by decide +kernel)
theorem ws_Fl_loadWithout : Cond.selects R_Fl y_Fl_loadWithout y_Fl_loadWithout ∈ GW := gw_mem (i := 686) (by decide +kernel) (by decide +kernel)
theorem wc_Fl_loadWithout : Cond.code y_Fl_loadWithout b_Fl_loadWithout 3 none ∈ GW := gw_mem (i := 687) (by decide +kernel) (by decide +kernel)
theorem wx_Fl_48 : Cond.constant R_Fl 48 (65534) ∈ GW := gw_mem (i := 688) (by decide +kernel) (by decide +kernel)
theorem wl_So_147 : Cond.methodLink R_So 147 y_Fl_countShutPieces ∈ GW := gw_mem (i := 689) (by decide +kernel) (by decide +kernel)
theorem wi_Fl_countShutPieces : Cond.instanceMethod y_Fl_countShutPieces ∈ GW := gw_mem (i := 690) (by decide +kernel) (by decide +kernel)
theorem ws_Fl_countShutPieces : Cond.selects R_Fl y_Fl_countShutPieces y_Fl_countShutPieces ∈ GW := gw_mem (i := 691) (by decide +kernel) (by decide +kernel)
theorem wc_Fl_countShutPieces : Cond.code y_Fl_countShutPieces b_Fl_countShutPieces 3 (some .int) ∈ GW := gw_mem (i := 692) (by decide +kernel) (by decide +kernel)
theorem wl_So_150 : Cond.methodLink R_So 150 y_Fl_countShutPoints ∈ GW := gw_mem (i := 693) (by decide +kernel) (by decide +kernel)
theorem wi_Fl_countShutPoints : Cond.instanceMethod y_Fl_countShutPoints ∈ GW := gw_mem (i := 694) (by decide +kernel) (by decide +kernel)
theorem ws_Fl_countShutPoints : Cond.selects R_Fl y_Fl_countShutPoints y_Fl_countShutPoints ∈ GW := gw_mem (i := 695) (by decide +kernel) (by decide +kernel)
theorem wc_Fl_countShutPoints : Cond.code y_Fl_countShutPoints b_Fl_countShutPoints 3 (some .int) ∈ GW := gw_mem (i := 696) (by decide +kernel) (by decide +kernel)
theorem wl_La_70 : Cond.methodLink R_La 70 y_So_part ∈ GW := gw_mem (i := 697) (by decide +kernel) (by decide +kernel)
theorem wi_So_part : Cond.instanceMethod y_So_part ∈ GW := gw_mem (i := 698) (by decide +kernel) (by decide +kernel)
theorem ws_So_part : Cond.selects R_So y_So_part y_So_part ∈ GW := gw_mem (i := 699) (by decide +kernel) (by decide +kernel)
theorem wc_So_part : Cond.code y_So_part b_So_part 6 (some .int) ∈ GW := gw_mem (i := 700) (by decide +kernel) (by decide +kernel)
theorem wl_So_153 : Cond.methodLink R_So 153 y_Fl_pieceOf ∈ GW := gw_mem (i := 701) (by decide +kernel) (by decide +kernel)
theorem wi_Fl_pieceOf : Cond.instanceMethod y_Fl_pieceOf ∈ GW := gw_mem (i := 702) (by decide +kernel) (by decide +kernel)
theorem ws_Fl_pieceOf : Cond.selects R_Fl y_Fl_pieceOf y_Fl_pieceOf ∈ GW := gw_mem (i := 703) (by decide +kernel) (by decide +kernel)
theorem wc_Fl_pieceOf : Cond.code y_Fl_pieceOf b_Fl_pieceOf 5 (some .int) ∈ GW := gw_mem (i := 704) (by decide +kernel) (by decide +kernel)
theorem wl_Fl_58 : Cond.methodLink R_Fl 58 y_Fl_isLeft ∈ GW := gw_mem (i := 705) (by decide +kernel) (by decide +kernel)
theorem wi_Fl_isLeft : Cond.instanceMethod y_Fl_isLeft ∈ GW := gw_mem (i := 707) (by decide +kernel) (by decide +kernel)
theorem wc_Fl_isLeft : Cond.code y_Fl_isLeft b_Fl_isLeft 5 (some .boolean) ∈ GW := gw_mem (i := 708) (by decide +kernel) (by decide +kernel)
theorem wl_La_74 : Cond.methodLink R_La 74 y_So_slice ∈ GW := gw_mem (i := 709) (by decide +kernel) (by decide +kernel)
theorem wi_So_slice : Cond.instanceMethod y_So_slice ∈ GW := gw_mem (i := 710) (by decide +kernel) (by decide +kernel)
theorem ws_So_slice : Cond.selects R_So y_So_slice y_So_slice ∈ GW := gw_mem (i := 711) (by decide +kernel) (by decide +kernel)
theorem wc_So_slice : Cond.code y_So_slice b_So_slice 5 (some .int) ∈ GW := gw_mem (i := 712) (by decide +kernel) (by decide +kernel)
theorem wl_So_156 : Cond.methodLink R_So 156 y_Bo_sliceSize ∈ GW := gw_mem (i := 713) (by decide +kernel) (by decide +kernel)
theorem wl_So_159 : Cond.methodLink R_So 159 y_Bo_outline ∈ GW := gw_mem (i := 714) (by decide +kernel) (by decide +kernel)
theorem wl_So_162 : Cond.methodLink R_So 162 y_Fl_loadSlice ∈ GW := gw_mem (i := 715) (by decide +kernel) (by decide +kernel)
theorem wi_Fl_loadSlice : Cond.instanceMethod y_Fl_loadSlice ∈ GW := gw_mem (i := 716) (by decide +kernel) (by decide +kernel)
theorem ws_Fl_loadSlice : Cond.selects R_Fl y_Fl_loadSlice y_Fl_loadSlice ∈ GW := gw_mem (i := 717) (by decide +kernel) (by decide +kernel)
theorem wc_Fl_loadSlice : Cond.code y_Fl_loadSlice b_Fl_loadSlice 4 none ∈ GW := gw_mem (i := 718) (by decide +kernel) (by decide +kernel)
theorem wl_La_78 : Cond.methodLink R_La 78 y_So_thin ∈ GW := gw_mem (i := 719) (by decide +kernel) (by decide +kernel)
theorem wi_So_thin : Cond.instanceMethod y_So_thin ∈ GW := gw_mem (i := 720) (by decide +kernel) (by decide +kernel)
theorem ws_So_thin : Cond.selects R_So y_So_thin y_So_thin ∈ GW := gw_mem (i := 721) (by decide +kernel) (by decide +kernel)
theorem wc_So_thin : Cond.code y_So_thin b_So_thin 4 (some .int) ∈ GW := gw_mem (i := 722) (by decide +kernel) (by decide +kernel)
theorem wl_So_166 : Cond.methodLink R_So 166 y_Bo_thinPoints ∈ GW := gw_mem (i := 723) (by decide +kernel) (by decide +kernel)
theorem wi_Bo_thinPoints : Cond.instanceMethod y_Bo_thinPoints ∈ GW := gw_mem (i := 724) (by decide +kernel) (by decide +kernel)
theorem ws_Bo_thinPoints : Cond.selects R_Bo y_Bo_thinPoints y_Bo_thinPoints ∈ GW := gw_mem (i := 725) (by decide +kernel) (by decide +kernel)
theorem wc_Bo_thinPoints : Cond.code y_Bo_thinPoints b_Bo_thinPoints 7 (some .int) ∈ GW := gw_mem (i := 726) (by decide +kernel) (by decide +kernel)
theorem wl_La_82 : Cond.methodLink R_La 82 y_So_overhang ∈ GW := gw_mem (i := 727) (by decide +kernel) (by decide +kernel)
theorem wi_So_overhang : Cond.instanceMethod y_So_overhang ∈ GW := gw_mem (i := 728) (by decide +kernel) (by decide +kernel)
theorem ws_So_overhang : Cond.selects R_So y_So_overhang y_So_overhang ∈ GW := gw_mem (i := 729) (by decide +kernel) (by decide +kernel)
theorem wc_So_overhang : Cond.code y_So_overhang b_So_overhang 4 (some .int) ∈ GW := gw_mem (i := 730) (by decide +kernel) (by decide +kernel)
theorem wl_So_169 : Cond.methodLink R_So 169 y_Bo_hangingPoints ∈ GW := gw_mem (i := 731) (by decide +kernel) (by decide +kernel)
theorem wi_Bo_hangingPoints : Cond.instanceMethod y_Bo_hangingPoints ∈ GW := gw_mem (i := 732) (by decide +kernel) (by decide +kernel)
theorem ws_Bo_hangingPoints : Cond.selects R_Bo y_Bo_hangingPoints y_Bo_hangingPoints ∈ GW := gw_mem (i := 733) (by decide +kernel) (by decide +kernel)
theorem wc_Bo_hangingPoints : Cond.code y_Bo_hangingPoints b_Bo_hangingPoints 5 (some .int) ∈ GW := gw_mem (i := 734) (by decide +kernel) (by decide +kernel)
theorem wl_La_86 : Cond.methodLink R_La 86 y_So_both ∈ GW := gw_mem (i := 735) (by decide +kernel) (by decide +kernel)
theorem wi_So_both : Cond.instanceMethod y_So_both ∈ GW := gw_mem (i := 736) (by decide +kernel) (by decide +kernel)
theorem ws_So_both : Cond.selects R_So y_So_both y_So_both ∈ GW := gw_mem (i := 737) (by decide +kernel) (by decide +kernel)
theorem wc_So_both : Cond.code y_So_both b_So_both 6 (some .int) ∈ GW := gw_mem (i := 738) (by decide +kernel) (by decide +kernel)
theorem wl_So_172 : Cond.methodLink R_So 172 y_Bo_shared ∈ GW := gw_mem (i := 739) (by decide +kernel) (by decide +kernel)
theorem wi_Bo_shared : Cond.instanceMethod y_Bo_shared ∈ GW := gw_mem (i := 740) (by decide +kernel) (by decide +kernel)
theorem ws_Bo_shared : Cond.selects R_Bo y_Bo_shared y_Bo_shared ∈ GW := gw_mem (i := 741) (by decide +kernel) (by decide +kernel)
theorem wc_Bo_shared : Cond.code y_Bo_shared b_Bo_shared 5 (some .int) ∈ GW := gw_mem (i := 742) (by decide +kernel) (by decide +kernel)
theorem wl_La_90 : Cond.methodLink R_La 90 y_So_ray ∈ GW := gw_mem (i := 743) (by decide +kernel) (by decide +kernel)
theorem wi_So_ray : Cond.instanceMethod y_So_ray ∈ GW := gw_mem (i := 744) (by decide +kernel) (by decide +kernel)
theorem ws_So_ray : Cond.selects R_So y_So_ray y_So_ray ∈ GW := gw_mem (i := 745) (by decide +kernel) (by decide +kernel)
theorem wc_So_ray : Cond.code y_So_ray b_So_ray 10 (some .int) ∈ GW := gw_mem (i := 746) (by decide +kernel) (by decide +kernel)
theorem wl_So_176 : Cond.methodLink R_So 176 y_So_isStep ∈ GW := gw_mem (i := 747) (by decide +kernel) (by decide +kernel)
theorem wt_So_isStep : Cond.static y_So_isStep ∈ GW := gw_mem (i := 748) (by decide +kernel) (by decide +kernel)
theorem wc_So_isStep : Cond.code y_So_isStep b_So_isStep 4 (some .boolean) ∈ GW := gw_mem (i := 749) (by decide +kernel) (by decide +kernel)
theorem wl_So_179 : Cond.methodLink R_So 179 y_Bo_has ∈ GW := gw_mem (i := 750) (by decide +kernel) (by decide +kernel)
theorem wi_Bo_has : Cond.instanceMethod y_Bo_has ∈ GW := gw_mem (i := 751) (by decide +kernel) (by decide +kernel)
theorem ws_Bo_has : Cond.selects R_Bo y_Bo_has y_Bo_has ∈ GW := gw_mem (i := 752) (by decide +kernel) (by decide +kernel)
theorem wc_Bo_has : Cond.code y_Bo_has b_Bo_has 4 (some .boolean) ∈ GW := gw_mem (i := 753) (by decide +kernel) (by decide +kernel)
theorem wl_La_95 : Cond.methodLink R_La 95 y_So_sheet ∈ GW := gw_mem (i := 755) (by decide +kernel) (by decide +kernel)
theorem wi_So_sheet : Cond.instanceMethod y_So_sheet ∈ GW := gw_mem (i := 756) (by decide +kernel) (by decide +kernel)
theorem ws_So_sheet : Cond.selects R_So y_So_sheet y_So_sheet ∈ GW := gw_mem (i := 757) (by decide +kernel) (by decide +kernel)
theorem wc_So_sheet : Cond.code y_So_sheet b_So_sheet 5 (some .int) ∈ GW := gw_mem (i := 758) (by decide +kernel) (by decide +kernel)
theorem wl_So_182 : Cond.methodLink R_So 182 y_So_sheetNumber ∈ GW := gw_mem (i := 759) (by decide +kernel) (by decide +kernel)
theorem wi_So_sheetNumber : Cond.instanceMethod y_So_sheetNumber ∈ GW := gw_mem (i := 761) (by decide +kernel) (by decide +kernel)
theorem wc_So_sheetNumber : Cond.code y_So_sheetNumber b_So_sheetNumber 2 (some (.object "SignSolids$Sheet")) ∈ GW := gw_mem (i := 762) (by decide +kernel) (by decide +kernel)
theorem wl_So_186 : Cond.methodLink R_So 186 y_So_isLane ∈ GW := gw_mem (i := 763) (by decide +kernel) (by decide +kernel)
theorem wt_So_isLane : Cond.static y_So_isLane ∈ GW := gw_mem (i := 764) (by decide +kernel) (by decide +kernel)
theorem wc_So_isLane : Cond.code y_So_isLane b_So_isLane 1 (some .boolean) ∈ GW := gw_mem (i := 765) (by decide +kernel) (by decide +kernel)
theorem wl_So_189 : Cond.methodLink R_So 189 y_Sh_renew ∈ GW := gw_mem (i := 766) (by decide +kernel) (by decide +kernel)
theorem wi_Sh_renew : Cond.instanceMethod y_Sh_renew ∈ GW := gw_mem (i := 767) (by decide +kernel) (by decide +kernel)
theorem ws_Sh_renew : Cond.selects R_Sh y_Sh_renew y_Sh_renew ∈ GW := gw_mem (i := 768) (by decide +kernel) (by decide +kernel)
theorem wc_Sh_renew : Cond.code y_Sh_renew b_Sh_renew 4 none ∈ GW := gw_mem (i := 769) (by decide +kernel) (by decide +kernel)
theorem wl_La_99 : Cond.methodLink R_La 99 y_So_lay ∈ GW := gw_mem (i := 770) (by decide +kernel) (by decide +kernel)
theorem wi_So_lay : Cond.instanceMethod y_So_lay ∈ GW := gw_mem (i := 771) (by decide +kernel) (by decide +kernel)
theorem ws_So_lay : Cond.selects R_So y_So_lay y_So_lay ∈ GW := gw_mem (i := 772) (by decide +kernel) (by decide +kernel)
theorem wc_So_lay : Cond.code y_So_lay b_So_lay 5 (some .int) ∈ GW := gw_mem (i := 773) (by decide +kernel) (by decide +kernel)
theorem wl_So_193 : Cond.methodLink R_So 193 y_Sh_isNothing ∈ GW := gw_mem (i := 774) (by decide +kernel) (by decide +kernel)
theorem wi_Sh_isNothing : Cond.instanceMethod y_Sh_isNothing ∈ GW := gw_mem (i := 775) (by decide +kernel) (by decide +kernel)
theorem ws_Sh_isNothing : Cond.selects R_Sh y_Sh_isNothing y_Sh_isNothing ∈ GW := gw_mem (i := 776) (by decide +kernel) (by decide +kernel)
theorem wc_Sh_isNothing : Cond.code y_Sh_isNothing b_Sh_isNothing 1 (some .boolean) ∈ GW := gw_mem (i := 777) (by decide +kernel) (by decide +kernel)
theorem wl_So_197 : Cond.methodLink R_So 197 y_Sh_put ∈ GW := gw_mem (i := 778) (by decide +kernel) (by decide +kernel)
theorem wi_Sh_put : Cond.instanceMethod y_Sh_put ∈ GW := gw_mem (i := 779) (by decide +kernel) (by decide +kernel)
theorem ws_Sh_put : Cond.selects R_Sh y_Sh_put y_Sh_put ∈ GW := gw_mem (i := 780) (by decide +kernel) (by decide +kernel)
theorem wc_Sh_put : Cond.code y_Sh_put b_Sh_put 3 (some .boolean) ∈ GW := gw_mem (i := 781) (by decide +kernel) (by decide +kernel)
theorem wl_Sh_22 : Cond.methodLink R_Sh 22 y_Sh_hasCell ∈ GW := gw_mem (i := 782) (by decide +kernel) (by decide +kernel)
theorem wi_Sh_hasCell : Cond.instanceMethod y_Sh_hasCell ∈ GW := gw_mem (i := 783) (by decide +kernel) (by decide +kernel)
theorem ws_Sh_hasCell : Cond.selects R_Sh y_Sh_hasCell y_Sh_hasCell ∈ GW := gw_mem (i := 784) (by decide +kernel) (by decide +kernel)
theorem wc_Sh_hasCell : Cond.code y_Sh_hasCell b_Sh_hasCell 2 (some .boolean) ∈ GW := gw_mem (i := 785) (by decide +kernel) (by decide +kernel)
theorem wl_La_103 : Cond.methodLink R_La 103 y_So_scan ∈ GW := gw_mem (i := 786) (by decide +kernel) (by decide +kernel)
theorem wi_So_scan : Cond.instanceMethod y_So_scan ∈ GW := gw_mem (i := 787) (by decide +kernel) (by decide +kernel)
theorem ws_So_scan : Cond.selects R_So y_So_scan y_So_scan ∈ GW := gw_mem (i := 788) (by decide +kernel) (by decide +kernel)
theorem wc_So_scan : Cond.code y_So_scan b_So_scan 8 (some .int) ∈ GW := gw_mem (i := 789) (by decide +kernel) (by decide +kernel)
theorem wl_So_203 : Cond.methodLink R_So 203 y_So_countScanned ∈ GW := gw_mem (i := 790) (by decide +kernel) (by decide +kernel)
theorem wt_So_countScanned : Cond.static y_So_countScanned ∈ GW := gw_mem (i := 791) (by decide +kernel) (by decide +kernel)
theorem wc_So_countScanned : Cond.code y_So_countScanned b_So_countScanned 10 (some .int) ∈ GW := gw_mem (i := 792) (by decide +kernel) (by decide +kernel)
theorem wl_So_219 : Cond.methodLink R_So 219 y_Sh_hasCell ∈ GW := gw_mem (i := 793) (by decide +kernel) (by decide +kernel)
theorem wl_So_222 : Cond.methodLink R_So 222 y_Sh_cell ∈ GW := gw_mem (i := 794) (by decide +kernel) (by decide +kernel)
theorem wi_Sh_cell : Cond.instanceMethod y_Sh_cell ∈ GW := gw_mem (i := 795) (by decide +kernel) (by decide +kernel)
theorem ws_Sh_cell : Cond.selects R_Sh y_Sh_cell y_Sh_cell ∈ GW := gw_mem (i := 796) (by decide +kernel) (by decide +kernel)
theorem wc_Sh_cell : Cond.code y_Sh_cell b_Sh_cell 2 (some .int) ∈ GW := gw_mem (i := 797) (by decide +kernel) (by decide +kernel)
theorem wl_La_108 : Cond.methodLink R_La 108 y_So_count ∈ GW := gw_mem (i := 798) (by decide +kernel) (by decide +kernel)
theorem wi_So_count : Cond.instanceMethod y_So_count ∈ GW := gw_mem (i := 799) (by decide +kernel) (by decide +kernel)
theorem ws_So_count : Cond.selects R_So y_So_count y_So_count ∈ GW := gw_mem (i := 800) (by decide +kernel) (by decide +kernel)
theorem wc_So_count : Cond.code y_So_count b_So_count 2 (some .int) ∈ GW := gw_mem (i := 801) (by decide +kernel) (by decide +kernel)
theorem wl_So_207 : Cond.methodLink R_So 207 y_So_cellsOfFirstSheet ∈ GW := gw_mem (i := 802) (by decide +kernel) (by decide +kernel)
theorem wi_So_cellsOfFirstSheet : Cond.instanceMethod y_So_cellsOfFirstSheet ∈ GW := gw_mem (i := 804) (by decide +kernel) (by decide +kernel)
theorem wc_So_cellsOfFirstSheet : Cond.code y_So_cellsOfFirstSheet b_So_cellsOfFirstSheet 2 (some .int) ∈ GW := gw_mem (i := 805) (by decide +kernel) (by decide +kernel)
theorem wl_So_210 : Cond.methodLink R_So 210 y_So_textsOfLatestBody ∈ GW := gw_mem (i := 806) (by decide +kernel) (by decide +kernel)
theorem wi_So_textsOfLatestBody : Cond.instanceMethod y_So_textsOfLatestBody ∈ GW := gw_mem (i := 808) (by decide +kernel) (by decide +kernel)
theorem wc_So_textsOfLatestBody : Cond.code y_So_textsOfLatestBody b_So_textsOfLatestBody 2 (some .int) ∈ GW := gw_mem (i := 809) (by decide +kernel) (by decide +kernel)
theorem wk_La_10 : Cond.classLink R_La 10 R_Mo ∈ GW := gw_mem (i := 810) (by decide +kernel) (by decide +kernel)
theorem wz_Mo : Cond.instantiable R_Mo 46 ∈ GW := gw_mem (i := 811) (by decide +kernel) (by decide +kernel)
theorem wl_La_12 : Cond.methodLink R_La 12 y_Mo_init ∈ GW := gw_mem (i := 812) (by decide +kernel) (by decide +kernel)
theorem wi_Mo_init : Cond.instanceMethod y_Mo_init ∈ GW := gw_mem (i := 813) (by decide +kernel) (by decide +kernel)
theorem wc_Mo_init : Cond.code y_Mo_init b_Mo_init 1 none ∈ GW := gw_mem (i := 814) (by decide +kernel) (by decide +kernel)
theorem wl_Mo_1 : Cond.methodLink R_Mo 1 objectInit ∈ GW := gw_mem (i := 815) (by decide +kernel) (by decide +kernel)
theorem wf_Mo_155 : Cond.fieldLink R_Mo 155 "SignSolidsModel" "bodies" "I" ∈ GW := gw_mem (i := 816) (by decide +kernel) (by decide +kernel)
theorem wf_Mo_7 : Cond.fieldLink R_Mo 7 "SignSolidsModel" "ruleMany" "[I" ∈ GW := gw_mem (i := 817) (by decide +kernel) (by decide +kernel)
theorem wf_Mo_13 : Cond.fieldLink R_Mo 13 "SignSolidsModel" "kind" "[I" ∈ GW := gw_mem (i := 818) (by decide +kernel) (by decide +kernel)
theorem wf_Mo_16 : Cond.fieldLink R_Mo 16 "SignSolidsModel" "above" "[I" ∈ GW := gw_mem (i := 819) (by decide +kernel) (by decide +kernel)
theorem wf_Mo_19 : Cond.fieldLink R_Mo 19 "SignSolidsModel" "numbers" "[I" ∈ GW := gw_mem (i := 820) (by decide +kernel) (by decide +kernel)
theorem wf_Mo_22 : Cond.fieldLink R_Mo 22 "SignSolidsModel" "tape" "[I" ∈ GW := gw_mem (i := 821) (by decide +kernel) (by decide +kernel)
theorem wf_Mo_87 : Cond.fieldLink R_Mo 87 "SignSolidsModel" "taped" "I" ∈ GW := gw_mem (i := 822) (by decide +kernel) (by decide +kernel)
theorem wf_Mo_172 : Cond.fieldLink R_Mo 172 "SignSolidsModel" "fault" "I" ∈ GW := gw_mem (i := 823) (by decide +kernel) (by decide +kernel)
theorem wf_Mo_95 : Cond.fieldLink R_Mo 95 "SignSolidsModel" "wrong" "I" ∈ GW := gw_mem (i := 824) (by decide +kernel) (by decide +kernel)
theorem wf_Mo_101 : Cond.fieldLink R_Mo 101 "SignSolidsModel" "wrongAt" "I" ∈ GW := gw_mem (i := 825) (by decide +kernel) (by decide +kernel)
theorem wf_Mo_124 : Cond.fieldLink R_Mo 124 "SignSolidsModel" "at" "I" ∈ GW := gw_mem (i := 826) (by decide +kernel) (by decide +kernel)
theorem wf_Mo_98 : Cond.fieldLink R_Mo 98 "SignSolidsModel" "place" "I" ∈ GW := gw_mem (i := 827) (by decide +kernel) (by decide +kernel)
theorem wf_Mo_131 : Cond.fieldLink R_Mo 131 "SignSolidsModel" "token" "I" ∈ GW := gw_mem (i := 828) (by decide +kernel) (by decide +kernel)
theorem wf_Mo_142 : Cond.fieldLink R_Mo 142 "SignSolidsModel" "value" "I" ∈ GW := gw_mem (i := 829) (by decide +kernel) (by decide +kernel)
theorem wf_Mo_25 : Cond.fieldLink R_Mo 25 "SignSolidsModel" "wanted" "[I" ∈ GW := gw_mem (i := 830) (by decide +kernel) (by decide +kernel)
theorem wf_Mo_28 : Cond.fieldLink R_Mo 28 "SignSolidsModel" "standing" "[I" ∈ GW := gw_mem (i := 831) (by decide +kernel) (by decide +kernel)
theorem wf_Mo_31 : Cond.fieldLink R_Mo 31 "SignSolidsModel" "fromX" "[J" ∈ GW := gw_mem (i := 832) (by decide +kernel) (by decide +kernel)
theorem wf_Mo_35 : Cond.fieldLink R_Mo 35 "SignSolidsModel" "toX" "[J" ∈ GW := gw_mem (i := 833) (by decide +kernel) (by decide +kernel)
theorem wf_Mo_38 : Cond.fieldLink R_Mo 38 "SignSolidsModel" "fromY" "[J" ∈ GW := gw_mem (i := 834) (by decide +kernel) (by decide +kernel)
theorem wf_Mo_41 : Cond.fieldLink R_Mo 41 "SignSolidsModel" "toY" "[J" ∈ GW := gw_mem (i := 835) (by decide +kernel) (by decide +kernel)
theorem wf_Mo_44 : Cond.fieldLink R_Mo 44 "SignSolidsModel" "fromZ" "[J" ∈ GW := gw_mem (i := 836) (by decide +kernel) (by decide +kernel)
theorem wf_Mo_47 : Cond.fieldLink R_Mo 47 "SignSolidsModel" "toZ" "[J" ∈ GW := gw_mem (i := 837) (by decide +kernel) (by decide +kernel)
theorem wf_Mo_50 : Cond.fieldLink R_Mo 50 "SignSolidsModel" "pileLow" "[J" ∈ GW := gw_mem (i := 838) (by decide +kernel) (by decide +kernel)
theorem wf_Mo_53 : Cond.fieldLink R_Mo 53 "SignSolidsModel" "pileHigh" "[J" ∈ GW := gw_mem (i := 839) (by decide +kernel) (by decide +kernel)
theorem wf_Mo_179 : Cond.fieldLink R_Mo 179 "SignSolidsModel" "low" "J" ∈ GW := gw_mem (i := 840) (by decide +kernel) (by decide +kernel)
theorem wf_Mo_183 : Cond.fieldLink R_Mo 183 "SignSolidsModel" "high" "J" ∈ GW := gw_mem (i := 841) (by decide +kernel) (by decide +kernel)
theorem wf_Mo_56 : Cond.fieldLink R_Mo 56 "SignSolidsModel" "waits" "[I" ∈ GW := gw_mem (i := 842) (by decide +kernel) (by decide +kernel)
theorem wf_Mo_225 : Cond.fieldLink R_Mo 225 "SignSolidsModel" "waiting" "I" ∈ GW := gw_mem (i := 843) (by decide +kernel) (by decide +kernel)
theorem wf_Mo_228 : Cond.fieldLink R_Mo 228 "SignSolidsModel" "leaves" "I" ∈ GW := gw_mem (i := 844) (by decide +kernel) (by decide +kernel)
theorem wf_Mo_231 : Cond.fieldLink R_Mo 231 "SignSolidsModel" "leavesIn" "I" ∈ GW := gw_mem (i := 845) (by decide +kernel) (by decide +kernel)
theorem wf_Mo_234 : Cond.fieldLink R_Mo 234 "SignSolidsModel" "pointsIn" "I" ∈ GW := gw_mem (i := 846) (by decide +kernel) (by decide +kernel)
theorem wf_Mo_237 : Cond.fieldLink R_Mo 237 "SignSolidsModel" "deepest" "I" ∈ GW := gw_mem (i := 847) (by decide +kernel) (by decide +kernel)
theorem wf_Mo_240 : Cond.fieldLink R_Mo 240 "SignSolidsModel" "asked" "I" ∈ GW := gw_mem (i := 848) (by decide +kernel) (by decide +kernel)
theorem wf_Mo_59 : Cond.fieldLink R_Mo 59 "SignSolidsModel" "within" "[Z" ∈ GW := gw_mem (i := 849) (by decide +kernel) (by decide +kernel)
theorem wf_Mo_63 : Cond.fieldLink R_Mo 63 "SignSolidsModel" "other" "[Z" ∈ GW := gw_mem (i := 850) (by decide +kernel) (by decide +kernel)
theorem wf_Mo_66 : Cond.fieldLink R_Mo 66 "SignSolidsModel" "edges" "[I" ∈ GW := gw_mem (i := 851) (by decide +kernel) (by decide +kernel)
theorem wf_Mo_69 : Cond.fieldLink R_Mo 69 "SignSolidsModel" "corners" "[Z" ∈ GW := gw_mem (i := 852) (by decide +kernel) (by decide +kernel)
theorem wf_Mo_72 : Cond.fieldLink R_Mo 72 "SignSolidsModel" "partOf" "[I" ∈ GW := gw_mem (i := 853) (by decide +kernel) (by decide +kernel)
theorem wf_Mo_75 : Cond.fieldLink R_Mo 75 "SignSolidsModel" "row" "[I" ∈ GW := gw_mem (i := 854) (by decide +kernel) (by decide +kernel)
theorem wf_Mo_280 : Cond.fieldLink R_Mo 280 "SignSolidsModel" "partMany" "I" ∈ GW := gw_mem (i := 855) (by decide +kernel) (by decide +kernel)
theorem wf_Mo_283 : Cond.fieldLink R_Mo 283 "SignSolidsModel" "greatest" "I" ∈ GW := gw_mem (i := 856) (by decide +kernel) (by decide +kernel)
theorem wf_Mo_286 : Cond.fieldLink R_Mo 286 "SignSolidsModel" "hollowMany" "I" ∈ GW := gw_mem (i := 857) (by decide +kernel) (by decide +kernel)
theorem wf_Mo_289 : Cond.fieldLink R_Mo 289 "SignSolidsModel" "hollowPoints" "I" ∈ GW := gw_mem (i := 858) (by decide +kernel) (by decide +kernel)
theorem wf_Mo_78 : Cond.fieldLink R_Mo 78 "SignSolidsModel" "lanes" "[I" ∈ GW := gw_mem (i := 859) (by decide +kernel) (by decide +kernel)
theorem wf_Mo_81 : Cond.fieldLink R_Mo 81 "SignSolidsModel" "lengths" "[I" ∈ GW := gw_mem (i := 860) (by decide +kernel) (by decide +kernel)
theorem wf_Mo_84 : Cond.fieldLink R_Mo 84 "SignSolidsModel" "cells" "[I" ∈ GW := gw_mem (i := 861) (by decide +kernel) (by decide +kernel)
theorem wa_long : Cond.arrayClass .long ∈ GW := gw_mem (i := 955) (by decide +kernel) (by decide +kernel)
theorem wa_boolean : Cond.arrayClass .boolean ∈ GW := gw_mem (i := 956) (by decide +kernel) (by decide +kernel)
theorem wl_La_19 : Cond.methodLink R_La 19 y_Mo_feed ∈ GW := gw_mem (i := 957) (by decide +kernel) (by decide +kernel)
theorem wi_Mo_feed : Cond.instanceMethod y_Mo_feed ∈ GW := gw_mem (i := 958) (by decide +kernel) (by decide +kernel)
theorem ws_Mo_feed : Cond.selects R_Mo y_Mo_feed y_Mo_feed ∈ GW := gw_mem (i := 959) (by decide +kernel) (by decide +kernel)
theorem wc_Mo_feed : Cond.code y_Mo_feed b_Mo_feed 4 (some .int) ∈ GW := gw_mem (i := 960) (by decide +kernel) (by decide +kernel)
theorem wl_La_24 : Cond.methodLink R_La 24 y_Mo_end ∈ GW := gw_mem (i := 961) (by decide +kernel) (by decide +kernel)
theorem wi_Mo_end : Cond.instanceMethod y_Mo_end ∈ GW := gw_mem (i := 962) (by decide +kernel) (by decide +kernel)
theorem ws_Mo_end : Cond.selects R_Mo y_Mo_end y_Mo_end ∈ GW := gw_mem (i := 963) (by decide +kernel) (by decide +kernel)
theorem wc_Mo_end : Cond.code y_Mo_end b_Mo_end 3 (some .int) ∈ GW := gw_mem (i := 964) (by decide +kernel) (by decide +kernel)
theorem wl_Mo_91 : Cond.methodLink R_Mo 91 y_Mo_in ∈ GW := gw_mem (i := 965) (by decide +kernel) (by decide +kernel)
theorem wt_Mo_in : Cond.static y_Mo_in ∈ GW := gw_mem (i := 966) (by decide +kernel) (by decide +kernel)
theorem wc_Mo_in : Cond.code y_Mo_in b_Mo_in 6 (some .boolean) ∈ GW := gw_mem (i := 967) (by decide +kernel) (by decide +kernel)
theorem wl_La_29 : Cond.methodLink R_La 29 y_Mo_body ∈ GW := gw_mem (i := 968) (by decide +kernel) (by decide +kernel)
theorem wi_Mo_body : Cond.instanceMethod y_Mo_body ∈ GW := gw_mem (i := 969) (by decide +kernel) (by decide +kernel)
theorem ws_Mo_body : Cond.selects R_Mo y_Mo_body y_Mo_body ∈ GW := gw_mem (i := 970) (by decide +kernel) (by decide +kernel)
theorem wc_Mo_body : Cond.code y_Mo_body b_Mo_body 4 (some .int) ∈ GW := gw_mem (i := 971) (by decide +kernel) (by decide +kernel)
theorem wl_Mo_158 : Cond.methodLink R_Mo 158 y_Mo_next ∈ GW := gw_mem (i := 972) (by decide +kernel) (by decide +kernel)
theorem wi_Mo_next : Cond.instanceMethod y_Mo_next ∈ GW := gw_mem (i := 974) (by decide +kernel) (by decide +kernel)
theorem wc_Mo_next : Cond.code y_Mo_next b_Mo_next 4 none ∈ GW := gw_mem (i := 975) (by decide +kernel) (by decide +kernel)
theorem wl_Mo_127 : Cond.methodLink R_Mo 127 y_Mo_byteAt ∈ GW := gw_mem (i := 976) (by decide +kernel) (by decide +kernel)
theorem wi_Mo_byteAt : Cond.instanceMethod y_Mo_byteAt ∈ GW := gw_mem (i := 978) (by decide +kernel) (by decide +kernel)
theorem wc_Mo_byteAt : Cond.code y_Mo_byteAt b_Mo_byteAt 2 (some .int) ∈ GW := gw_mem (i := 979) (by decide +kernel) (by decide +kernel)
theorem wx_Mo_134 : Cond.constantLong R_Mo 134 (97) ∈ GW := gw_mem (i := 980) (by decide +kernel) (by decide +kernel)
theorem wx_Mo_136 : Cond.constantLong R_Mo 136 (122) ∈ GW := gw_mem (i := 981) (by decide +kernel) (by decide +kernel)
theorem wl_Mo_138 : Cond.methodLink R_Mo 138 y_Mo_ruleOf ∈ GW := gw_mem (i := 982) (by decide +kernel) (by decide +kernel)
theorem wt_Mo_ruleOf : Cond.static y_Mo_ruleOf ∈ GW := gw_mem (i := 983) (by decide +kernel) (by decide +kernel)
theorem wc_Mo_ruleOf : Cond.code y_Mo_ruleOf b_Mo_ruleOf 2 (some .int) ∈ GW := gw_mem (i := 984) (by decide +kernel) (by decide +kernel)
theorem wx_Mo_104 : Cond.constantLong R_Mo 104 (1650551916) ∈ GW := gw_mem (i := 985) (by decide +kernel) (by decide +kernel)
theorem wx_Mo_106 : Cond.constantLong R_Mo 106 (6451064) ∈ GW := gw_mem (i := 986) (by decide +kernel) (by decide +kernel)
theorem wx_Mo_108 : Cond.constantLong R_Mo 108 (482854661733) ∈ GW := gw_mem (i := 987) (by decide +kernel) (by decide +kernel)
theorem wx_Mo_110 : Cond.constantLong R_Mo 110 (28530) ∈ GW := gw_mem (i := 988) (by decide +kernel) (by decide +kernel)
theorem wx_Mo_112 : Cond.constantLong R_Mo 112 (6385252) ∈ GW := gw_mem (i := 989) (by decide +kernel) (by decide +kernel)
theorem wx_Mo_114 : Cond.constantLong R_Mo 114 (1818588019) ∈ GW := gw_mem (i := 990) (by decide +kernel) (by decide +kernel)
theorem wx_Mo_116 : Cond.constantLong R_Mo 116 (1836021349) ∈ GW := gw_mem (i := 991) (by decide +kernel) (by decide +kernel)
theorem wx_Mo_118 : Cond.constantLong R_Mo 118 (1953854062) ∈ GW := gw_mem (i := 992) (by decide +kernel) (by decide +kernel)
theorem wx_Mo_120 : Cond.constantLong R_Mo 120 (1718380912) ∈ GW := gw_mem (i := 993) (by decide +kernel) (by decide +kernel)
theorem wx_Mo_122 : Cond.constantLong R_Mo 122 (7497072) ∈ GW := gw_mem (i := 994) (by decide +kernel) (by decide +kernel)
theorem wl_Mo_145 : Cond.methodLink R_Mo 145 y_Mo_fails ∈ GW := gw_mem (i := 995) (by decide +kernel) (by decide +kernel)
theorem wi_Mo_fails : Cond.instanceMethod y_Mo_fails ∈ GW := gw_mem (i := 997) (by decide +kernel) (by decide +kernel)
theorem wc_Mo_fails : Cond.code y_Mo_fails b_Mo_fails 2 none ∈ GW := gw_mem (i := 998) (by decide +kernel) (by decide +kernel)
theorem wx_Mo_149 : Cond.constantLong R_Mo 149 (48) ∈ GW := gw_mem (i := 999) (by decide +kernel) (by decide +kernel)
theorem wx_Mo_151 : Cond.constantLong R_Mo 151 (57) ∈ GW := gw_mem (i := 1000) (by decide +kernel) (by decide +kernel)
theorem wx_Mo_153 : Cond.constantLong R_Mo 153 (2) ∈ GW := gw_mem (i := 1001) (by decide +kernel) (by decide +kernel)
theorem wl_Mo_166 : Cond.methodLink R_Mo 166 y_Mo_one ∈ GW := gw_mem (i := 1002) (by decide +kernel) (by decide +kernel)
theorem wi_Mo_one : Cond.instanceMethod y_Mo_one ∈ GW := gw_mem (i := 1004) (by decide +kernel) (by decide +kernel)
theorem wc_Mo_one : Cond.code y_Mo_one b_Mo_one 6 none ∈ GW := gw_mem (i := 1005) (by decide +kernel) (by decide +kernel)
theorem wl_Mo_161 : Cond.methodLink R_Mo 161 y_Mo_numbersOf ∈ GW := gw_mem (i := 1006) (by decide +kernel) (by decide +kernel)
theorem wt_Mo_numbersOf : Cond.static y_Mo_numbersOf ∈ GW := gw_mem (i := 1007) (by decide +kernel) (by decide +kernel)
theorem wc_Mo_numbersOf : Cond.code y_Mo_numbersOf b_Mo_numbersOf 1 (some .int) ∈ GW := gw_mem (i := 1008) (by decide +kernel) (by decide +kernel)
theorem wx_Mo_164 : Cond.constantLong R_Mo 164 (20) ∈ GW := gw_mem (i := 1009) (by decide +kernel) (by decide +kernel)
theorem wl_Mo_169 : Cond.methodLink R_Mo 169 y_Mo_textsOf ∈ GW := gw_mem (i := 1010) (by decide +kernel) (by decide +kernel)
theorem wt_Mo_textsOf : Cond.static y_Mo_textsOf ∈ GW := gw_mem (i := 1011) (by decide +kernel) (by decide +kernel)
theorem wc_Mo_textsOf : Cond.code y_Mo_textsOf b_Mo_textsOf 1 (some .int) ∈ GW := gw_mem (i := 1012) (by decide +kernel) (by decide +kernel)
theorem wl_La_33 : Cond.methodLink R_La 33 y_Mo_fault ∈ GW := gw_mem (i := 1013) (by decide +kernel) (by decide +kernel)
theorem wi_Mo_fault : Cond.instanceMethod y_Mo_fault ∈ GW := gw_mem (i := 1014) (by decide +kernel) (by decide +kernel)
theorem ws_Mo_fault : Cond.selects R_Mo y_Mo_fault y_Mo_fault ∈ GW := gw_mem (i := 1015) (by decide +kernel) (by decide +kernel)
theorem wc_Mo_fault : Cond.code y_Mo_fault b_Mo_fault 1 (some .int) ∈ GW := gw_mem (i := 1016) (by decide +kernel) (by decide +kernel)
theorem wl_La_37 : Cond.methodLink R_La 37 y_Mo_drop ∈ GW := gw_mem (i := 1017) (by decide +kernel) (by decide +kernel)
theorem wi_Mo_drop : Cond.instanceMethod y_Mo_drop ∈ GW := gw_mem (i := 1018) (by decide +kernel) (by decide +kernel)
theorem ws_Mo_drop : Cond.selects R_Mo y_Mo_drop y_Mo_drop ∈ GW := gw_mem (i := 1019) (by decide +kernel) (by decide +kernel)
theorem wc_Mo_drop : Cond.code y_Mo_drop b_Mo_drop 1 (some .int) ∈ GW := gw_mem (i := 1020) (by decide +kernel) (by decide +kernel)
theorem wl_La_42 : Cond.methodLink R_La 42 y_Mo_rule ∈ GW := gw_mem (i := 1021) (by decide +kernel) (by decide +kernel)
theorem wi_Mo_rule : Cond.instanceMethod y_Mo_rule ∈ GW := gw_mem (i := 1022) (by decide +kernel) (by decide +kernel)
theorem ws_Mo_rule : Cond.selects R_Mo y_Mo_rule y_Mo_rule ∈ GW := gw_mem (i := 1023) (by decide +kernel) (by decide +kernel)
theorem wc_Mo_rule : Cond.code y_Mo_rule b_Mo_rule 5 (some .int) ∈ GW := gw_mem (i := 1024) (by decide +kernel) (by decide +kernel)
theorem wl_Mo_204 : Cond.methodLink R_Mo 204 y_Mo_is ∈ GW := gw_mem (i := 1025) (by decide +kernel) (by decide +kernel)
theorem wi_Mo_is : Cond.instanceMethod y_Mo_is ∈ GW := gw_mem (i := 1027) (by decide +kernel) (by decide +kernel)
theorem wc_Mo_is : Cond.code y_Mo_is b_Mo_is 2 (some .boolean) ∈ GW := gw_mem (i := 1028) (by decide +kernel) (by decide +kernel)
theorem wx_Mo_208 : Cond.constantLong R_Mo 208 (-1000) ∈ GW := gw_mem (i := 1029) (by decide +kernel) (by decide +kernel)
theorem wx_Mo_210 : Cond.constantLong R_Mo 210 (1000) ∈ GW := gw_mem (i := 1030) (by decide +kernel) (by decide +kernel)
theorem wx_Mo_212 : Cond.constant R_Mo 212 (-1000000000) ∈ GW := gw_mem (i := 1031) (by decide +kernel) (by decide +kernel)
theorem wl_Mo_213 : Cond.methodLink R_Mo 213 y_Mo_spans ∈ GW := gw_mem (i := 1032) (by decide +kernel) (by decide +kernel)
theorem wi_Mo_spans : Cond.instanceMethod y_Mo_spans ∈ GW := gw_mem (i := 1034) (by decide +kernel) (by decide +kernel)
theorem wc_Mo_spans : Cond.code y_Mo_spans b_Mo_spans 27 none ∈ GW := gw_mem (i := 1035) (by decide +kernel) (by decide +kernel)
theorem wl_Mo_197 : Cond.methodLink R_Mo 197 y_Mo_goDown ∈ GW := gw_mem (i := 1036) (by decide +kernel) (by decide +kernel)
theorem wi_Mo_goDown : Cond.instanceMethod y_Mo_goDown ∈ GW := gw_mem (i := 1038) (by decide +kernel) (by decide +kernel)
theorem wc_Mo_goDown : Cond.code y_Mo_goDown b_Mo_goDown 12 none ∈ GW := gw_mem (i := 1039) (by decide +kernel) (by decide +kernel)
theorem wl_Mo_175 : Cond.methodLink R_Mo 175 y_Mo_modulo ∈ GW := gw_mem (i := 1040) (by decide +kernel) (by decide +kernel)
theorem wt_Mo_modulo : Cond.static y_Mo_modulo ∈ GW := gw_mem (i := 1041) (by decide +kernel) (by decide +kernel)
theorem wc_Mo_modulo : Cond.code y_Mo_modulo b_Mo_modulo 5 (some .long) ∈ GW := gw_mem (i := 1042) (by decide +kernel) (by decide +kernel)
theorem wl_Mo_201 : Cond.methodLink R_Mo 201 y_Mo_leaf ∈ GW := gw_mem (i := 1043) (by decide +kernel) (by decide +kernel)
theorem wi_Mo_leaf : Cond.instanceMethod y_Mo_leaf ∈ GW := gw_mem (i := 1045) (by decide +kernel) (by decide +kernel)
theorem wc_Mo_leaf : Cond.code y_Mo_leaf b_Mo_leaf 4 none ∈ GW := gw_mem (i := 1046) (by decide +kernel) (by decide +kernel)
theorem wl_Mo_186 : Cond.methodLink R_Mo 186 y_Mo_addSquares ∈ GW := gw_mem (i := 1047) (by decide +kernel) (by decide +kernel)
theorem wi_Mo_addSquares : Cond.instanceMethod y_Mo_addSquares ∈ GW := gw_mem (i := 1049) (by decide +kernel) (by decide +kernel)
theorem wc_Mo_addSquares : Cond.code y_Mo_addSquares b_Mo_addSquares 10 none ∈ GW := gw_mem (i := 1050) (by decide +kernel) (by decide +kernel)
theorem wl_Mo_190 : Cond.methodLink R_Mo 190 y_Mo_greater ∈ GW := gw_mem (i := 1051) (by decide +kernel) (by decide +kernel)
theorem wi_Mo_greater : Cond.instanceMethod y_Mo_greater ∈ GW := gw_mem (i := 1053) (by decide +kernel) (by decide +kernel)
theorem wc_Mo_greater : Cond.code y_Mo_greater b_Mo_greater 5 none ∈ GW := gw_mem (i := 1054) (by decide +kernel) (by decide +kernel)
theorem wl_Mo_194 : Cond.methodLink R_Mo 194 y_Mo_addProducts ∈ GW := gw_mem (i := 1055) (by decide +kernel) (by decide +kernel)
theorem wi_Mo_addProducts : Cond.instanceMethod y_Mo_addProducts ∈ GW := gw_mem (i := 1057) (by decide +kernel) (by decide +kernel)
theorem wc_Mo_addProducts : Cond.code y_Mo_addProducts b_Mo_addProducts 6 none ∈ GW := gw_mem (i := 1058) (by decide +kernel) (by decide +kernel)
theorem wl_La_47 : Cond.methodLink R_La 47 y_Mo_span ∈ GW := gw_mem (i := 1059) (by decide +kernel) (by decide +kernel)
theorem wi_Mo_span : Cond.instanceMethod y_Mo_span ∈ GW := gw_mem (i := 1060) (by decide +kernel) (by decide +kernel)
theorem ws_Mo_span : Cond.selects R_Mo y_Mo_span y_Mo_span ∈ GW := gw_mem (i := 1061) (by decide +kernel) (by decide +kernel)
theorem wc_Mo_span : Cond.code y_Mo_span b_Mo_span 9 (some .int) ∈ GW := gw_mem (i := 1062) (by decide +kernel) (by decide +kernel)
theorem wl_Mo_221 : Cond.methodLink R_Mo 221 y_Mo_isPoint ∈ GW := gw_mem (i := 1063) (by decide +kernel) (by decide +kernel)
theorem wt_Mo_isPoint : Cond.static y_Mo_isPoint ∈ GW := gw_mem (i := 1064) (by decide +kernel) (by decide +kernel)
theorem wc_Mo_isPoint : Cond.code y_Mo_isPoint b_Mo_isPoint 3 (some .boolean) ∈ GW := gw_mem (i := 1065) (by decide +kernel) (by decide +kernel)
theorem wx_Mo_217 : Cond.constantLong R_Mo 217 (-7) ∈ GW := gw_mem (i := 1066) (by decide +kernel) (by decide +kernel)
theorem wx_Mo_219 : Cond.constantLong R_Mo 219 (7) ∈ GW := gw_mem (i := 1067) (by decide +kernel) (by decide +kernel)
theorem wl_La_52 : Cond.methodLink R_La 52 y_Mo_parted ∈ GW := gw_mem (i := 1068) (by decide +kernel) (by decide +kernel)
theorem wi_Mo_parted : Cond.instanceMethod y_Mo_parted ∈ GW := gw_mem (i := 1069) (by decide +kernel) (by decide +kernel)
theorem ws_Mo_parted : Cond.selects R_Mo y_Mo_parted y_Mo_parted ∈ GW := gw_mem (i := 1070) (by decide +kernel) (by decide +kernel)
theorem wc_Mo_parted : Cond.code y_Mo_parted b_Mo_parted 3 (some .int) ∈ GW := gw_mem (i := 1071) (by decide +kernel) (by decide +kernel)
theorem wx_Mo_247 : Cond.constantLong R_Mo 247 (4) ∈ GW := gw_mem (i := 1072) (by decide +kernel) (by decide +kernel)
theorem wl_Mo_249 : Cond.methodLink R_Mo 249 y_Mo_partAll ∈ GW := gw_mem (i := 1073) (by decide +kernel) (by decide +kernel)
theorem wi_Mo_partAll : Cond.instanceMethod y_Mo_partAll ∈ GW := gw_mem (i := 1075) (by decide +kernel) (by decide +kernel)
theorem wc_Mo_partAll : Cond.code y_Mo_partAll b_Mo_partAll 17 none ∈ GW := gw_mem (i := 1076) (by decide +kernel) (by decide +kernel)
theorem wl_Mo_243 : Cond.methodLink R_Mo 243 y_Mo_puts ∈ GW := gw_mem (i := 1077) (by decide +kernel) (by decide +kernel)
theorem wi_Mo_puts : Cond.instanceMethod y_Mo_puts ∈ GW := gw_mem (i := 1079) (by decide +kernel) (by decide +kernel)
theorem wc_Mo_puts : Cond.code y_Mo_puts b_Mo_puts 9 none ∈ GW := gw_mem (i := 1080) (by decide +kernel) (by decide +kernel)
theorem wl_La_56 : Cond.methodLink R_La 56 y_Mo_volume ∈ GW := gw_mem (i := 1081) (by decide +kernel) (by decide +kernel)
theorem wi_Mo_volume : Cond.instanceMethod y_Mo_volume ∈ GW := gw_mem (i := 1082) (by decide +kernel) (by decide +kernel)
theorem ws_Mo_volume : Cond.selects R_Mo y_Mo_volume y_Mo_volume ∈ GW := gw_mem (i := 1083) (by decide +kernel) (by decide +kernel)
theorem wc_Mo_volume : Cond.code y_Mo_volume b_Mo_volume 4 (some .int) ∈ GW := gw_mem (i := 1084) (by decide +kernel) (by decide +kernel)
theorem wl_Mo_263 : Cond.methodLink R_Mo 263 y_Mo_ask ∈ GW := gw_mem (i := 1085) (by decide +kernel) (by decide +kernel)
theorem wi_Mo_ask : Cond.instanceMethod y_Mo_ask ∈ GW := gw_mem (i := 1087) (by decide +kernel) (by decide +kernel)
theorem wc_Mo_ask : Cond.code y_Mo_ask b_Mo_ask 3 none ∈ GW := gw_mem (i := 1088) (by decide +kernel) (by decide +kernel)
theorem wl_Mo_252 : Cond.methodLink R_Mo 252 y_Mo_isWithin ∈ GW := gw_mem (i := 1089) (by decide +kernel) (by decide +kernel)
theorem wi_Mo_isWithin : Cond.instanceMethod y_Mo_isWithin ∈ GW := gw_mem (i := 1091) (by decide +kernel) (by decide +kernel)
theorem wc_Mo_isWithin : Cond.code y_Mo_isWithin b_Mo_isWithin 5 (some .boolean) ∈ GW := gw_mem (i := 1092) (by decide +kernel) (by decide +kernel)
theorem wl_La_61 : Cond.methodLink R_La 61 y_Mo_point ∈ GW := gw_mem (i := 1093) (by decide +kernel) (by decide +kernel)
theorem wi_Mo_point : Cond.instanceMethod y_Mo_point ∈ GW := gw_mem (i := 1094) (by decide +kernel) (by decide +kernel)
theorem ws_Mo_point : Cond.selects R_Mo y_Mo_point y_Mo_point ∈ GW := gw_mem (i := 1095) (by decide +kernel) (by decide +kernel)
theorem wc_Mo_point : Cond.code y_Mo_point b_Mo_point 6 (some .int) ∈ GW := gw_mem (i := 1096) (by decide +kernel) (by decide +kernel)
theorem wl_La_65 : Cond.methodLink R_La 65 y_Mo_skin ∈ GW := gw_mem (i := 1097) (by decide +kernel) (by decide +kernel)
theorem wi_Mo_skin : Cond.instanceMethod y_Mo_skin ∈ GW := gw_mem (i := 1098) (by decide +kernel) (by decide +kernel)
theorem ws_Mo_skin : Cond.selects R_Mo y_Mo_skin y_Mo_skin ∈ GW := gw_mem (i := 1099) (by decide +kernel) (by decide +kernel)
theorem wc_Mo_skin : Cond.code y_Mo_skin b_Mo_skin 8 (some .int) ∈ GW := gw_mem (i := 1100) (by decide +kernel) (by decide +kernel)
theorem wx_Mo_266 : Cond.constantLong R_Mo 266 (3) ∈ GW := gw_mem (i := 1101) (by decide +kernel) (by decide +kernel)
theorem wl_Mo_268 : Cond.methodLink R_Mo 268 y_Mo_hasSide ∈ GW := gw_mem (i := 1102) (by decide +kernel) (by decide +kernel)
theorem wi_Mo_hasSide : Cond.instanceMethod y_Mo_hasSide ∈ GW := gw_mem (i := 1104) (by decide +kernel) (by decide +kernel)
theorem wc_Mo_hasSide : Cond.code y_Mo_hasSide b_Mo_hasSide 5 (some .boolean) ∈ GW := gw_mem (i := 1105) (by decide +kernel) (by decide +kernel)
theorem wl_Mo_260 : Cond.methodLink R_Mo 260 y_Mo_has ∈ GW := gw_mem (i := 1106) (by decide +kernel) (by decide +kernel)
theorem wi_Mo_has : Cond.instanceMethod y_Mo_has ∈ GW := gw_mem (i := 1108) (by decide +kernel) (by decide +kernel)
theorem wc_Mo_has : Cond.code y_Mo_has b_Mo_has 4 (some .boolean) ∈ GW := gw_mem (i := 1109) (by decide +kernel) (by decide +kernel)
theorem wl_Mo_256 : Cond.methodLink R_Mo 256 y_Mo_indexOf ∈ GW := gw_mem (i := 1110) (by decide +kernel) (by decide +kernel)
theorem wt_Mo_indexOf : Cond.static y_Mo_indexOf ∈ GW := gw_mem (i := 1111) (by decide +kernel) (by decide +kernel)
theorem wc_Mo_indexOf : Cond.code y_Mo_indexOf b_Mo_indexOf 3 (some .int) ∈ GW := gw_mem (i := 1112) (by decide +kernel) (by decide +kernel)
theorem wl_Mo_272 : Cond.methodLink R_Mo 272 y_Mo_square ∈ GW := gw_mem (i := 1113) (by decide +kernel) (by decide +kernel)
theorem wi_Mo_square : Cond.instanceMethod y_Mo_square ∈ GW := gw_mem (i := 1115) (by decide +kernel) (by decide +kernel)
theorem wc_Mo_square : Cond.code y_Mo_square b_Mo_square 10 none ∈ GW := gw_mem (i := 1116) (by decide +kernel) (by decide +kernel)
theorem wl_La_69 : Cond.methodLink R_La 69 y_Mo_parts ∈ GW := gw_mem (i := 1117) (by decide +kernel) (by decide +kernel)
theorem wi_Mo_parts : Cond.instanceMethod y_Mo_parts ∈ GW := gw_mem (i := 1118) (by decide +kernel) (by decide +kernel)
theorem ws_Mo_parts : Cond.selects R_Mo y_Mo_parts y_Mo_parts ∈ GW := gw_mem (i := 1119) (by decide +kernel) (by decide +kernel)
theorem wc_Mo_parts : Cond.code y_Mo_parts b_Mo_parts 3 (some .int) ∈ GW := gw_mem (i := 1120) (by decide +kernel) (by decide +kernel)
theorem wl_Mo_298 : Cond.methodLink R_Mo 298 y_Mo_layParts ∈ GW := gw_mem (i := 1121) (by decide +kernel) (by decide +kernel)
theorem wi_Mo_layParts : Cond.instanceMethod y_Mo_layParts ∈ GW := gw_mem (i := 1123) (by decide +kernel) (by decide +kernel)
theorem wc_Mo_layParts : Cond.code y_Mo_layParts b_Mo_layParts 6 none ∈ GW := gw_mem (i := 1124) (by decide +kernel) (by decide +kernel)
theorem wl_Mo_292 : Cond.methodLink R_Mo 292 y_Mo_spread ∈ GW := gw_mem (i := 1125) (by decide +kernel) (by decide +kernel)
theorem wi_Mo_spread : Cond.instanceMethod y_Mo_spread ∈ GW := gw_mem (i := 1127) (by decide +kernel) (by decide +kernel)
theorem wc_Mo_spread : Cond.code y_Mo_spread b_Mo_spread 8 (some .int) ∈ GW := gw_mem (i := 1128) (by decide +kernel) (by decide +kernel)
theorem wl_Mo_276 : Cond.methodLink R_Mo 276 y_Mo_sideOf ∈ GW := gw_mem (i := 1129) (by decide +kernel) (by decide +kernel)
theorem wt_Mo_sideOf : Cond.static y_Mo_sideOf ∈ GW := gw_mem (i := 1130) (by decide +kernel) (by decide +kernel)
theorem wc_Mo_sideOf : Cond.code y_Mo_sideOf b_Mo_sideOf 5 (some .int) ∈ GW := gw_mem (i := 1131) (by decide +kernel) (by decide +kernel)
theorem wl_Mo_295 : Cond.methodLink R_Mo 295 y_Mo_isEnd ∈ GW := gw_mem (i := 1132) (by decide +kernel) (by decide +kernel)
theorem wt_Mo_isEnd : Cond.static y_Mo_isEnd ∈ GW := gw_mem (i := 1133) (by decide +kernel) (by decide +kernel)
theorem wc_Mo_isEnd : Cond.code y_Mo_isEnd b_Mo_isEnd 4 (some .boolean) ∈ GW := gw_mem (i := 1134) (by decide +kernel) (by decide +kernel)
theorem wl_La_73 : Cond.methodLink R_La 73 y_Mo_part ∈ GW := gw_mem (i := 1135) (by decide +kernel) (by decide +kernel)
theorem wi_Mo_part : Cond.instanceMethod y_Mo_part ∈ GW := gw_mem (i := 1136) (by decide +kernel) (by decide +kernel)
theorem ws_Mo_part : Cond.selects R_Mo y_Mo_part y_Mo_part ∈ GW := gw_mem (i := 1137) (by decide +kernel) (by decide +kernel)
theorem wc_Mo_part : Cond.code y_Mo_part b_Mo_part 6 (some .int) ∈ GW := gw_mem (i := 1138) (by decide +kernel) (by decide +kernel)
theorem wl_La_77 : Cond.methodLink R_La 77 y_Mo_slice ∈ GW := gw_mem (i := 1139) (by decide +kernel) (by decide +kernel)
theorem wi_Mo_slice : Cond.instanceMethod y_Mo_slice ∈ GW := gw_mem (i := 1140) (by decide +kernel) (by decide +kernel)
theorem ws_Mo_slice : Cond.selects R_Mo y_Mo_slice y_Mo_slice ∈ GW := gw_mem (i := 1141) (by decide +kernel) (by decide +kernel)
theorem wc_Mo_slice : Cond.code y_Mo_slice b_Mo_slice 10 (some .int) ∈ GW := gw_mem (i := 1142) (by decide +kernel) (by decide +kernel)
theorem wl_La_81 : Cond.methodLink R_La 81 y_Mo_thin ∈ GW := gw_mem (i := 1143) (by decide +kernel) (by decide +kernel)
theorem wi_Mo_thin : Cond.instanceMethod y_Mo_thin ∈ GW := gw_mem (i := 1144) (by decide +kernel) (by decide +kernel)
theorem ws_Mo_thin : Cond.selects R_Mo y_Mo_thin y_Mo_thin ∈ GW := gw_mem (i := 1145) (by decide +kernel) (by decide +kernel)
theorem wc_Mo_thin : Cond.code y_Mo_thin b_Mo_thin 5 (some .int) ∈ GW := gw_mem (i := 1146) (by decide +kernel) (by decide +kernel)
theorem wl_La_85 : Cond.methodLink R_La 85 y_Mo_overhang ∈ GW := gw_mem (i := 1147) (by decide +kernel) (by decide +kernel)
theorem wi_Mo_overhang : Cond.instanceMethod y_Mo_overhang ∈ GW := gw_mem (i := 1148) (by decide +kernel) (by decide +kernel)
theorem ws_Mo_overhang : Cond.selects R_Mo y_Mo_overhang y_Mo_overhang ∈ GW := gw_mem (i := 1149) (by decide +kernel) (by decide +kernel)
theorem wc_Mo_overhang : Cond.code y_Mo_overhang b_Mo_overhang 5 (some .int) ∈ GW := gw_mem (i := 1150) (by decide +kernel) (by decide +kernel)
theorem wl_La_89 : Cond.methodLink R_La 89 y_Mo_both ∈ GW := gw_mem (i := 1151) (by decide +kernel) (by decide +kernel)
theorem wi_Mo_both : Cond.instanceMethod y_Mo_both ∈ GW := gw_mem (i := 1152) (by decide +kernel) (by decide +kernel)
theorem ws_Mo_both : Cond.selects R_Mo y_Mo_both y_Mo_both ∈ GW := gw_mem (i := 1153) (by decide +kernel) (by decide +kernel)
theorem wc_Mo_both : Cond.code y_Mo_both b_Mo_both 8 (some .int) ∈ GW := gw_mem (i := 1154) (by decide +kernel) (by decide +kernel)
theorem wl_La_94 : Cond.methodLink R_La 94 y_Mo_ray ∈ GW := gw_mem (i := 1155) (by decide +kernel) (by decide +kernel)
theorem wi_Mo_ray : Cond.instanceMethod y_Mo_ray ∈ GW := gw_mem (i := 1156) (by decide +kernel) (by decide +kernel)
theorem ws_Mo_ray : Cond.selects R_Mo y_Mo_ray y_Mo_ray ∈ GW := gw_mem (i := 1157) (by decide +kernel) (by decide +kernel)
theorem wc_Mo_ray : Cond.code y_Mo_ray b_Mo_ray 9 (some .int) ∈ GW := gw_mem (i := 1158) (by decide +kernel) (by decide +kernel)
theorem wx_Mo_301 : Cond.constantLong R_Mo 301 (-3) ∈ GW := gw_mem (i := 1159) (by decide +kernel) (by decide +kernel)
theorem wl_La_98 : Cond.methodLink R_La 98 y_Mo_sheet ∈ GW := gw_mem (i := 1160) (by decide +kernel) (by decide +kernel)
theorem wi_Mo_sheet : Cond.instanceMethod y_Mo_sheet ∈ GW := gw_mem (i := 1161) (by decide +kernel) (by decide +kernel)
theorem ws_Mo_sheet : Cond.selects R_Mo y_Mo_sheet y_Mo_sheet ∈ GW := gw_mem (i := 1162) (by decide +kernel) (by decide +kernel)
theorem wc_Mo_sheet : Cond.code y_Mo_sheet b_Mo_sheet 5 (some .int) ∈ GW := gw_mem (i := 1163) (by decide +kernel) (by decide +kernel)
theorem wl_La_102 : Cond.methodLink R_La 102 y_Mo_lay ∈ GW := gw_mem (i := 1164) (by decide +kernel) (by decide +kernel)
theorem wi_Mo_lay : Cond.instanceMethod y_Mo_lay ∈ GW := gw_mem (i := 1165) (by decide +kernel) (by decide +kernel)
theorem ws_Mo_lay : Cond.selects R_Mo y_Mo_lay y_Mo_lay ∈ GW := gw_mem (i := 1166) (by decide +kernel) (by decide +kernel)
theorem wc_Mo_lay : Cond.code y_Mo_lay b_Mo_lay 4 (some .int) ∈ GW := gw_mem (i := 1167) (by decide +kernel) (by decide +kernel)
theorem wl_La_107 : Cond.methodLink R_La 107 y_Mo_scan ∈ GW := gw_mem (i := 1168) (by decide +kernel) (by decide +kernel)
theorem wi_Mo_scan : Cond.instanceMethod y_Mo_scan ∈ GW := gw_mem (i := 1169) (by decide +kernel) (by decide +kernel)
theorem ws_Mo_scan : Cond.selects R_Mo y_Mo_scan y_Mo_scan ∈ GW := gw_mem (i := 1170) (by decide +kernel) (by decide +kernel)
theorem wc_Mo_scan : Cond.code y_Mo_scan b_Mo_scan 11 (some .int) ∈ GW := gw_mem (i := 1171) (by decide +kernel) (by decide +kernel)
theorem wl_La_111 : Cond.methodLink R_La 111 y_Mo_count ∈ GW := gw_mem (i := 1172) (by decide +kernel) (by decide +kernel)
theorem wi_Mo_count : Cond.instanceMethod y_Mo_count ∈ GW := gw_mem (i := 1173) (by decide +kernel) (by decide +kernel)
theorem ws_Mo_count : Cond.selects R_Mo y_Mo_count y_Mo_count ∈ GW := gw_mem (i := 1174) (by decide +kernel) (by decide +kernel)
theorem wc_Mo_count : Cond.code y_Mo_count b_Mo_count 2 (some .int) ∈ GW := gw_mem (i := 1175) (by decide +kernel) (by decide +kernel)
theorem wx_La_13 : Cond.constantLong R_La 13 (4294967295) ∈ GW := gw_mem (i := 1176) (by decide +kernel) (by decide +kernel)
theorem wf_St_9 : Cond.fieldLink R_St 9 "java/lang/String" "value" "[B" ∈ GW := gw_mem (i := 1177) (by decide +kernel) (by decide +kernel)
theorem wf_St_15 : Cond.fieldLink R_St 15 "java/lang/String" "coder" "B" ∈ GW := gw_mem (i := 1178) (by decide +kernel) (by decide +kernel)
theorem in_Ba : ∀ w ∈ u_ws R_Ba F_Ba 4, w ∈ GW := by decide +kernel
theorem in_Bo : ∀ w ∈ u_ws R_Bo F_Bo 6, w ∈ GW := by decide +kernel
theorem in_Bx : ∀ w ∈ u_ws R_Bx F_Bx 6, w ∈ GW := by decide +kernel
theorem in_Fl : ∀ w ∈ u_ws R_Fl F_Fl 7, w ∈ GW := by decide +kernel
theorem in_Fo : ∀ w ∈ u_ws R_Fo F_Fo 0, w ∈ GW := by decide +kernel
theorem in_Pa : ∀ w ∈ u_ws R_Pa F_Pa 3, w ∈ GW := by decide +kernel
theorem in_Pl : ∀ w ∈ u_ws R_Pl F_Pl 5, w ∈ GW := by decide +kernel
theorem in_Pn : ∀ w ∈ u_ws R_Pn F_Pn 4, w ∈ GW := by decide +kernel
theorem in_Rd : ∀ w ∈ u_ws R_Rd F_Rd 8, w ∈ GW := by decide +kernel
theorem in_Sh : ∀ w ∈ u_ws R_Sh F_Sh 3, w ∈ GW := by decide +kernel
theorem in_Tp : ∀ w ∈ u_ws R_Tp F_Tp 2, w ∈ GW := by decide +kernel
theorem in_So : ∀ w ∈ u_ws R_So F_So 7, w ∈ GW := by decide +kernel
theorem in_Mo : ∀ w ∈ u_ws R_Mo F_Mo 46, w ∈ GW := by decide +kernel
abbrev classes : List vw_C := [(R_Ba, F_Ba, 4), (R_Bo, F_Bo, 6), (R_Bx, F_Bx, 6), (R_Fl, F_Fl, 7), (R_Ba, F_Ba, 4), (R_Pa, F_Pa, 3), (R_Pl, F_Pl, 5), (R_Pn, F_Pn, 4), (R_Rd, F_Rd, 8), (R_Sh, F_Sh, 3), (R_Tp, F_Tp, 2), (R_So, F_So, 7), (R_Mo, F_Mo, 46)]
/-- words that are of the machine's tables but not handed on by every call: nest mates, abstract methods -/
def NWl : List Cond := [Cond.methodLinkNest R_So 11 y_Tp_init R_So,
  Cond.fieldLinkNest R_So 56 "SignSolids$Tape" "length" "I" R_So,
  Cond.fieldLinkNest R_So 73 "SignSolids$Reader" "texts" "I" R_So,
  Cond.fieldLinkNest R_So 67 "SignSolids$Reader" "fault" "I" R_So,
  Cond.fieldLinkNest R_So 70 "SignSolids$Reader" "faultPlace" "I" R_So,
  Cond.methodLinkNest R_So 40 y_Fl_init R_So,
  Cond.methodLinkNest R_So 51 y_Sh_init R_So,
  Cond.fieldLinkNest R_So 200 "SignSolids$Sheet" "lane" "I" R_So,
  Cond.fieldLinkNest R_So 216 "SignSolids$Sheet" "size" "I" R_So,
  Cond.methodLinkNest R_Ba 1 y_Fo_init R_So,
  Cond.methodLinkNest R_Bx 1 y_Fo_init R_So,
  Cond.methodLinkNest R_Pn 1 y_Fo_init R_So,
  Cond.methodLinkNest R_Pa 3 y_Fo_init R_So,
  Cond.methodLinkNest R_Pl 3 y_Fo_init R_So,
  Cond.fieldLinkNest R_So 88 "SignSolids$Body" "form" "LSignSolids$Form;" R_So,
  Cond.fieldLinkNest R_So 218 "SignSolids$Body" "texts" "I" R_So,
  Cond.declares ⟨"SignSolids$Form", "valueAt", "(III)I"⟩,
  Cond.declares ⟨"SignSolids$Form", "bound", "(IIIIIIZ)I"⟩,
  Cond.methodLinkNest R_Bo 43 y_So_rowPlace R_So,
  Cond.methodLinkNest R_Fl 62 y_So_rowPlace R_So,
  Cond.methodLinkNest R_Bo 33 y_So_isPoint R_So]
theorem wL_So_11 : Cond.methodLinkNest R_So 11 y_Tp_init R_So ∈ NWl := List.mem_of_getElem? (i := 0) rfl
theorem wF_So_56 : Cond.fieldLinkNest R_So 56 "SignSolids$Tape" "length" "I" R_So ∈ NWl := List.mem_of_getElem? (i := 1) rfl
theorem wF_So_73 : Cond.fieldLinkNest R_So 73 "SignSolids$Reader" "texts" "I" R_So ∈ NWl := List.mem_of_getElem? (i := 2) rfl
theorem wF_So_67 : Cond.fieldLinkNest R_So 67 "SignSolids$Reader" "fault" "I" R_So ∈ NWl := List.mem_of_getElem? (i := 3) rfl
theorem wF_So_70 : Cond.fieldLinkNest R_So 70 "SignSolids$Reader" "faultPlace" "I" R_So ∈ NWl := List.mem_of_getElem? (i := 4) rfl
theorem wL_So_40 : Cond.methodLinkNest R_So 40 y_Fl_init R_So ∈ NWl := List.mem_of_getElem? (i := 5) rfl
theorem wL_So_51 : Cond.methodLinkNest R_So 51 y_Sh_init R_So ∈ NWl := List.mem_of_getElem? (i := 6) rfl
theorem wF_So_200 : Cond.fieldLinkNest R_So 200 "SignSolids$Sheet" "lane" "I" R_So ∈ NWl := List.mem_of_getElem? (i := 7) rfl
theorem wF_So_216 : Cond.fieldLinkNest R_So 216 "SignSolids$Sheet" "size" "I" R_So ∈ NWl := List.mem_of_getElem? (i := 8) rfl
theorem wL_Ba_1 : Cond.methodLinkNest R_Ba 1 y_Fo_init R_So ∈ NWl := List.mem_of_getElem? (i := 9) rfl
theorem wL_Bx_1 : Cond.methodLinkNest R_Bx 1 y_Fo_init R_So ∈ NWl := List.mem_of_getElem? (i := 10) rfl
theorem wL_Pn_1 : Cond.methodLinkNest R_Pn 1 y_Fo_init R_So ∈ NWl := List.mem_of_getElem? (i := 11) rfl
theorem wL_Pa_3 : Cond.methodLinkNest R_Pa 3 y_Fo_init R_So ∈ NWl := List.mem_of_getElem? (i := 12) rfl
theorem wL_Pl_3 : Cond.methodLinkNest R_Pl 3 y_Fo_init R_So ∈ NWl := List.mem_of_getElem? (i := 13) rfl
theorem wF_So_88 : Cond.fieldLinkNest R_So 88 "SignSolids$Body" "form" "LSignSolids$Form;" R_So ∈ NWl := List.mem_of_getElem? (i := 14) rfl
theorem wF_So_218 : Cond.fieldLinkNest R_So 218 "SignSolids$Body" "texts" "I" R_So ∈ NWl := List.mem_of_getElem? (i := 15) rfl
theorem wD_valueAt : Cond.declares ⟨"SignSolids$Form", "valueAt", "(III)I"⟩ ∈ NWl := List.mem_of_getElem? (i := 16) rfl
theorem wD_bound : Cond.declares ⟨"SignSolids$Form", "bound", "(IIIIIIZ)I"⟩ ∈ NWl := List.mem_of_getElem? (i := 17) rfl
theorem wL_Bo_43 : Cond.methodLinkNest R_Bo 43 y_So_rowPlace R_So ∈ NWl := List.mem_of_getElem? (i := 18) rfl
theorem wL_Fl_62 : Cond.methodLinkNest R_Fl 62 y_So_rowPlace R_So ∈ NWl := List.mem_of_getElem? (i := 19) rfl
theorem wL_Bo_33 : Cond.methodLinkNest R_Bo 33 y_So_isPoint R_So ∈ NWl := List.mem_of_getElem? (i := 20) rfl
theorem NWl_in : ∀ w ∈ NWl, w ∈ lw_tbl := by decide +kernel
