def R_X : String := "ProtocolText"
def R_B : String := "ProtocolText$Bytes"
def R_D : String := "ProtocolText$Drawer"
def R_L : String := "ProtocolText$Lexer"
def R_N : String := "ProtocolText$Names"
def R_P : String := "ProtocolText$Parser"
def R_I : String := "ProtocolText$Printer"
def R_T : String := "ProtocolText$Table"
def R_M : String := "ProtocolTextModel"
def R_W : String := "ProtocolTextLaw"
def R_jA : String := "java/util/Arrays"
def R_jS : String := "java/lang/String"
def R_jL : String := "java/lang/StringLatin1"
def R_jU : String := "java/lang/StringUTF16"
def R_jM : String := "java/lang/Math"
def R_jP : String := "jdk/internal/util/Preconditions"
def R_jY : String := "java/lang/System"
def R_jT : String := "java/lang/Throwable"
def R_jE : String := "java/lang/Exception"
def R_jR : String := "java/lang/RuntimeException"
def R_jX : String := "java/lang/IllegalStateException"
def R_jG : String := "java/lang/IllegalArgumentException"
def R_jI : String := "java/lang/IndexOutOfBoundsException"
def R_jO : String := "java/lang/Object"
def T_B : u_T := fun k => match k with
  | 0 => (R_B, "bytes", "[B", true)
  | _ => (R_B, "length", "I", false)
def ty_B : Nat → FieldType := fun k => match k with
  | 0 => .array .byte
  | _ => .int
theorem nm_B : ∀ a, a < 2 → ∀ b, b < 2 → a ≠ b → (T_B a).2.1 ≠ (T_B b).2.1 := by decide +kernel
theorem ok_B : ∀ k, k < 2 → parseFieldDescriptor (T_B k).2.2.1 = some (ty_B k) := by decide +kernel
def T_D : u_T := fun k => match k with
  | 0 => (R_D, "page", "LProtocolText$Bytes;", true)
  | 1 => (R_D, "names", "LProtocolText$Names;", true)
  | 2 => (R_D, "table", "LProtocolText$Table;", true)
  | 3 => (R_D, "widths", "[I", true)
  | _ => (R_D, "firstWidth", "I", false)
def ty_D : Nat → FieldType := fun k => match k with
  | 0 => .object "ProtocolText$Bytes"
  | 1 => .object "ProtocolText$Names"
  | 2 => .object "ProtocolText$Table"
  | 3 => .array .int
  | _ => .int
theorem nm_D : ∀ a, a < 5 → ∀ b, b < 5 → a ≠ b → (T_D a).2.1 ≠ (T_D b).2.1 := by decide +kernel
theorem ok_D : ∀ k, k < 5 → parseFieldDescriptor (T_D k).2.2.1 = some (ty_D k) := by decide +kernel
def T_L : u_T := fun k => match k with
  | 0 => (R_L, "text", "LProtocolText$Bytes;", true)
  | 1 => (R_L, "start", "I", false)
  | 2 => (R_L, "at", "I", false)
  | _ => (R_L, "kind", "I", false)
def ty_L : Nat → FieldType := fun k => match k with
  | 0 => .object "ProtocolText$Bytes"
  | 1 => .int
  | 2 => .int
  | _ => .int
theorem nm_L : ∀ a, a < 4 → ∀ b, b < 4 → a ≠ b → (T_L a).2.1 ≠ (T_L b).2.1 := by decide +kernel
theorem ok_L : ∀ k, k < 4 → parseFieldDescriptor (T_L k).2.2.1 = some (ty_L k) := by decide +kernel
def T_N : u_T := fun k => match k with
  | 0 => (R_N, "letters", "[B", true)
  | 1 => (R_N, "lengths", "[I", true)
  | _ => (R_N, "told", "[I", true)
def ty_N : Nat → FieldType := fun k => match k with
  | 0 => .array .byte
  | 1 => .array .int
  | _ => .array .int
theorem nm_N : ∀ a, a < 3 → ∀ b, b < 3 → a ≠ b → (T_N a).2.1 ≠ (T_N b).2.1 := by decide +kernel
theorem ok_N : ∀ k, k < 3 → parseFieldDescriptor (T_N k).2.2.1 = some (ty_N k) := by decide +kernel
def T_P : u_T := fun k => match k with
  | 0 => (R_P, "lexer", "LProtocolText$Lexer;", true)
  | 1 => (R_P, "names", "LProtocolText$Names;", true)
  | 2 => (R_P, "table", "LProtocolText$Table;", true)
  | 3 => (R_P, "phase", "I", false)
  | 4 => (R_P, "sort", "I", false)
  | 5 => (R_P, "never", "Z", false)
  | 6 => (R_P, "slot", "I", false)
  | 7 => (R_P, "state", "I", false)
  | 8 => (R_P, "pair", "I", false)
  | _ => (R_P, "actionsTold", "I", false)
def ty_P : Nat → FieldType := fun k => match k with
  | 0 => .object "ProtocolText$Lexer"
  | 1 => .object "ProtocolText$Names"
  | 2 => .object "ProtocolText$Table"
  | 3 => .int
  | 4 => .int
  | 5 => .boolean
  | 6 => .int
  | 7 => .int
  | 8 => .int
  | _ => .int
theorem nm_P : ∀ a, a < 10 → ∀ b, b < 10 → a ≠ b → (T_P a).2.1 ≠ (T_P b).2.1 := by decide +kernel
theorem ok_P : ∀ k, k < 10 → parseFieldDescriptor (T_P k).2.2.1 = some (ty_P k) := by decide +kernel
def T_I : u_T := fun k => match k with
  | 0 => (R_I, "page", "LProtocolText$Bytes;", true)
  | 1 => (R_I, "names", "LProtocolText$Names;", true)
  | _ => (R_I, "table", "LProtocolText$Table;", true)
def ty_I : Nat → FieldType := fun k => match k with
  | 0 => .object "ProtocolText$Bytes"
  | 1 => .object "ProtocolText$Names"
  | _ => .object "ProtocolText$Table"
theorem nm_I : ∀ a, a < 3 → ∀ b, b < 3 → a ≠ b → (T_I a).2.1 ≠ (T_I b).2.1 := by decide +kernel
theorem ok_I : ∀ k, k < 3 → parseFieldDescriptor (T_I k).2.2.1 = some (ty_I k) := by decide +kernel
def T_T : u_T := fun k => match k with
  | 0 => (R_T, "goals", "[I", true)
  | 1 => (R_T, "distances", "[I", true)
  | 2 => (R_T, "rules", "I", false)
  | 3 => (R_T, "nevers", "I", false)
  | 4 => (R_T, "first", "I", false)
  | 5 => (R_T, "names", "LProtocolText$Names;", true)
  | _ => (R_T, "actions", "[I", true)
def ty_T : Nat → FieldType := fun k => match k with
  | 0 => .array .int
  | 1 => .array .int
  | 2 => .int
  | 3 => .int
  | 4 => .int
  | 5 => .object "ProtocolText$Names"
  | _ => .array .int
theorem nm_T : ∀ a, a < 7 → ∀ b, b < 7 → a ≠ b → (T_T a).2.1 ≠ (T_T b).2.1 := by decide +kernel
theorem ok_T : ∀ k, k < 7 → parseFieldDescriptor (T_T k).2.2.1 = some (ty_T k) := by decide +kernel
def T_X : u_T := fun k => match k with
  | 0 => (R_X, "text", "LProtocolText$Bytes;", true)
  | 1 => (R_X, "page", "LProtocolText$Bytes;", true)
  | 2 => (R_X, "names", "LProtocolText$Names;", true)
  | 3 => (R_X, "table", "LProtocolText$Table;", true)
  | 4 => (R_X, "parser", "LProtocolText$Parser;", true)
  | 5 => (R_X, "printer", "LProtocolText$Printer;", true)
  | 6 => (R_X, "drawer", "LProtocolText$Drawer;", true)
  | 7 => (R_X, "faultNumber", "I", false)
  | _ => (R_X, "faultPlace", "I", false)
def ty_X : Nat → FieldType := fun k => match k with
  | 0 => .object "ProtocolText$Bytes"
  | 1 => .object "ProtocolText$Bytes"
  | 2 => .object "ProtocolText$Names"
  | 3 => .object "ProtocolText$Table"
  | 4 => .object "ProtocolText$Parser"
  | 5 => .object "ProtocolText$Printer"
  | 6 => .object "ProtocolText$Drawer"
  | 7 => .int
  | _ => .int
theorem nm_X : ∀ a, a < 9 → ∀ b, b < 9 → a ≠ b → (T_X a).2.1 ≠ (T_X b).2.1 := by decide +kernel
theorem ok_X : ∀ k, k < 9 → parseFieldDescriptor (T_X k).2.2.1 = some (ty_X k) := by decide +kernel
def T_M : u_T := fun k => match k with
  | 0 => (R_M, "wordChars", "[I", true)
  | 1 => (R_M, "thrown", "I", false)
  | 2 => (R_M, "size", "I", false)
  | 3 => (R_M, "text", "[I", true)
  | 4 => (R_M, "written", "I", false)
  | 5 => (R_M, "out", "[I", true)
  | 6 => (R_M, "fault", "I", false)
  | 7 => (R_M, "place", "I", false)
  | 8 => (R_M, "length", "I", false)
  | 9 => (R_M, "names", "I", false)
  | 10 => (R_M, "source", "[I", true)
  | 11 => (R_M, "nameFrom", "[I", true)
  | 12 => (R_M, "nameTo", "[I", true)
  | 13 => (R_M, "sort", "[I", true)
  | 14 => (R_M, "number", "[I", true)
  | 15 => (R_M, "many", "[I", true)
  | 16 => (R_M, "nameOf", "[I", true)
  | 17 => (R_M, "first", "I", false)
  | 18 => (R_M, "rules", "I", false)
  | 19 => (R_M, "nevers", "I", false)
  | 20 => (R_M, "leads", "[I", true)
  | 21 => (R_M, "acts", "[I", true)
  | 22 => (R_M, "distance", "[I", true)
  | 23 => (R_M, "order", "[I", true)
  | 24 => (R_M, "kind", "I", false)
  | 25 => (R_M, "from", "I", false)
  | 26 => (R_M, "to", "I", false)
  | _ => (R_M, "which", "I", false)
def ty_M : Nat → FieldType := fun k => match k with
  | 0 => .array .int
  | 1 => .int
  | 2 => .int
  | 3 => .array .int
  | 4 => .int
  | 5 => .array .int
  | 6 => .int
  | 7 => .int
  | 8 => .int
  | 9 => .int
  | 10 => .array .int
  | 11 => .array .int
  | 12 => .array .int
  | 13 => .array .int
  | 14 => .array .int
  | 15 => .array .int
  | 16 => .array .int
  | 17 => .int
  | 18 => .int
  | 19 => .int
  | 20 => .array .int
  | 21 => .array .int
  | 22 => .array .int
  | 23 => .array .int
  | 24 => .int
  | 25 => .int
  | 26 => .int
  | _ => .int
theorem nm_M : ∀ a, a < 28 → ∀ b, b < 28 → a ≠ b → (T_M a).2.1 ≠ (T_M b).2.1 := by decide +kernel
theorem ok_M : ∀ k, k < 28 → parseFieldDescriptor (T_M k).2.2.1 = some (ty_M k) := by decide +kernel
abbrev c_X_init : ByteArray := prog_1_method_1_code
def y_X_init : MethodName := ⟨R_X, "<init>", "()V"⟩
abbrev c_jO_init : ByteArray := object_method_1_code
def y_jO_init : MethodName := ⟨R_jO, "<init>", "()V"⟩
abbrev c_B_init : ByteArray := prog_2_method_1_code
def y_B_init : MethodName := ⟨R_B, "<init>", "([B)V"⟩
abbrev c_N_init : ByteArray := prog_5_method_1_code
def y_N_init : MethodName := ⟨R_N, "<init>", "()V"⟩
abbrev c_T_init : ByteArray := prog_8_method_1_code
def y_T_init : MethodName := ⟨R_T, "<init>", "(LProtocolText$Names;)V"⟩
abbrev c_T_forget : ByteArray := prog_8_method_2_code
def y_T_forget : MethodName := ⟨R_T, "forget", "()V"⟩
abbrev c_jA_fill : ByteArray := prog_22_method_103_code
def y_jA_fill : MethodName := ⟨R_jA, "fill", "([II)V"⟩
abbrev c_L_init : ByteArray := prog_4_method_1_code
def y_L_init : MethodName := ⟨R_L, "<init>", "(LProtocolText$Bytes;)V"⟩
abbrev c_P_init : ByteArray := prog_6_method_1_code
def y_P_init : MethodName := ⟨R_P, "<init>", "(LProtocolText$Lexer;LProtocolText$Names;LProtocolText$Table;)V"⟩
abbrev c_I_init : ByteArray := prog_7_method_1_code
def y_I_init : MethodName := ⟨R_I, "<init>", "(LProtocolText$Bytes;LProtocolText$Names;LProtocolText$Table;)V"⟩
abbrev c_D_init : ByteArray := prog_3_method_1_code
def y_D_init : MethodName := ⟨R_D, "<init>", "(LProtocolText$Bytes;LProtocolText$Names;LProtocolText$Table;)V"⟩
abbrev c_X_print : ByteArray := prog_1_method_11_code
def y_X_print : MethodName := ⟨R_X, "print", "()I"⟩
abbrev c_I_printAll : ByteArray := prog_7_method_2_code
def y_I_printAll : MethodName := ⟨R_I, "printAll", "()V"⟩
abbrev c_N_states : ByteArray := prog_5_method_3_code
def y_N_states : MethodName := ⟨R_N, "states", "()I"⟩
abbrev c_I_printNames : ByteArray := prog_7_method_4_code
def y_I_printNames : MethodName := ⟨R_I, "printNames", "(Ljava/lang/String;II)V"⟩
abbrev c_B_addText : ByteArray := prog_2_method_4_code
def y_B_addText : MethodName := ⟨R_B, "addText", "(Ljava/lang/String;)V"⟩
abbrev c_jS_length : ByteArray := prog_17_method_54_code
def y_jS_length : MethodName := ⟨R_jS, "length", "()I"⟩
abbrev c_jS_coder : ByteArray := prog_17_method_152_code
def y_jS_coder : MethodName := ⟨R_jS, "coder", "()B"⟩
abbrev c_jS_charAt : ByteArray := prog_17_method_56_code
def y_jS_charAt : MethodName := ⟨R_jS, "charAt", "(I)C"⟩
abbrev c_jS_isLatin1 : ByteArray := prog_17_method_154_code
def y_jS_isLatin1 : MethodName := ⟨R_jS, "isLatin1", "()Z"⟩
abbrev c_jL_charAt : ByteArray := prog_18_method_2_code
def y_jL_charAt : MethodName := ⟨R_jL, "charAt", "([BI)C"⟩
abbrev c_jS_checkIndex : ByteArray := prog_17_method_155_code
def y_jS_checkIndex : MethodName := ⟨R_jS, "checkIndex", "(II)V"⟩
abbrev c_jP_checkIndex : ByteArray := prog_23_method_11_code
def y_jP_checkIndex : MethodName := ⟨R_jP, "checkIndex", "(IILjava/util/function/BiFunction;)I"⟩
abbrev c_jU_charAt : ByteArray := prog_19_method_83_code
def y_jU_charAt : MethodName := ⟨R_jU, "charAt", "([BI)C"⟩
abbrev c_jU_checkIndex : ByteArray := prog_19_method_91_code
def y_jU_checkIndex : MethodName := ⟨R_jU, "checkIndex", "(I[B)V"⟩
abbrev c_jU_length : ByteArray := prog_19_method_6_code
def y_jU_length : MethodName := ⟨R_jU, "length", "([B)I"⟩
abbrev c_jU_getChar : ByteArray := prog_19_method_5_code
def y_jU_getChar : MethodName := ⟨R_jU, "getChar", "([BI)C"⟩
abbrev c_B_add : ByteArray := prog_2_method_2_code
def y_B_add : MethodName := ⟨R_B, "add", "(I)V"⟩
abbrev c_N_write : ByteArray := prog_5_method_15_code
def y_N_write : MethodName := ⟨R_N, "write", "(ILProtocolText$Bytes;)V"⟩
abbrev c_I_endLine : ByteArray := prog_7_method_3_code
def y_I_endLine : MethodName := ⟨R_I, "endLine", "()V"⟩
abbrev c_N_asks : ByteArray := prog_5_method_4_code
def y_N_asks : MethodName := ⟨R_N, "asks", "()I"⟩
abbrev c_N_messages : ByteArray := prog_5_method_5_code
def y_N_messages : MethodName := ⟨R_N, "messages", "()I"⟩
abbrev c_N_events : ByteArray := prog_5_method_6_code
def y_N_events : MethodName := ⟨R_N, "events", "()I"⟩
abbrev c_I_printPair : ByteArray := prog_7_method_5_code
def y_I_printPair : MethodName := ⟨R_I, "printPair", "(II)V"⟩
abbrev c_T_pairOf : ByteArray := prog_8_method_4_code
def y_T_pairOf : MethodName := ⟨R_T, "pairOf", "(II)I"⟩
abbrev c_N_slotOfEvent : ByteArray := prog_5_method_8_code
def y_N_slotOfEvent : MethodName := ⟨R_N, "slotOfEvent", "(I)I"⟩
abbrev c_T_pairOfSlots : ByteArray := prog_8_method_3_code
def y_T_pairOfSlots : MethodName := ⟨R_T, "pairOfSlots", "(II)I"⟩
abbrev c_T_goalOf : ByteArray := prog_8_method_5_code
def y_T_goalOf : MethodName := ⟨R_T, "goalOf", "(II)I"⟩
abbrev c_I_printActions : ByteArray := prog_7_method_6_code
def y_I_printActions : MethodName := ⟨R_I, "printActions", "(I)V"⟩
abbrev c_T_actionOf : ByteArray := prog_8_method_6_code
def y_T_actionOf : MethodName := ⟨R_T, "actionOf", "(II)I"⟩
abbrev c_I_printAction : ByteArray := prog_7_method_7_code
def y_I_printAction : MethodName := ⟨R_I, "printAction", "(I)V"⟩
abbrev c_X_draw : ByteArray := prog_1_method_12_code
def y_X_draw : MethodName := ⟨R_X, "draw", "()I"⟩
abbrev c_D_drawAll : ByteArray := prog_3_method_2_code
def y_D_drawAll : MethodName := ⟨R_D, "drawAll", "()V"⟩
abbrev c_D_measure : ByteArray := prog_3_method_3_code
def y_D_measure : MethodName := ⟨R_D, "measure", "()V"⟩
abbrev c_N_lengthOf : ByteArray := prog_5_method_9_code
def y_N_lengthOf : MethodName := ⟨R_N, "lengthOf", "(I)I"⟩
abbrev c_jM_max : ByteArray := prog_15_method_65_code
def y_jM_max : MethodName := ⟨R_jM, "max", "(II)I"⟩
abbrev c_D_widthOf : ByteArray := prog_3_method_4_code
def y_D_widthOf : MethodName := ⟨R_D, "widthOf", "(I)I"⟩
abbrev c_D_drawHead : ByteArray := prog_3_method_5_code
def y_D_drawHead : MethodName := ⟨R_D, "drawHead", "()V"⟩
abbrev c_B_addBlanks : ByteArray := prog_2_method_5_code
def y_B_addBlanks : MethodName := ⟨R_B, "addBlanks", "(I)V"⟩
abbrev c_D_drawName : ByteArray := prog_3_method_8_code
def y_D_drawName : MethodName := ⟨R_D, "drawName", "(II)V"⟩
abbrev c_D_endLine : ByteArray := prog_3_method_9_code
def y_D_endLine : MethodName := ⟨R_D, "endLine", "()V"⟩
abbrev c_B_dropBlanks : ByteArray := prog_2_method_6_code
def y_B_dropBlanks : MethodName := ⟨R_B, "dropBlanks", "()V"⟩
abbrev c_D_drawState : ByteArray := prog_3_method_6_code
def y_D_drawState : MethodName := ⟨R_D, "drawState", "(I)V"⟩
abbrev c_D_drawGoal : ByteArray := prog_3_method_7_code
def y_D_drawGoal : MethodName := ⟨R_D, "drawGoal", "(II)V"⟩
abbrev c_X_count : ByteArray := prog_1_method_15_code
def y_X_count : MethodName := ⟨R_X, "count", "(I)I"⟩
abbrev c_T_missingPairs : ByteArray := prog_8_method_17_code
def y_T_missingPairs : MethodName := ⟨R_T, "missingPairs", "(Z)I"⟩
abbrev c_T_isReached : ByteArray := prog_8_method_12_code
def y_T_isReached : MethodName := ⟨R_T, "isReached", "(I)Z"⟩
abbrev c_T_missingPairsOf : ByteArray := prog_8_method_18_code
def y_T_missingPairsOf : MethodName := ⟨R_T, "missingPairsOf", "(I)I"⟩
abbrev c_W_feed : ByteArray := method_3_code
def y_W_feed : MethodName := ⟨R_W, "feed", "(LProtocolText;IIII[J)I"⟩
abbrev c_X_feed : ByteArray := prog_1_method_2_code
def y_X_feed : MethodName := ⟨R_X, "feed", "(IIII)I"⟩
abbrev c_jT_init : ByteArray := prog_21_method_1_code
def y_jT_init : MethodName := ⟨R_jT, "<init>", "()V"⟩
abbrev c_jT_fillInStackTrace : ByteArray := prog_21_method_18_code
def y_jT_fillInStackTrace : MethodName := ⟨R_jT, "fillInStackTrace", "()Ljava/lang/Throwable;"⟩
abbrev c_jX_init : ByteArray := prog_13_method_2_code
def y_jX_init : MethodName := ⟨R_jX, "<init>", "(Ljava/lang/String;)V"⟩
abbrev c_jR_init : ByteArray := prog_16_method_2_code
def y_jR_init : MethodName := ⟨R_jR, "<init>", "(Ljava/lang/String;)V"⟩
abbrev c_jE_init : ByteArray := prog_11_method_2_code
def y_jE_init : MethodName := ⟨R_jE, "<init>", "(Ljava/lang/String;)V"⟩
abbrev c_jT_init2 : ByteArray := prog_21_method_2_code
def y_jT_init2 : MethodName := ⟨R_jT, "<init>", "(Ljava/lang/String;)V"⟩
abbrev c_B_addInt : ByteArray := prog_2_method_3_code
def y_B_addInt : MethodName := ⟨R_B, "addInt", "(I)V"⟩
abbrev c_W_end : ByteArray := method_4_code
def y_W_end : MethodName := ⟨R_W, "end", "(LProtocolText;I[J)I"⟩
abbrev c_X_end : ByteArray := prog_1_method_3_code
def y_X_end : MethodName := ⟨R_X, "end", "(I)I"⟩
abbrev c_jG_init : ByteArray := prog_12_method_2_code
def y_jG_init : MethodName := ⟨R_jG, "<init>", "(Ljava/lang/String;)V"⟩
abbrev c_W_read : ByteArray := method_5_code
def y_W_read : MethodName := ⟨R_W, "read", "(LProtocolText;[J)I"⟩
abbrev c_X_read : ByteArray := prog_1_method_4_code
def y_X_read : MethodName := ⟨R_X, "read", "()I"⟩
abbrev c_N_forget : ByteArray := prog_5_method_2_code
def y_N_forget : MethodName := ⟨R_N, "forget", "()V"⟩
abbrev c_P_firstFault : ByteArray := prog_6_method_3_code
def y_P_firstFault : MethodName := ⟨R_P, "firstFault", "()I"⟩
abbrev c_L_restart : ByteArray := prog_4_method_2_code
def y_L_restart : MethodName := ⟨R_L, "restart", "()V"⟩
abbrev c_L_advance : ByteArray := prog_4_method_3_code
def y_L_advance : MethodName := ⟨R_L, "advance", "()V"⟩
abbrev c_L_skipWhite : ByteArray := prog_4_method_4_code
def y_L_skipWhite : MethodName := ⟨R_L, "skipWhite", "()V"⟩
abbrev c_L_isLetter : ByteArray := prog_4_method_6_code
def y_L_isLetter : MethodName := ⟨R_L, "isLetter", "(I)Z"⟩
abbrev c_L_skipName : ByteArray := prog_4_method_5_code
def y_L_skipName : MethodName := ⟨R_L, "skipName", "()V"⟩
abbrev c_L_isDigit : ByteArray := prog_4_method_7_code
def y_L_isDigit : MethodName := ⟨R_L, "isDigit", "(I)Z"⟩
abbrev c_L_nameKind : ByteArray := prog_4_method_9_code
def y_L_nameKind : MethodName := ⟨R_L, "nameKind", "()I"⟩
abbrev c_L_spells : ByteArray := prog_4_method_10_code
def y_L_spells : MethodName := ⟨R_L, "spells", "(Ljava/lang/String;)Z"⟩
abbrev c_L_signKind : ByteArray := prog_4_method_8_code
def y_L_signKind : MethodName := ⟨R_L, "signKind", "(I)I"⟩
abbrev c_P_step : ByteArray := prog_6_method_4_code
def y_P_step : MethodName := ⟨R_P, "step", "()I"⟩
abbrev c_P_beginStatement : ByteArray := prog_6_method_8_code
def y_P_beginStatement : MethodName := ⟨R_P, "beginStatement", "()I"⟩
abbrev c_P_beginNames : ByteArray := prog_6_method_9_code
def y_P_beginNames : MethodName := ⟨R_P, "beginNames", "(I)I"⟩
abbrev c_P_goOn : ByteArray := prog_6_method_5_code
def y_P_goOn : MethodName := ⟨R_P, "goOn", "(I)I"⟩
abbrev c_P_beginPair : ByteArray := prog_6_method_10_code
def y_P_beginPair : MethodName := ⟨R_P, "beginPair", "(Z)I"⟩
abbrev c_P_want : ByteArray := prog_6_method_6_code
def y_P_want : MethodName := ⟨R_P, "want", "(II)I"⟩
abbrev c_P_takeNewName : ByteArray := prog_6_method_11_code
def y_P_takeNewName : MethodName := ⟨R_P, "takeNewName", "()I"⟩
abbrev c_N_isFull : ByteArray := prog_5_method_10_code
def y_N_isFull : MethodName := ⟨R_N, "isFull", "(I)Z"⟩
abbrev c_N_slotOf : ByteArray := prog_5_method_13_code
def y_N_slotOf : MethodName := ⟨R_N, "slotOf", "(LProtocolText$Lexer;)I"⟩
abbrev c_N_isSame : ByteArray := prog_5_method_14_code
def y_N_isSame : MethodName := ⟨R_N, "isSame", "(ILProtocolText$Lexer;)Z"⟩
abbrev c_N_tell : ByteArray := prog_5_method_11_code
def y_N_tell : MethodName := ⟨R_N, "tell", "(ILProtocolText$Lexer;)V"⟩
abbrev c_N_slotBehindLast : ByteArray := prog_5_method_12_code
def y_N_slotBehindLast : MethodName := ⟨R_N, "slotBehindLast", "(I)I"⟩
abbrev c_P_commaOr : ByteArray := prog_6_method_7_code
def y_P_commaOr : MethodName := ⟨R_P, "commaOr", "(III)I"⟩
abbrev c_P_takePairState : ByteArray := prog_6_method_13_code
def y_P_takePairState : MethodName := ⟨R_P, "takePairState", "()I"⟩
abbrev c_P_findName : ByteArray := prog_6_method_12_code
def y_P_findName : MethodName := ⟨R_P, "findName", "(II)I"⟩
abbrev c_N_sortOf : ByteArray := prog_5_method_7_code
def y_N_sortOf : MethodName := ⟨R_N, "sortOf", "(I)I"⟩
abbrev c_P_takePairEvent : ByteArray := prog_6_method_14_code
def y_P_takePairEvent : MethodName := ⟨R_P, "takePairEvent", "()I"⟩
abbrev c_T_setNever : ByteArray := prog_8_method_9_code
def y_T_setNever : MethodName := ⟨R_T, "setNever", "(I)V"⟩
abbrev c_P_beginAction : ByteArray := prog_6_method_15_code
def y_P_beginAction : MethodName := ⟨R_P, "beginAction", "()I"⟩
abbrev c_P_addAction : ByteArray := prog_6_method_17_code
def y_P_addAction : MethodName := ⟨R_P, "addAction", "(I)I"⟩
abbrev c_T_setAction : ByteArray := prog_8_method_7_code
def y_T_setAction : MethodName := ⟨R_T, "setAction", "(III)V"⟩
abbrev c_P_takeSentMessage : ByteArray := prog_6_method_16_code
def y_P_takeSentMessage : MethodName := ⟨R_P, "takeSentMessage", "()I"⟩
abbrev c_P_takeGoal : ByteArray := prog_6_method_18_code
def y_P_takeGoal : MethodName := ⟨R_P, "takeGoal", "()I"⟩
abbrev c_T_setRule : ByteArray := prog_8_method_8_code
def y_T_setRule : MethodName := ⟨R_T, "setRule", "(II)V"⟩
abbrev c_P_takeFirstState : ByteArray := prog_6_method_19_code
def y_P_takeFirstState : MethodName := ⟨R_P, "takeFirstState", "()I"⟩
abbrev c_P_placeInText : ByteArray := prog_6_method_2_code
def y_P_placeInText : MethodName := ⟨R_P, "placeInText", "()I"⟩
abbrev c_T_settle : ByteArray := prog_8_method_10_code
def y_T_settle : MethodName := ⟨R_T, "settle", "()V"⟩
abbrev c_T_reachFrom : ByteArray := prog_8_method_11_code
def y_T_reachFrom : MethodName := ⟨R_T, "reachFrom", "(II)V"⟩
abbrev c_W_fault : ByteArray := method_6_code
def y_W_fault : MethodName := ⟨R_W, "fault", "(LProtocolText;I[J)I"⟩
abbrev c_X_fault : ByteArray := prog_1_method_5_code
def y_X_fault : MethodName := ⟨R_X, "fault", "(I)I"⟩
abbrev c_jI_init : ByteArray := prog_14_method_2_code
def y_jI_init : MethodName := ⟨R_jI, "<init>", "(Ljava/lang/String;)V"⟩
abbrev c_W_next : ByteArray := method_7_code
def y_W_next : MethodName := ⟨R_W, "next", "(LProtocolText;II[J)I"⟩
abbrev c_X_next : ByteArray := prog_1_method_6_code
def y_X_next : MethodName := ⟨R_X, "next", "(II)I"⟩
abbrev c_W_action : ByteArray := method_8_code
def y_W_action : MethodName := ⟨R_W, "action", "(LProtocolText;III[J)I"⟩
abbrev c_X_action : ByteArray := prog_1_method_7_code
def y_X_action : MethodName := ⟨R_X, "action", "(III)I"⟩
abbrev c_W_missing : ByteArray := method_9_code
def y_W_missing : MethodName := ⟨R_W, "missing", "(LProtocolText;I[J)I"⟩
abbrev c_X_missing : ByteArray := prog_1_method_8_code
def y_X_missing : MethodName := ⟨R_X, "missing", "(I)I"⟩
abbrev c_T_missingPair : ByteArray := prog_8_method_16_code
def y_T_missingPair : MethodName := ⟨R_T, "missingPair", "(I)I"⟩
abbrev c_W_reached : ByteArray := method_10_code
def y_W_reached : MethodName := ⟨R_W, "reached", "(LProtocolText;II[J)I"⟩
abbrev c_X_reached : ByteArray := prog_1_method_9_code
def y_X_reached : MethodName := ⟨R_X, "reached", "(II)I"⟩
abbrev c_W_message : ByteArray := method_11_code
def y_W_message : MethodName := ⟨R_W, "message", "(LProtocolText;I[J)I"⟩
abbrev c_X_message : ByteArray := prog_1_method_10_code
def y_X_message : MethodName := ⟨R_X, "message", "(I)I"⟩
abbrev c_T_isSent : ByteArray := prog_8_method_13_code
def y_T_isSent : MethodName := ⟨R_T, "isSent", "(I)Z"⟩
abbrev c_T_sends : ByteArray := prog_8_method_14_code
def y_T_sends : MethodName := ⟨R_T, "sends", "(II)Z"⟩
abbrev c_T_isAwaited : ByteArray := prog_8_method_15_code
def y_T_isAwaited : MethodName := ⟨R_T, "isAwaited", "(I)Z"⟩
abbrev c_W_out : ByteArray := method_12_code
def y_W_out : MethodName := ⟨R_W, "out", "(LProtocolText;I[J)I"⟩
abbrev c_X_out : ByteArray := prog_1_method_13_code
def y_X_out : MethodName := ⟨R_X, "out", "(I)I"⟩
abbrev c_W_again : ByteArray := method_13_code
def y_W_again : MethodName := ⟨R_W, "again", "(LProtocolText;[J)I"⟩
abbrev c_X_again : ByteArray := prog_1_method_14_code
def y_X_again : MethodName := ⟨R_X, "again", "()I"⟩
abbrev c_M_init : ByteArray := prog_10_method_1_code
def y_M_init : MethodName := ⟨R_M, "<init>", "()V"⟩
abbrev c_M_forget : ByteArray := prog_10_method_28_code
def y_M_forget : MethodName := ⟨R_M, "forget", "()V"⟩
abbrev c_M_thrown : ByteArray := prog_10_method_2_code
def y_M_thrown : MethodName := ⟨R_M, "thrown", "()I"⟩
abbrev c_M_feed : ByteArray := prog_10_method_5_code
def y_M_feed : MethodName := ⟨R_M, "feed", "(IIII)I"⟩
abbrev c_M_fail : ByteArray := prog_10_method_3_code
def y_M_fail : MethodName := ⟨R_M, "fail", "(I)I"⟩
abbrev c_M_end : ByteArray := prog_10_method_6_code
def y_M_end : MethodName := ⟨R_M, "end", "(I)I"⟩
abbrev c_M_within : ByteArray := prog_10_method_4_code
def y_M_within : MethodName := ⟨R_M, "within", "(III)Z"⟩
abbrev c_M_read : ByteArray := prog_10_method_29_code
def y_M_read : MethodName := ⟨R_M, "read", "()I"⟩
abbrev c_M_advance : ByteArray := prog_10_method_12_code
def y_M_advance : MethodName := ⟨R_M, "advance", "()V"⟩
abbrev c_M_passWhite : ByteArray := prog_10_method_10_code
def y_M_passWhite : MethodName := ⟨R_M, "passWhite", "()V"⟩
abbrev c_M_isWhite : ByteArray := prog_10_method_9_code
def y_M_isWhite : MethodName := ⟨R_M, "isWhite", "(I)Z"⟩
abbrev c_M_isSmall : ByteArray := prog_10_method_8_code
def y_M_isSmall : MethodName := ⟨R_M, "isSmall", "(I)Z"⟩
abbrev c_M_wordHere : ByteArray := prog_10_method_11_code
def y_M_wordHere : MethodName := ⟨R_M, "wordHere", "()I"⟩
abbrev c_M_tell : ByteArray := prog_10_method_7_code
def y_M_tell : MethodName := ⟨R_M, "tell", "(II)V"⟩
abbrev c_M_readStatement : ByteArray := prog_10_method_27_code
def y_M_readStatement : MethodName := ⟨R_M, "readStatement", "()V"⟩
abbrev c_M_readNames : ByteArray := prog_10_method_23_code
def y_M_readNames : MethodName := ⟨R_M, "readNames", "(I)V"⟩
abbrev c_M_newName : ByteArray := prog_10_method_19_code
def y_M_newName : MethodName := ⟨R_M, "newName", "(I)V"⟩
abbrev c_M_find : ByteArray := prog_10_method_18_code
def y_M_find : MethodName := ⟨R_M, "find", "()I"⟩
abbrev c_M_isAt : ByteArray := prog_10_method_17_code
def y_M_isAt : MethodName := ⟨R_M, "isAt", "(I)Z"⟩
abbrev c_M_comma : ByteArray := prog_10_method_16_code
def y_M_comma : MethodName := ⟨R_M, "comma", "()Z"⟩
abbrev c_M_isSign : ByteArray := prog_10_method_13_code
def y_M_isSign : MethodName := ⟨R_M, "isSign", "(I)Z"⟩
abbrev c_M_readRule : ByteArray := prog_10_method_25_code
def y_M_readRule : MethodName := ⟨R_M, "readRule", "()V"⟩
abbrev c_M_takeState : ByteArray := prog_10_method_21_code
def y_M_takeState : MethodName := ⟨R_M, "takeState", "()I"⟩
abbrev c_M_oldName : ByteArray := prog_10_method_20_code
def y_M_oldName : MethodName := ⟨R_M, "oldName", "(II)I"⟩
abbrev c_M_takePair : ByteArray := prog_10_method_22_code
def y_M_takePair : MethodName := ⟨R_M, "takePair", "(I)I"⟩
abbrev c_M_sign : ByteArray := prog_10_method_15_code
def y_M_sign : MethodName := ⟨R_M, "sign", "(I)V"⟩
abbrev c_M_readActions : ByteArray := prog_10_method_24_code
def y_M_readActions : MethodName := ⟨R_M, "readActions", "(I)V"⟩
abbrev c_M_isWord : ByteArray := prog_10_method_14_code
def y_M_isWord : MethodName := ⟨R_M, "isWord", "(I)Z"⟩
abbrev c_M_readNever : ByteArray := prog_10_method_26_code
def y_M_readNever : MethodName := ⟨R_M, "readNever", "()V"⟩
abbrev c_M_fault : ByteArray := prog_10_method_30_code
def y_M_fault : MethodName := ⟨R_M, "fault", "(I)I"⟩
abbrev c_M_next : ByteArray := prog_10_method_35_code
def y_M_next : MethodName := ⟨R_M, "next", "(II)I"⟩
abbrev c_M_isPair : ByteArray := prog_10_method_33_code
def y_M_isPair : MethodName := ⟨R_M, "isPair", "(II)Z"⟩
abbrev c_M_events : ByteArray := prog_10_method_31_code
def y_M_events : MethodName := ⟨R_M, "events", "()I"⟩
abbrev c_M_at : ByteArray := prog_10_method_34_code
def y_M_at : MethodName := ⟨R_M, "at", "(II)I"⟩
abbrev c_M_slotOf : ByteArray := prog_10_method_32_code
def y_M_slotOf : MethodName := ⟨R_M, "slotOf", "(I)I"⟩
abbrev c_M_action : ByteArray := prog_10_method_36_code
def y_M_action : MethodName := ⟨R_M, "action", "(III)I"⟩
abbrev c_M_missing : ByteArray := prog_10_method_38_code
def y_M_missing : MethodName := ⟨R_M, "missing", "(I)I"⟩
abbrev c_M_reached : ByteArray := prog_10_method_40_code
def y_M_reached : MethodName := ⟨R_M, "reached", "(II)I"⟩
abbrev c_M_reach : ByteArray := prog_10_method_39_code
def y_M_reach : MethodName := ⟨R_M, "reach", "()V"⟩
abbrev c_M_message : ByteArray := prog_10_method_42_code
def y_M_message : MethodName := ⟨R_M, "message", "(I)I"⟩
abbrev c_M_sends : ByteArray := prog_10_method_41_code
def y_M_sends : MethodName := ⟨R_M, "sends", "(II)Z"⟩
abbrev c_M_print : ByteArray := prog_10_method_51_code
def y_M_print : MethodName := ⟨R_M, "print", "()I"⟩
abbrev c_M_printNames : ByteArray := prog_10_method_48_code
def y_M_printNames : MethodName := ⟨R_M, "printNames", "(I)V"⟩
abbrev c_M_sayWord : ByteArray := prog_10_method_44_code
def y_M_sayWord : MethodName := ⟨R_M, "sayWord", "(I)V"⟩
abbrev c_M_say : ByteArray := prog_10_method_43_code
def y_M_say : MethodName := ⟨R_M, "say", "(I)V"⟩
abbrev c_M_sayName : ByteArray := prog_10_method_45_code
def y_M_sayName : MethodName := ⟨R_M, "sayName", "(II)I"⟩
abbrev c_M_endLine : ByteArray := prog_10_method_47_code
def y_M_endLine : MethodName := ⟨R_M, "endLine", "()V"⟩
abbrev c_M_printPair : ByteArray := prog_10_method_50_code
def y_M_printPair : MethodName := ⟨R_M, "printPair", "(II)V"⟩
abbrev c_M_sayEvent : ByteArray := prog_10_method_46_code
def y_M_sayEvent : MethodName := ⟨R_M, "sayEvent", "(I)I"⟩
abbrev c_M_printActions : ByteArray := prog_10_method_49_code
def y_M_printActions : MethodName := ⟨R_M, "printActions", "(I)V"⟩
abbrev c_M_draw : ByteArray := prog_10_method_57_code
def y_M_draw : MethodName := ⟨R_M, "draw", "()I"⟩
abbrev c_M_lengthOf : ByteArray := prog_10_method_52_code
def y_M_lengthOf : MethodName := ⟨R_M, "lengthOf", "(II)I"⟩
abbrev c_M_fill : ByteArray := prog_10_method_54_code
def y_M_fill : MethodName := ⟨R_M, "fill", "(I)V"⟩
abbrev c_M_drawCell : ByteArray := prog_10_method_56_code
def y_M_drawCell : MethodName := ⟨R_M, "drawCell", "(II)V"⟩
abbrev c_M_widthOf : ByteArray := prog_10_method_53_code
def y_M_widthOf : MethodName := ⟨R_M, "widthOf", "(I)I"⟩
abbrev c_M_endDrawn : ByteArray := prog_10_method_55_code
def y_M_endDrawn : MethodName := ⟨R_M, "endDrawn", "(I)V"⟩
abbrev c_M_out : ByteArray := prog_10_method_58_code
def y_M_out : MethodName := ⟨R_M, "out", "(I)I"⟩
abbrev c_M_again : ByteArray := prog_10_method_59_code
def y_M_again : MethodName := ⟨R_M, "again", "()I"⟩
abbrev c_M_count : ByteArray := prog_10_method_60_code
def y_M_count : MethodName := ⟨R_M, "count", "(I)I"⟩
abbrev c_M_missingOf : ByteArray := prog_10_method_37_code
def y_M_missingOf : MethodName := ⟨R_M, "missingOf", "(I)I"⟩
abbrev cls : List vw_C := [(R_B, T_B, 2), (R_D, T_D, 5), (R_L, T_L, 4), (R_N, T_N, 3), (R_P, T_P, 10), (R_I, T_I, 3), (R_T, T_T, 7), (R_X, T_X, 9), (R_M, T_M, 28)]
def WS : List Cond := lw_tbl.filter goodWord
theorem ws_t {w : Cond} (h : w ∈ tables_1) (g : goodWord w = true) : w ∈ WS := List.mem_filter.mpr ⟨List.mem_append_right _ h, g⟩
theorem ws_p {w : Cond} {q : MethodName × Nat} (h : q ∈ lw_privs) (g : (w = Cond.selects q.1.cls q.1 q.1) ∧ goodWord w = true) : w ∈ WS := List.mem_filter.mpr ⟨List.mem_append_left _ (List.mem_map.mpr ⟨q, h, g.1.symm⟩), g.2⟩
theorem ws_good {w : Cond} (h : w ∈ WS) : goodWord w = true := (List.mem_filter.mp h).2
theorem ws_in {w : Cond} (h : w ∈ WS) : w ∈ lw_tbl := (List.mem_filter.mp h).1
theorem ws_gi {c c2 : Cond} (h : c2 ∈ WS) : GoodIn (c :: WS) (c2 :: WS) := fun w hw => (List.mem_cons.mp hw).elim (fun e => by rw [e]; exact ⟨List.mem_cons_of_mem _ h, good_of_word (ws_good h)⟩) (fun h2 => ⟨List.mem_cons_of_mem _ h2, good_of_word (ws_good h2)⟩)
def FK (own : String) (idx : Nat) (C : String) (T : u_T) (N ci k : Nat) : Prop := (∀ w ∈ u_ws C T N, w ∈ WS) ∧ cls[ci]? = some (C, T, N) ∧ k < N ∧ Cond.fieldLink own idx (T k).1 (T k).2.1 (T k).2.2.1 ∈ WS
def NK (y : MethodName) (n : Nat) : Prop := y.cls ≠ "java/lang/invoke/MethodHandle" ∧ y.cls ≠ "java/lang/invoke/VarHandle" ∧ (parseMethodDescriptor y.desc).map (fun d => d.parameters.length) = some n
def VK (own : String) (idx : Nat) (C : String) (y : MethodName) (n : Nat) : Prop := Cond.methodLink own idx y ∈ WS ∧ Cond.instanceMethod y ∈ WS ∧ Cond.selects C y y ∈ WS ∧ Cond.initialized C ∈ WS ∧ y.cls = C ∧ NK y n
def SK (own : String) (idx : Nat) (y : MethodName) (n : Nat) : Prop := Cond.methodLink own idx y ∈ WS ∧ Cond.static y ∈ WS ∧ Cond.initialized y.cls ∈ WS ∧ NK y n
def IK (own : String) (idx : Nat) (y : MethodName) (n : Nat) : Prop := Cond.methodLink own idx y ∈ WS ∧ Cond.instanceMethod y ∈ WS ∧ Cond.initialized y.cls ∈ WS ∧ NK y n ∧ y.name = "<init>"
theorem wl_B_0 : u_lay R_B T_B 0 ∈ WS := ws_t (List.mem_of_getElem? (i := 46) (by decide +kernel)) (by decide +kernel)
theorem wl_B_1 : u_lay R_B T_B 1 ∈ WS := ws_t (List.mem_of_getElem? (i := 48) (by decide +kernel)) (by decide +kernel)
theorem wu_B : ∀ w ∈ u_ws R_B T_B 2, w ∈ WS := by
  intro w h
  obtain ⟨j, hj, rfl⟩ := List.mem_map.mp h
  have hj := List.mem_range.mp hj
  match j, hj with
  | 0, _ => exact wl_B_0
  | 1, _ => exact wl_B_1
  | _ + 2, hj => omega
theorem wl_D_0 : u_lay R_D T_D 0 ∈ WS := ws_t (List.mem_of_getElem? (i := 200) (by decide +kernel)) (by decide +kernel)
theorem wl_D_1 : u_lay R_D T_D 1 ∈ WS := ws_t (List.mem_of_getElem? (i := 202) (by decide +kernel)) (by decide +kernel)
theorem wl_D_2 : u_lay R_D T_D 2 ∈ WS := ws_t (List.mem_of_getElem? (i := 204) (by decide +kernel)) (by decide +kernel)
theorem wl_D_3 : u_lay R_D T_D 3 ∈ WS := ws_t (List.mem_of_getElem? (i := 206) (by decide +kernel)) (by decide +kernel)
theorem wl_D_4 : u_lay R_D T_D 4 ∈ WS := ws_t (List.mem_of_getElem? (i := 208) (by decide +kernel)) (by decide +kernel)
theorem wu_D : ∀ w ∈ u_ws R_D T_D 5, w ∈ WS := by
  intro w h
  obtain ⟨j, hj, rfl⟩ := List.mem_map.mp h
  have hj := List.mem_range.mp hj
  match j, hj with
  | 0, _ => exact wl_D_0
  | 1, _ => exact wl_D_1
  | 2, _ => exact wl_D_2
  | 3, _ => exact wl_D_3
  | 4, _ => exact wl_D_4
  | _ + 5, hj => omega
theorem wl_L_0 : u_lay R_L T_L 0 ∈ WS := ws_t (List.mem_of_getElem? (i := 129) (by decide +kernel)) (by decide +kernel)
theorem wl_L_1 : u_lay R_L T_L 1 ∈ WS := ws_t (List.mem_of_getElem? (i := 131) (by decide +kernel)) (by decide +kernel)
theorem wl_L_2 : u_lay R_L T_L 2 ∈ WS := ws_t (List.mem_of_getElem? (i := 133) (by decide +kernel)) (by decide +kernel)
theorem wl_L_3 : u_lay R_L T_L 3 ∈ WS := ws_t (List.mem_of_getElem? (i := 135) (by decide +kernel)) (by decide +kernel)
theorem wu_L : ∀ w ∈ u_ws R_L T_L 4, w ∈ WS := by
  intro w h
  obtain ⟨j, hj, rfl⟩ := List.mem_map.mp h
  have hj := List.mem_range.mp hj
  match j, hj with
  | 0, _ => exact wl_L_0
  | 1, _ => exact wl_L_1
  | 2, _ => exact wl_L_2
  | 3, _ => exact wl_L_3
  | _ + 4, hj => omega
theorem wl_N_0 : u_lay R_N T_N 0 ∈ WS := ws_t (List.mem_of_getElem? (i := 61) (by decide +kernel)) (by decide +kernel)
theorem wl_N_1 : u_lay R_N T_N 1 ∈ WS := ws_t (List.mem_of_getElem? (i := 63) (by decide +kernel)) (by decide +kernel)
theorem wl_N_2 : u_lay R_N T_N 2 ∈ WS := ws_t (List.mem_of_getElem? (i := 65) (by decide +kernel)) (by decide +kernel)
theorem wu_N : ∀ w ∈ u_ws R_N T_N 3, w ∈ WS := by
  intro w h
  obtain ⟨j, hj, rfl⟩ := List.mem_map.mp h
  have hj := List.mem_range.mp hj
  match j, hj with
  | 0, _ => exact wl_N_0
  | 1, _ => exact wl_N_1
  | 2, _ => exact wl_N_2
  | _ + 3, hj => omega
theorem wl_P_0 : u_lay R_P T_P 0 ∈ WS := ws_t (List.mem_of_getElem? (i := 152) (by decide +kernel)) (by decide +kernel)
theorem wl_P_1 : u_lay R_P T_P 1 ∈ WS := ws_t (List.mem_of_getElem? (i := 154) (by decide +kernel)) (by decide +kernel)
theorem wl_P_2 : u_lay R_P T_P 2 ∈ WS := ws_t (List.mem_of_getElem? (i := 156) (by decide +kernel)) (by decide +kernel)
theorem wl_P_3 : u_lay R_P T_P 3 ∈ WS := ws_t (List.mem_of_getElem? (i := 158) (by decide +kernel)) (by decide +kernel)
theorem wl_P_4 : u_lay R_P T_P 4 ∈ WS := ws_t (List.mem_of_getElem? (i := 160) (by decide +kernel)) (by decide +kernel)
theorem wl_P_5 : u_lay R_P T_P 5 ∈ WS := ws_t (List.mem_of_getElem? (i := 162) (by decide +kernel)) (by decide +kernel)
theorem wl_P_6 : u_lay R_P T_P 6 ∈ WS := ws_t (List.mem_of_getElem? (i := 164) (by decide +kernel)) (by decide +kernel)
theorem wl_P_7 : u_lay R_P T_P 7 ∈ WS := ws_t (List.mem_of_getElem? (i := 166) (by decide +kernel)) (by decide +kernel)
theorem wl_P_8 : u_lay R_P T_P 8 ∈ WS := ws_t (List.mem_of_getElem? (i := 168) (by decide +kernel)) (by decide +kernel)
theorem wl_P_9 : u_lay R_P T_P 9 ∈ WS := ws_t (List.mem_of_getElem? (i := 170) (by decide +kernel)) (by decide +kernel)
theorem wu_P : ∀ w ∈ u_ws R_P T_P 10, w ∈ WS := by
  intro w h
  obtain ⟨j, hj, rfl⟩ := List.mem_map.mp h
  have hj := List.mem_range.mp hj
  match j, hj with
  | 0, _ => exact wl_P_0
  | 1, _ => exact wl_P_1
  | 2, _ => exact wl_P_2
  | 3, _ => exact wl_P_3
  | 4, _ => exact wl_P_4
  | 5, _ => exact wl_P_5
  | 6, _ => exact wl_P_6
  | 7, _ => exact wl_P_7
  | 8, _ => exact wl_P_8
  | 9, _ => exact wl_P_9
  | _ + 10, hj => omega
theorem wl_I_0 : u_lay R_I T_I 0 ∈ WS := ws_t (List.mem_of_getElem? (i := 182) (by decide +kernel)) (by decide +kernel)
theorem wl_I_1 : u_lay R_I T_I 1 ∈ WS := ws_t (List.mem_of_getElem? (i := 184) (by decide +kernel)) (by decide +kernel)
theorem wl_I_2 : u_lay R_I T_I 2 ∈ WS := ws_t (List.mem_of_getElem? (i := 186) (by decide +kernel)) (by decide +kernel)
theorem wu_I : ∀ w ∈ u_ws R_I T_I 3, w ∈ WS := by
  intro w h
  obtain ⟨j, hj, rfl⟩ := List.mem_map.mp h
  have hj := List.mem_range.mp hj
  match j, hj with
  | 0, _ => exact wl_I_0
  | 1, _ => exact wl_I_1
  | 2, _ => exact wl_I_2
  | _ + 3, hj => omega
theorem wl_T_0 : u_lay R_T T_T 0 ∈ WS := ws_t (List.mem_of_getElem? (i := 97) (by decide +kernel)) (by decide +kernel)
theorem wl_T_1 : u_lay R_T T_T 1 ∈ WS := ws_t (List.mem_of_getElem? (i := 99) (by decide +kernel)) (by decide +kernel)
theorem wl_T_2 : u_lay R_T T_T 2 ∈ WS := ws_t (List.mem_of_getElem? (i := 101) (by decide +kernel)) (by decide +kernel)
theorem wl_T_3 : u_lay R_T T_T 3 ∈ WS := ws_t (List.mem_of_getElem? (i := 103) (by decide +kernel)) (by decide +kernel)
theorem wl_T_4 : u_lay R_T T_T 4 ∈ WS := ws_t (List.mem_of_getElem? (i := 105) (by decide +kernel)) (by decide +kernel)
theorem wl_T_5 : u_lay R_T T_T 5 ∈ WS := ws_t (List.mem_of_getElem? (i := 107) (by decide +kernel)) (by decide +kernel)
theorem wl_T_6 : u_lay R_T T_T 6 ∈ WS := ws_t (List.mem_of_getElem? (i := 109) (by decide +kernel)) (by decide +kernel)
theorem wu_T : ∀ w ∈ u_ws R_T T_T 7, w ∈ WS := by
  intro w h
  obtain ⟨j, hj, rfl⟩ := List.mem_map.mp h
  have hj := List.mem_range.mp hj
  match j, hj with
  | 0, _ => exact wl_T_0
  | 1, _ => exact wl_T_1
  | 2, _ => exact wl_T_2
  | 3, _ => exact wl_T_3
  | 4, _ => exact wl_T_4
  | 5, _ => exact wl_T_5
  | 6, _ => exact wl_T_6
  | _ + 7, hj => omega
theorem wl_X_0 : u_lay R_X T_X 0 ∈ WS := ws_t (List.mem_of_getElem? (i := 220) (by decide +kernel)) (by decide +kernel)
theorem wl_X_1 : u_lay R_X T_X 1 ∈ WS := ws_t (List.mem_of_getElem? (i := 222) (by decide +kernel)) (by decide +kernel)
theorem wl_X_2 : u_lay R_X T_X 2 ∈ WS := ws_t (List.mem_of_getElem? (i := 224) (by decide +kernel)) (by decide +kernel)
theorem wl_X_3 : u_lay R_X T_X 3 ∈ WS := ws_t (List.mem_of_getElem? (i := 226) (by decide +kernel)) (by decide +kernel)
theorem wl_X_4 : u_lay R_X T_X 4 ∈ WS := ws_t (List.mem_of_getElem? (i := 228) (by decide +kernel)) (by decide +kernel)
theorem wl_X_5 : u_lay R_X T_X 5 ∈ WS := ws_t (List.mem_of_getElem? (i := 230) (by decide +kernel)) (by decide +kernel)
theorem wl_X_6 : u_lay R_X T_X 6 ∈ WS := ws_t (List.mem_of_getElem? (i := 232) (by decide +kernel)) (by decide +kernel)
theorem wl_X_7 : u_lay R_X T_X 7 ∈ WS := ws_t (List.mem_of_getElem? (i := 234) (by decide +kernel)) (by decide +kernel)
theorem wl_X_8 : u_lay R_X T_X 8 ∈ WS := ws_t (List.mem_of_getElem? (i := 236) (by decide +kernel)) (by decide +kernel)
theorem wu_X : ∀ w ∈ u_ws R_X T_X 9, w ∈ WS := by
  intro w h
  obtain ⟨j, hj, rfl⟩ := List.mem_map.mp h
  have hj := List.mem_range.mp hj
  match j, hj with
  | 0, _ => exact wl_X_0
  | 1, _ => exact wl_X_1
  | 2, _ => exact wl_X_2
  | 3, _ => exact wl_X_3
  | 4, _ => exact wl_X_4
  | 5, _ => exact wl_X_5
  | 6, _ => exact wl_X_6
  | 7, _ => exact wl_X_7
  | 8, _ => exact wl_X_8
  | _ + 9, hj => omega
theorem wl_M_0 : u_lay R_M T_M 0 ∈ WS := ws_t (List.mem_of_getElem? (i := 875) (by decide +kernel)) (by decide +kernel)
theorem wl_M_1 : u_lay R_M T_M 1 ∈ WS := ws_t (List.mem_of_getElem? (i := 877) (by decide +kernel)) (by decide +kernel)
theorem wl_M_2 : u_lay R_M T_M 2 ∈ WS := ws_t (List.mem_of_getElem? (i := 879) (by decide +kernel)) (by decide +kernel)
theorem wl_M_3 : u_lay R_M T_M 3 ∈ WS := ws_t (List.mem_of_getElem? (i := 881) (by decide +kernel)) (by decide +kernel)
theorem wl_M_4 : u_lay R_M T_M 4 ∈ WS := ws_t (List.mem_of_getElem? (i := 883) (by decide +kernel)) (by decide +kernel)
theorem wl_M_5 : u_lay R_M T_M 5 ∈ WS := ws_t (List.mem_of_getElem? (i := 885) (by decide +kernel)) (by decide +kernel)
theorem wl_M_6 : u_lay R_M T_M 6 ∈ WS := ws_t (List.mem_of_getElem? (i := 887) (by decide +kernel)) (by decide +kernel)
theorem wl_M_7 : u_lay R_M T_M 7 ∈ WS := ws_t (List.mem_of_getElem? (i := 889) (by decide +kernel)) (by decide +kernel)
theorem wl_M_8 : u_lay R_M T_M 8 ∈ WS := ws_t (List.mem_of_getElem? (i := 891) (by decide +kernel)) (by decide +kernel)
theorem wl_M_9 : u_lay R_M T_M 9 ∈ WS := ws_t (List.mem_of_getElem? (i := 893) (by decide +kernel)) (by decide +kernel)
theorem wl_M_10 : u_lay R_M T_M 10 ∈ WS := ws_t (List.mem_of_getElem? (i := 895) (by decide +kernel)) (by decide +kernel)
theorem wl_M_11 : u_lay R_M T_M 11 ∈ WS := ws_t (List.mem_of_getElem? (i := 897) (by decide +kernel)) (by decide +kernel)
theorem wl_M_12 : u_lay R_M T_M 12 ∈ WS := ws_t (List.mem_of_getElem? (i := 899) (by decide +kernel)) (by decide +kernel)
theorem wl_M_13 : u_lay R_M T_M 13 ∈ WS := ws_t (List.mem_of_getElem? (i := 901) (by decide +kernel)) (by decide +kernel)
theorem wl_M_14 : u_lay R_M T_M 14 ∈ WS := ws_t (List.mem_of_getElem? (i := 903) (by decide +kernel)) (by decide +kernel)
theorem wl_M_15 : u_lay R_M T_M 15 ∈ WS := ws_t (List.mem_of_getElem? (i := 905) (by decide +kernel)) (by decide +kernel)
theorem wl_M_16 : u_lay R_M T_M 16 ∈ WS := ws_t (List.mem_of_getElem? (i := 907) (by decide +kernel)) (by decide +kernel)
theorem wl_M_17 : u_lay R_M T_M 17 ∈ WS := ws_t (List.mem_of_getElem? (i := 909) (by decide +kernel)) (by decide +kernel)
theorem wl_M_18 : u_lay R_M T_M 18 ∈ WS := ws_t (List.mem_of_getElem? (i := 911) (by decide +kernel)) (by decide +kernel)
theorem wl_M_19 : u_lay R_M T_M 19 ∈ WS := ws_t (List.mem_of_getElem? (i := 913) (by decide +kernel)) (by decide +kernel)
theorem wl_M_20 : u_lay R_M T_M 20 ∈ WS := ws_t (List.mem_of_getElem? (i := 915) (by decide +kernel)) (by decide +kernel)
theorem wl_M_21 : u_lay R_M T_M 21 ∈ WS := ws_t (List.mem_of_getElem? (i := 917) (by decide +kernel)) (by decide +kernel)
theorem wl_M_22 : u_lay R_M T_M 22 ∈ WS := ws_t (List.mem_of_getElem? (i := 919) (by decide +kernel)) (by decide +kernel)
theorem wl_M_23 : u_lay R_M T_M 23 ∈ WS := ws_t (List.mem_of_getElem? (i := 921) (by decide +kernel)) (by decide +kernel)
theorem wl_M_24 : u_lay R_M T_M 24 ∈ WS := ws_t (List.mem_of_getElem? (i := 923) (by decide +kernel)) (by decide +kernel)
theorem wl_M_25 : u_lay R_M T_M 25 ∈ WS := ws_t (List.mem_of_getElem? (i := 925) (by decide +kernel)) (by decide +kernel)
theorem wl_M_26 : u_lay R_M T_M 26 ∈ WS := ws_t (List.mem_of_getElem? (i := 927) (by decide +kernel)) (by decide +kernel)
theorem wl_M_27 : u_lay R_M T_M 27 ∈ WS := ws_t (List.mem_of_getElem? (i := 929) (by decide +kernel)) (by decide +kernel)
theorem wu_M : ∀ w ∈ u_ws R_M T_M 28, w ∈ WS := by
  intro w h
  obtain ⟨j, hj, rfl⟩ := List.mem_map.mp h
  have hj := List.mem_range.mp hj
  match j, hj with
  | 0, _ => exact wl_M_0
  | 1, _ => exact wl_M_1
  | 2, _ => exact wl_M_2
  | 3, _ => exact wl_M_3
  | 4, _ => exact wl_M_4
  | 5, _ => exact wl_M_5
  | 6, _ => exact wl_M_6
  | 7, _ => exact wl_M_7
  | 8, _ => exact wl_M_8
  | 9, _ => exact wl_M_9
  | 10, _ => exact wl_M_10
  | 11, _ => exact wl_M_11
  | 12, _ => exact wl_M_12
  | 13, _ => exact wl_M_13
  | 14, _ => exact wl_M_14
  | 15, _ => exact wl_M_15
  | 16, _ => exact wl_M_16
  | 17, _ => exact wl_M_17
  | 18, _ => exact wl_M_18
  | 19, _ => exact wl_M_19
  | 20, _ => exact wl_M_20
  | 21, _ => exact wl_M_21
  | 22, _ => exact wl_M_22
  | 23, _ => exact wl_M_23
  | 24, _ => exact wl_M_24
  | 25, _ => exact wl_M_25
  | 26, _ => exact wl_M_26
  | 27, _ => exact wl_M_27
  | _ + 28, hj => omega
theorem wi_W : Cond.initialized R_W ∈ WS := ws_t (List.mem_of_getElem? (i := 0) (by decide +kernel)) (by decide +kernel)
theorem wi_X : Cond.initialized R_X ∈ WS := ws_t (List.mem_of_getElem? (i := 1) (by decide +kernel)) (by decide +kernel)
theorem wi_B : Cond.initialized R_B ∈ WS := ws_t (List.mem_of_getElem? (i := 2) (by decide +kernel)) (by decide +kernel)
theorem wi_N : Cond.initialized R_N ∈ WS := ws_t (List.mem_of_getElem? (i := 3) (by decide +kernel)) (by decide +kernel)
theorem wi_T : Cond.initialized R_T ∈ WS := ws_t (List.mem_of_getElem? (i := 4) (by decide +kernel)) (by decide +kernel)
theorem wi_jA : Cond.initialized R_jA ∈ WS := ws_t (List.mem_of_getElem? (i := 5) (by decide +kernel)) (by decide +kernel)
theorem wi_P : Cond.initialized R_P ∈ WS := ws_t (List.mem_of_getElem? (i := 6) (by decide +kernel)) (by decide +kernel)
theorem wi_L : Cond.initialized R_L ∈ WS := ws_t (List.mem_of_getElem? (i := 7) (by decide +kernel)) (by decide +kernel)
theorem wi_I : Cond.initialized R_I ∈ WS := ws_t (List.mem_of_getElem? (i := 8) (by decide +kernel)) (by decide +kernel)
theorem wi_D : Cond.initialized R_D ∈ WS := ws_t (List.mem_of_getElem? (i := 9) (by decide +kernel)) (by decide +kernel)
theorem wi_M : Cond.initialized R_M ∈ WS := ws_t (List.mem_of_getElem? (i := 10) (by decide +kernel)) (by decide +kernel)
theorem wi_jT : Cond.initialized R_jT ∈ WS := ws_t (List.mem_of_getElem? (i := 11) (by decide +kernel)) (by decide +kernel)
theorem wi_jE : Cond.initialized R_jE ∈ WS := ws_t (List.mem_of_getElem? (i := 12) (by decide +kernel)) (by decide +kernel)
theorem wi_jR : Cond.initialized R_jR ∈ WS := ws_t (List.mem_of_getElem? (i := 13) (by decide +kernel)) (by decide +kernel)
theorem wi_jX : Cond.initialized R_jX ∈ WS := ws_t (List.mem_of_getElem? (i := 14) (by decide +kernel)) (by decide +kernel)
theorem wi_jG : Cond.initialized R_jG ∈ WS := ws_t (List.mem_of_getElem? (i := 15) (by decide +kernel)) (by decide +kernel)
theorem wi_jS : Cond.initialized R_jS ∈ WS := ws_t (List.mem_of_getElem? (i := 16) (by decide +kernel)) (by decide +kernel)
theorem wi_jL : Cond.initialized R_jL ∈ WS := ws_t (List.mem_of_getElem? (i := 17) (by decide +kernel)) (by decide +kernel)
theorem wi_jP : Cond.initialized R_jP ∈ WS := ws_t (List.mem_of_getElem? (i := 18) (by decide +kernel)) (by decide +kernel)
theorem wi_jU : Cond.initialized R_jU ∈ WS := ws_t (List.mem_of_getElem? (i := 19) (by decide +kernel)) (by decide +kernel)
theorem wi_jI : Cond.initialized R_jI ∈ WS := ws_t (List.mem_of_getElem? (i := 20) (by decide +kernel)) (by decide +kernel)
theorem wi_jM : Cond.initialized R_jM ∈ WS := ws_t (List.mem_of_getElem? (i := 21) (by decide +kernel)) (by decide +kernel)
theorem wi_jY : Cond.initialized R_jY ∈ WS := ws_t (List.mem_of_getElem? (i := 22) (by decide +kernel)) (by decide +kernel)
theorem wn_X : Cond.instantiable R_X 9 ∈ WS := ws_t (List.mem_of_getElem? (i := 24) (by decide +kernel)) (by decide +kernel)
theorem wn_B : Cond.instantiable R_B 2 ∈ WS := ws_t (List.mem_of_getElem? (i := 32) (by decide +kernel)) (by decide +kernel)
theorem wn_N : Cond.instantiable R_N 3 ∈ WS := ws_t (List.mem_of_getElem? (i := 53) (by decide +kernel)) (by decide +kernel)
theorem wn_T : Cond.instantiable R_T 7 ∈ WS := ws_t (List.mem_of_getElem? (i := 70) (by decide +kernel)) (by decide +kernel)
theorem wn_P : Cond.instantiable R_P 10 ∈ WS := ws_t (List.mem_of_getElem? (i := 113) (by decide +kernel)) (by decide +kernel)
theorem wn_L : Cond.instantiable R_L 4 ∈ WS := ws_t (List.mem_of_getElem? (i := 115) (by decide +kernel)) (by decide +kernel)
theorem wn_I : Cond.instantiable R_I 3 ∈ WS := ws_t (List.mem_of_getElem? (i := 174) (by decide +kernel)) (by decide +kernel)
theorem wn_D : Cond.instantiable R_D 5 ∈ WS := ws_t (List.mem_of_getElem? (i := 190) (by decide +kernel)) (by decide +kernel)
theorem wn_M : Cond.instantiable R_M 28 ∈ WS := ws_t (List.mem_of_getElem? (i := 838) (by decide +kernel)) (by decide +kernel)
theorem wc_W_8 : Cond.classLink R_W 8 R_X ∈ WS := ws_t (List.mem_of_getElem? (i := 23) (by decide +kernel)) (by decide +kernel)
theorem wc_X_7 : Cond.classLink R_X 7 R_B ∈ WS := ws_t (List.mem_of_getElem? (i := 31) (by decide +kernel)) (by decide +kernel)
theorem wa_byte : Cond.arrayClass .byte ∈ WS := ws_t (List.mem_of_getElem? (i := 51) (by decide +kernel)) (by decide +kernel)
theorem wc_X_21 : Cond.classLink R_X 21 R_N ∈ WS := ws_t (List.mem_of_getElem? (i := 52) (by decide +kernel)) (by decide +kernel)
theorem wa_int : Cond.arrayClass .int ∈ WS := ws_t (List.mem_of_getElem? (i := 68) (by decide +kernel)) (by decide +kernel)
theorem wc_X_28 : Cond.classLink R_X 28 R_T ∈ WS := ws_t (List.mem_of_getElem? (i := 69) (by decide +kernel)) (by decide +kernel)
theorem wc_X_37 : Cond.classLink R_X 37 R_P ∈ WS := ws_t (List.mem_of_getElem? (i := 112) (by decide +kernel)) (by decide +kernel)
theorem wc_X_39 : Cond.classLink R_X 39 R_L ∈ WS := ws_t (List.mem_of_getElem? (i := 114) (by decide +kernel)) (by decide +kernel)
theorem wc_X_51 : Cond.classLink R_X 51 R_I ∈ WS := ws_t (List.mem_of_getElem? (i := 173) (by decide +kernel)) (by decide +kernel)
theorem wc_X_60 : Cond.classLink R_X 60 R_D ∈ WS := ws_t (List.mem_of_getElem? (i := 189) (by decide +kernel)) (by decide +kernel)
theorem wc_W_54 : Cond.classLink R_W 54 R_M ∈ WS := ws_t (List.mem_of_getElem? (i := 837) (by decide +kernel)) (by decide +kernel)
theorem wa_long : Cond.arrayClass .long ∈ WS := ws_t (List.mem_of_getElem? (i := 1161) (by decide +kernel)) (by decide +kernel)
theorem kc_X_init : Cond.code y_X_init c_X_init 1 none ∈ WS := ws_t (List.mem_of_getElem? (i := 27) (by decide +kernel)) (by decide +kernel)
theorem kc_jO_init : Cond.code y_jO_init c_jO_init 1 none ∈ WS := ws_t (List.mem_of_getElem? (i := 30) (by decide +kernel)) (by decide +kernel)
theorem kc_B_init : Cond.code y_B_init c_B_init 2 none ∈ WS := ws_t (List.mem_of_getElem? (i := 35) (by decide +kernel)) (by decide +kernel)
theorem kc_N_init : Cond.code y_N_init c_N_init 1 none ∈ WS := ws_t (List.mem_of_getElem? (i := 56) (by decide +kernel)) (by decide +kernel)
theorem kc_T_init : Cond.code y_T_init c_T_init 2 none ∈ WS := ws_t (List.mem_of_getElem? (i := 73) (by decide +kernel)) (by decide +kernel)
theorem kc_T_forget : Cond.code y_T_forget c_T_forget 1 none ∈ WS := ws_t (List.mem_of_getElem? (i := 78) (by decide +kernel)) (by decide +kernel)
theorem kc_jA_fill : Cond.code y_jA_fill c_jA_fill 4 none ∈ WS := ws_t (List.mem_of_getElem? (i := 81) (by decide +kernel)) (by decide +kernel)
theorem kc_L_init : Cond.code y_L_init c_L_init 2 none ∈ WS := ws_t (List.mem_of_getElem? (i := 118) (by decide +kernel)) (by decide +kernel)
theorem kc_P_init : Cond.code y_P_init c_P_init 4 none ∈ WS := ws_t (List.mem_of_getElem? (i := 140) (by decide +kernel)) (by decide +kernel)
theorem kc_I_init : Cond.code y_I_init c_I_init 4 none ∈ WS := ws_t (List.mem_of_getElem? (i := 177) (by decide +kernel)) (by decide +kernel)
theorem kc_D_init : Cond.code y_D_init c_D_init 4 none ∈ WS := ws_t (List.mem_of_getElem? (i := 193) (by decide +kernel)) (by decide +kernel)
theorem kc_X_print : Cond.code y_X_print c_X_print 1 (some .int) ∈ WS := ws_t (List.mem_of_getElem? (i := 242) (by decide +kernel)) (by decide +kernel)
theorem kc_I_printAll : Cond.code y_I_printAll c_I_printAll 3 none ∈ WS := ws_t (List.mem_of_getElem? (i := 246) (by decide +kernel)) (by decide +kernel)
theorem kc_N_states : Cond.code y_N_states c_N_states 1 (some .int) ∈ WS := ws_t (List.mem_of_getElem? (i := 251) (by decide +kernel)) (by decide +kernel)
theorem kc_I_printNames : Cond.code y_I_printNames c_I_printNames 5 none ∈ WS := ws_t (List.mem_of_getElem? (i := 255) (by decide +kernel)) (by decide +kernel)
theorem kc_B_addText : Cond.code y_B_addText c_B_addText 3 none ∈ WS := ws_t (List.mem_of_getElem? (i := 259) (by decide +kernel)) (by decide +kernel)
theorem kc_jS_length : Cond.code y_jS_length c_jS_length 1 (some .int) ∈ WS := ws_t (List.mem_of_getElem? (i := 263) (by decide +kernel)) (by decide +kernel)
theorem kc_jS_coder : Cond.code y_jS_coder c_jS_coder 1 (some .byte) ∈ WS := ws_t (List.mem_of_getElem? (i := 267) (by decide +kernel)) (by decide +kernel)
theorem kc_jS_charAt : Cond.code y_jS_charAt c_jS_charAt 2 (some .char) ∈ WS := ws_t (List.mem_of_getElem? (i := 273) (by decide +kernel)) (by decide +kernel)
theorem kc_jS_isLatin1 : Cond.code y_jS_isLatin1 c_jS_isLatin1 1 (some .boolean) ∈ WS := ws_t (List.mem_of_getElem? (i := 277) (by decide +kernel)) (by decide +kernel)
theorem kc_jL_charAt : Cond.code y_jL_charAt c_jL_charAt 2 (some .char) ∈ WS := ws_t (List.mem_of_getElem? (i := 280) (by decide +kernel)) (by decide +kernel)
theorem kc_jS_checkIndex : Cond.code y_jS_checkIndex c_jS_checkIndex 2 none ∈ WS := ws_t (List.mem_of_getElem? (i := 283) (by decide +kernel)) (by decide +kernel)
theorem kc_jP_checkIndex : Cond.code y_jP_checkIndex c_jP_checkIndex 3 (some .int) ∈ WS := ws_t (List.mem_of_getElem? (i := 288) (by decide +kernel)) (by decide +kernel)
theorem kc_jU_charAt : Cond.code y_jU_charAt c_jU_charAt 2 (some .char) ∈ WS := ws_t (List.mem_of_getElem? (i := 291) (by decide +kernel)) (by decide +kernel)
theorem kc_jU_checkIndex : Cond.code y_jU_checkIndex c_jU_checkIndex 2 none ∈ WS := ws_t (List.mem_of_getElem? (i := 294) (by decide +kernel)) (by decide +kernel)
theorem kc_jU_length : Cond.code y_jU_length c_jU_length 1 (some .int) ∈ WS := ws_t (List.mem_of_getElem? (i := 297) (by decide +kernel)) (by decide +kernel)
theorem kc_jU_getChar : Cond.code y_jU_getChar c_jU_getChar 2 (some .char) ∈ WS := ws_t (List.mem_of_getElem? (i := 301) (by decide +kernel)) (by decide +kernel)
theorem kc_B_add : Cond.code y_B_add c_B_add 2 none ∈ WS := ws_t (List.mem_of_getElem? (i := 311) (by decide +kernel)) (by decide +kernel)
theorem kc_N_write : Cond.code y_N_write c_N_write 4 none ∈ WS := ws_t (List.mem_of_getElem? (i := 316) (by decide +kernel)) (by decide +kernel)
theorem kc_I_endLine : Cond.code y_I_endLine c_I_endLine 1 none ∈ WS := ws_t (List.mem_of_getElem? (i := 321) (by decide +kernel)) (by decide +kernel)
theorem kc_N_asks : Cond.code y_N_asks c_N_asks 1 (some .int) ∈ WS := ws_t (List.mem_of_getElem? (i := 327) (by decide +kernel)) (by decide +kernel)
theorem kc_N_messages : Cond.code y_N_messages c_N_messages 1 (some .int) ∈ WS := ws_t (List.mem_of_getElem? (i := 332) (by decide +kernel)) (by decide +kernel)
theorem kc_N_events : Cond.code y_N_events c_N_events 1 (some .int) ∈ WS := ws_t (List.mem_of_getElem? (i := 337) (by decide +kernel)) (by decide +kernel)
theorem kc_I_printPair : Cond.code y_I_printPair c_I_printPair 5 none ∈ WS := ws_t (List.mem_of_getElem? (i := 341) (by decide +kernel)) (by decide +kernel)
theorem kc_T_pairOf : Cond.code y_T_pairOf c_T_pairOf 3 (some .int) ∈ WS := ws_t (List.mem_of_getElem? (i := 345) (by decide +kernel)) (by decide +kernel)
theorem kc_N_slotOfEvent : Cond.code y_N_slotOfEvent c_N_slotOfEvent 2 (some .int) ∈ WS := ws_t (List.mem_of_getElem? (i := 351) (by decide +kernel)) (by decide +kernel)
theorem kc_T_pairOfSlots : Cond.code y_T_pairOfSlots c_T_pairOfSlots 2 (some .int) ∈ WS := ws_t (List.mem_of_getElem? (i := 354) (by decide +kernel)) (by decide +kernel)
theorem kc_T_goalOf : Cond.code y_T_goalOf c_T_goalOf 4 (some .int) ∈ WS := ws_t (List.mem_of_getElem? (i := 358) (by decide +kernel)) (by decide +kernel)
theorem kc_I_printActions : Cond.code y_I_printActions c_I_printActions 3 none ∈ WS := ws_t (List.mem_of_getElem? (i := 366) (by decide +kernel)) (by decide +kernel)
theorem kc_T_actionOf : Cond.code y_T_actionOf c_T_actionOf 3 (some .int) ∈ WS := ws_t (List.mem_of_getElem? (i := 370) (by decide +kernel)) (by decide +kernel)
theorem kc_I_printAction : Cond.code y_I_printAction c_I_printAction 2 none ∈ WS := ws_t (List.mem_of_getElem? (i := 375) (by decide +kernel)) (by decide +kernel)
theorem kc_X_draw : Cond.code y_X_draw c_X_draw 1 (some .int) ∈ WS := ws_t (List.mem_of_getElem? (i := 383) (by decide +kernel)) (by decide +kernel)
theorem kc_D_drawAll : Cond.code y_D_drawAll c_D_drawAll 2 none ∈ WS := ws_t (List.mem_of_getElem? (i := 387) (by decide +kernel)) (by decide +kernel)
theorem kc_D_measure : Cond.code y_D_measure c_D_measure 2 none ∈ WS := ws_t (List.mem_of_getElem? (i := 391) (by decide +kernel)) (by decide +kernel)
theorem kc_N_lengthOf : Cond.code y_N_lengthOf c_N_lengthOf 2 (some .int) ∈ WS := ws_t (List.mem_of_getElem? (i := 396) (by decide +kernel)) (by decide +kernel)
theorem kc_jM_max : Cond.code y_jM_max c_jM_max 2 (some .int) ∈ WS := ws_t (List.mem_of_getElem? (i := 399) (by decide +kernel)) (by decide +kernel)
theorem kc_D_widthOf : Cond.code y_D_widthOf c_D_widthOf 5 (some .int) ∈ WS := ws_t (List.mem_of_getElem? (i := 404) (by decide +kernel)) (by decide +kernel)
theorem kc_D_drawHead : Cond.code y_D_drawHead c_D_drawHead 2 none ∈ WS := ws_t (List.mem_of_getElem? (i := 410) (by decide +kernel)) (by decide +kernel)
theorem kc_B_addBlanks : Cond.code y_B_addBlanks c_B_addBlanks 3 none ∈ WS := ws_t (List.mem_of_getElem? (i := 414) (by decide +kernel)) (by decide +kernel)
theorem kc_D_drawName : Cond.code y_D_drawName c_D_drawName 3 none ∈ WS := ws_t (List.mem_of_getElem? (i := 419) (by decide +kernel)) (by decide +kernel)
theorem kc_D_endLine : Cond.code y_D_endLine c_D_endLine 1 none ∈ WS := ws_t (List.mem_of_getElem? (i := 424) (by decide +kernel)) (by decide +kernel)
theorem kc_B_dropBlanks : Cond.code y_B_dropBlanks c_B_dropBlanks 1 none ∈ WS := ws_t (List.mem_of_getElem? (i := 428) (by decide +kernel)) (by decide +kernel)
theorem kc_D_drawState : Cond.code y_D_drawState c_D_drawState 3 none ∈ WS := ws_t (List.mem_of_getElem? (i := 432) (by decide +kernel)) (by decide +kernel)
theorem kc_D_drawGoal : Cond.code y_D_drawGoal c_D_drawGoal 3 none ∈ WS := ws_t (List.mem_of_getElem? (i := 436) (by decide +kernel)) (by decide +kernel)
theorem kc_X_count : Cond.code y_X_count c_X_count 2 (some .int) ∈ WS := ws_t (List.mem_of_getElem? (i := 440) (by decide +kernel)) (by decide +kernel)
theorem kc_T_missingPairs : Cond.code y_T_missingPairs c_T_missingPairs 4 (some .int) ∈ WS := ws_t (List.mem_of_getElem? (i := 447) (by decide +kernel)) (by decide +kernel)
theorem kc_T_isReached : Cond.code y_T_isReached c_T_isReached 2 (some .boolean) ∈ WS := ws_t (List.mem_of_getElem? (i := 451) (by decide +kernel)) (by decide +kernel)
theorem kc_T_missingPairsOf : Cond.code y_T_missingPairsOf c_T_missingPairsOf 4 (some .int) ∈ WS := ws_t (List.mem_of_getElem? (i := 455) (by decide +kernel)) (by decide +kernel)
theorem kc_X_feed : Cond.code y_X_feed c_X_feed 5 (some .int) ∈ WS := ws_t (List.mem_of_getElem? (i := 464) (by decide +kernel)) (by decide +kernel)
theorem kc_jT_init : Cond.code y_jT_init c_jT_init 1 none ∈ WS := ws_t (List.mem_of_getElem? (i := 489) (by decide +kernel)) (by decide +kernel)
theorem kc_jX_init : Cond.code y_jX_init c_jX_init 2 none ∈ WS := ws_t (List.mem_of_getElem? (i := 509) (by decide +kernel)) (by decide +kernel)
theorem kc_jR_init : Cond.code y_jR_init c_jR_init 2 none ∈ WS := ws_t (List.mem_of_getElem? (i := 512) (by decide +kernel)) (by decide +kernel)
theorem kc_jE_init : Cond.code y_jE_init c_jE_init 2 none ∈ WS := ws_t (List.mem_of_getElem? (i := 515) (by decide +kernel)) (by decide +kernel)
theorem kc_jT_init2 : Cond.code y_jT_init2 c_jT_init2 2 none ∈ WS := ws_t (List.mem_of_getElem? (i := 518) (by decide +kernel)) (by decide +kernel)
theorem kc_B_addInt : Cond.code y_B_addInt c_B_addInt 3 none ∈ WS := ws_t (List.mem_of_getElem? (i := 535) (by decide +kernel)) (by decide +kernel)
theorem kc_X_end : Cond.code y_X_end c_X_end 2 (some .int) ∈ WS := ws_t (List.mem_of_getElem? (i := 543) (by decide +kernel)) (by decide +kernel)
theorem kc_jG_init : Cond.code y_jG_init c_jG_init 2 none ∈ WS := ws_t (List.mem_of_getElem? (i := 556) (by decide +kernel)) (by decide +kernel)
theorem kc_X_read : Cond.code y_X_read c_X_read 1 (some .int) ∈ WS := ws_t (List.mem_of_getElem? (i := 567) (by decide +kernel)) (by decide +kernel)
theorem kc_N_forget : Cond.code y_N_forget c_N_forget 1 none ∈ WS := ws_t (List.mem_of_getElem? (i := 571) (by decide +kernel)) (by decide +kernel)
theorem kc_P_firstFault : Cond.code y_P_firstFault c_P_firstFault 3 (some .int) ∈ WS := ws_t (List.mem_of_getElem? (i := 577) (by decide +kernel)) (by decide +kernel)
theorem kc_L_restart : Cond.code y_L_restart c_L_restart 1 none ∈ WS := ws_t (List.mem_of_getElem? (i := 581) (by decide +kernel)) (by decide +kernel)
theorem kc_L_advance : Cond.code y_L_advance c_L_advance 1 none ∈ WS := ws_t (List.mem_of_getElem? (i := 585) (by decide +kernel)) (by decide +kernel)
theorem kc_L_skipWhite : Cond.code y_L_skipWhite c_L_skipWhite 3 none ∈ WS := ws_t (List.mem_of_getElem? (i := 589) (by decide +kernel)) (by decide +kernel)
theorem kc_L_isLetter : Cond.code y_L_isLetter c_L_isLetter 1 (some .boolean) ∈ WS := ws_t (List.mem_of_getElem? (i := 592) (by decide +kernel)) (by decide +kernel)
theorem kc_L_skipName : Cond.code y_L_skipName c_L_skipName 1 none ∈ WS := ws_t (List.mem_of_getElem? (i := 596) (by decide +kernel)) (by decide +kernel)
theorem kc_L_isDigit : Cond.code y_L_isDigit c_L_isDigit 1 (some .boolean) ∈ WS := ws_t (List.mem_of_getElem? (i := 599) (by decide +kernel)) (by decide +kernel)
theorem kc_L_nameKind : Cond.code y_L_nameKind c_L_nameKind 1 (some .int) ∈ WS := ws_t (List.mem_of_getElem? (i := 603) (by decide +kernel)) (by decide +kernel)
theorem kc_L_spells : Cond.code y_L_spells c_L_spells 3 (some .boolean) ∈ WS := ws_t (List.mem_of_getElem? (i := 608) (by decide +kernel)) (by decide +kernel)
theorem kc_L_signKind : Cond.code y_L_signKind c_L_signKind 1 (some .int) ∈ WS := ws_t (List.mem_of_getElem? (i := 621) (by decide +kernel)) (by decide +kernel)
theorem kc_P_step : Cond.code y_P_step c_P_step 1 (some .int) ∈ WS := ws_t (List.mem_of_getElem? (i := 625) (by decide +kernel)) (by decide +kernel)
theorem kc_P_beginStatement : Cond.code y_P_beginStatement c_P_beginStatement 1 (some .int) ∈ WS := ws_t (List.mem_of_getElem? (i := 629) (by decide +kernel)) (by decide +kernel)
theorem kc_P_beginNames : Cond.code y_P_beginNames c_P_beginNames 2 (some .int) ∈ WS := ws_t (List.mem_of_getElem? (i := 633) (by decide +kernel)) (by decide +kernel)
theorem kc_P_goOn : Cond.code y_P_goOn c_P_goOn 2 (some .int) ∈ WS := ws_t (List.mem_of_getElem? (i := 637) (by decide +kernel)) (by decide +kernel)
theorem kc_P_beginPair : Cond.code y_P_beginPair c_P_beginPair 2 (some .int) ∈ WS := ws_t (List.mem_of_getElem? (i := 641) (by decide +kernel)) (by decide +kernel)
theorem kc_P_want : Cond.code y_P_want c_P_want 3 (some .int) ∈ WS := ws_t (List.mem_of_getElem? (i := 645) (by decide +kernel)) (by decide +kernel)
theorem kc_P_takeNewName : Cond.code y_P_takeNewName c_P_takeNewName 1 (some .int) ∈ WS := ws_t (List.mem_of_getElem? (i := 649) (by decide +kernel)) (by decide +kernel)
theorem kc_N_isFull : Cond.code y_N_isFull c_N_isFull 2 (some .boolean) ∈ WS := ws_t (List.mem_of_getElem? (i := 653) (by decide +kernel)) (by decide +kernel)
theorem kc_N_slotOf : Cond.code y_N_slotOf c_N_slotOf 3 (some .int) ∈ WS := ws_t (List.mem_of_getElem? (i := 657) (by decide +kernel)) (by decide +kernel)
theorem kc_N_isSame : Cond.code y_N_isSame c_N_isSame 4 (some .boolean) ∈ WS := ws_t (List.mem_of_getElem? (i := 661) (by decide +kernel)) (by decide +kernel)
theorem kc_N_tell : Cond.code y_N_tell c_N_tell 6 none ∈ WS := ws_t (List.mem_of_getElem? (i := 665) (by decide +kernel)) (by decide +kernel)
theorem kc_N_slotBehindLast : Cond.code y_N_slotBehindLast c_N_slotBehindLast 2 (some .int) ∈ WS := ws_t (List.mem_of_getElem? (i := 669) (by decide +kernel)) (by decide +kernel)
theorem kc_P_commaOr : Cond.code y_P_commaOr c_P_commaOr 4 (some .int) ∈ WS := ws_t (List.mem_of_getElem? (i := 673) (by decide +kernel)) (by decide +kernel)
theorem kc_P_takePairState : Cond.code y_P_takePairState c_P_takePairState 2 (some .int) ∈ WS := ws_t (List.mem_of_getElem? (i := 677) (by decide +kernel)) (by decide +kernel)
theorem kc_P_findName : Cond.code y_P_findName c_P_findName 4 (some .int) ∈ WS := ws_t (List.mem_of_getElem? (i := 681) (by decide +kernel)) (by decide +kernel)
theorem kc_N_sortOf : Cond.code y_N_sortOf c_N_sortOf 1 (some .int) ∈ WS := ws_t (List.mem_of_getElem? (i := 684) (by decide +kernel)) (by decide +kernel)
theorem kc_P_takePairEvent : Cond.code y_P_takePairEvent c_P_takePairEvent 2 (some .int) ∈ WS := ws_t (List.mem_of_getElem? (i := 688) (by decide +kernel)) (by decide +kernel)
theorem kc_T_setNever : Cond.code y_T_setNever c_T_setNever 2 none ∈ WS := ws_t (List.mem_of_getElem? (i := 693) (by decide +kernel)) (by decide +kernel)
theorem kc_P_beginAction : Cond.code y_P_beginAction c_P_beginAction 2 (some .int) ∈ WS := ws_t (List.mem_of_getElem? (i := 697) (by decide +kernel)) (by decide +kernel)
theorem kc_P_addAction : Cond.code y_P_addAction c_P_addAction 2 (some .int) ∈ WS := ws_t (List.mem_of_getElem? (i := 701) (by decide +kernel)) (by decide +kernel)
theorem kc_T_setAction : Cond.code y_T_setAction c_T_setAction 4 none ∈ WS := ws_t (List.mem_of_getElem? (i := 705) (by decide +kernel)) (by decide +kernel)
theorem kc_P_takeSentMessage : Cond.code y_P_takeSentMessage c_P_takeSentMessage 2 (some .int) ∈ WS := ws_t (List.mem_of_getElem? (i := 709) (by decide +kernel)) (by decide +kernel)
theorem kc_P_takeGoal : Cond.code y_P_takeGoal c_P_takeGoal 2 (some .int) ∈ WS := ws_t (List.mem_of_getElem? (i := 713) (by decide +kernel)) (by decide +kernel)
theorem kc_T_setRule : Cond.code y_T_setRule c_T_setRule 3 none ∈ WS := ws_t (List.mem_of_getElem? (i := 717) (by decide +kernel)) (by decide +kernel)
theorem kc_P_takeFirstState : Cond.code y_P_takeFirstState c_P_takeFirstState 2 (some .int) ∈ WS := ws_t (List.mem_of_getElem? (i := 721) (by decide +kernel)) (by decide +kernel)
theorem kc_P_placeInText : Cond.code y_P_placeInText c_P_placeInText 1 (some .int) ∈ WS := ws_t (List.mem_of_getElem? (i := 725) (by decide +kernel)) (by decide +kernel)
theorem kc_T_settle : Cond.code y_T_settle c_T_settle 3 none ∈ WS := ws_t (List.mem_of_getElem? (i := 730) (by decide +kernel)) (by decide +kernel)
theorem kc_T_reachFrom : Cond.code y_T_reachFrom c_T_reachFrom 5 none ∈ WS := ws_t (List.mem_of_getElem? (i := 734) (by decide +kernel)) (by decide +kernel)
theorem kc_X_fault : Cond.code y_X_fault c_X_fault 2 (some .int) ∈ WS := ws_t (List.mem_of_getElem? (i := 742) (by decide +kernel)) (by decide +kernel)
theorem kc_jI_init : Cond.code y_jI_init c_jI_init 2 none ∈ WS := ws_t (List.mem_of_getElem? (i := 755) (by decide +kernel)) (by decide +kernel)
theorem kc_X_next : Cond.code y_X_next c_X_next 4 (some .int) ∈ WS := ws_t (List.mem_of_getElem? (i := 765) (by decide +kernel)) (by decide +kernel)
theorem kc_X_action : Cond.code y_X_action c_X_action 5 (some .int) ∈ WS := ws_t (List.mem_of_getElem? (i := 774) (by decide +kernel)) (by decide +kernel)
theorem kc_X_missing : Cond.code y_X_missing c_X_missing 3 (some .int) ∈ WS := ws_t (List.mem_of_getElem? (i := 783) (by decide +kernel)) (by decide +kernel)
theorem kc_T_missingPair : Cond.code y_T_missingPair c_T_missingPair 5 (some .int) ∈ WS := ws_t (List.mem_of_getElem? (i := 787) (by decide +kernel)) (by decide +kernel)
theorem kc_X_reached : Cond.code y_X_reached c_X_reached 3 (some .int) ∈ WS := ws_t (List.mem_of_getElem? (i := 795) (by decide +kernel)) (by decide +kernel)
theorem kc_X_message : Cond.code y_X_message c_X_message 2 (some .int) ∈ WS := ws_t (List.mem_of_getElem? (i := 804) (by decide +kernel)) (by decide +kernel)
theorem kc_T_isSent : Cond.code y_T_isSent c_T_isSent 3 (some .boolean) ∈ WS := ws_t (List.mem_of_getElem? (i := 809) (by decide +kernel)) (by decide +kernel)
theorem kc_T_sends : Cond.code y_T_sends c_T_sends 5 (some .boolean) ∈ WS := ws_t (List.mem_of_getElem? (i := 813) (by decide +kernel)) (by decide +kernel)
theorem kc_T_isAwaited : Cond.code y_T_isAwaited c_T_isAwaited 3 (some .boolean) ∈ WS := ws_t (List.mem_of_getElem? (i := 817) (by decide +kernel)) (by decide +kernel)
theorem kc_X_out : Cond.code y_X_out c_X_out 2 (some .int) ∈ WS := ws_t (List.mem_of_getElem? (i := 824) (by decide +kernel)) (by decide +kernel)
theorem kc_X_again : Cond.code y_X_again c_X_again 1 (some .int) ∈ WS := ws_t (List.mem_of_getElem? (i := 832) (by decide +kernel)) (by decide +kernel)
theorem kc_M_init : Cond.code y_M_init c_M_init 1 none ∈ WS := ws_t (List.mem_of_getElem? (i := 841) (by decide +kernel)) (by decide +kernel)
theorem kc_M_forget : Cond.code y_M_forget c_M_forget 2 none ∈ WS := ws_t (List.mem_of_getElem? (i := 846) (by decide +kernel)) (by decide +kernel)
theorem kc_M_thrown : Cond.code y_M_thrown c_M_thrown 1 (some .int) ∈ WS := ws_t (List.mem_of_getElem? (i := 935) (by decide +kernel)) (by decide +kernel)
theorem kc_M_feed : Cond.code y_M_feed c_M_feed 7 (some .int) ∈ WS := ws_t (List.mem_of_getElem? (i := 939) (by decide +kernel)) (by decide +kernel)
theorem kc_M_fail : Cond.code y_M_fail c_M_fail 2 (some .int) ∈ WS := ws_t (List.mem_of_getElem? (i := 943) (by decide +kernel)) (by decide +kernel)
theorem kc_M_end : Cond.code y_M_end c_M_end 2 (some .int) ∈ WS := ws_t (List.mem_of_getElem? (i := 947) (by decide +kernel)) (by decide +kernel)
theorem kc_M_within : Cond.code y_M_within c_M_within 3 (some .boolean) ∈ WS := ws_t (List.mem_of_getElem? (i := 950) (by decide +kernel)) (by decide +kernel)
theorem kc_M_read : Cond.code y_M_read c_M_read 2 (some .int) ∈ WS := ws_t (List.mem_of_getElem? (i := 954) (by decide +kernel)) (by decide +kernel)
theorem kc_M_advance : Cond.code y_M_advance c_M_advance 2 none ∈ WS := ws_t (List.mem_of_getElem? (i := 958) (by decide +kernel)) (by decide +kernel)
theorem kc_M_passWhite : Cond.code y_M_passWhite c_M_passWhite 2 none ∈ WS := ws_t (List.mem_of_getElem? (i := 962) (by decide +kernel)) (by decide +kernel)
theorem kc_M_isWhite : Cond.code y_M_isWhite c_M_isWhite 1 (some .boolean) ∈ WS := ws_t (List.mem_of_getElem? (i := 965) (by decide +kernel)) (by decide +kernel)
theorem kc_M_isSmall : Cond.code y_M_isSmall c_M_isSmall 1 (some .boolean) ∈ WS := ws_t (List.mem_of_getElem? (i := 968) (by decide +kernel)) (by decide +kernel)
theorem kc_M_wordHere : Cond.code y_M_wordHere c_M_wordHere 4 (some .int) ∈ WS := ws_t (List.mem_of_getElem? (i := 972) (by decide +kernel)) (by decide +kernel)
theorem kc_M_tell : Cond.code y_M_tell c_M_tell 3 none ∈ WS := ws_t (List.mem_of_getElem? (i := 976) (by decide +kernel)) (by decide +kernel)
theorem kc_M_readStatement : Cond.code y_M_readStatement c_M_readStatement 2 none ∈ WS := ws_t (List.mem_of_getElem? (i := 980) (by decide +kernel)) (by decide +kernel)
theorem kc_M_readNames : Cond.code y_M_readNames c_M_readNames 3 none ∈ WS := ws_t (List.mem_of_getElem? (i := 984) (by decide +kernel)) (by decide +kernel)
theorem kc_M_newName : Cond.code y_M_newName c_M_newName 2 none ∈ WS := ws_t (List.mem_of_getElem? (i := 988) (by decide +kernel)) (by decide +kernel)
theorem kc_M_find : Cond.code y_M_find c_M_find 3 (some .int) ∈ WS := ws_t (List.mem_of_getElem? (i := 992) (by decide +kernel)) (by decide +kernel)
theorem kc_M_isAt : Cond.code y_M_isAt c_M_isAt 4 (some .boolean) ∈ WS := ws_t (List.mem_of_getElem? (i := 996) (by decide +kernel)) (by decide +kernel)
theorem kc_M_comma : Cond.code y_M_comma c_M_comma 1 (some .boolean) ∈ WS := ws_t (List.mem_of_getElem? (i := 1000) (by decide +kernel)) (by decide +kernel)
theorem kc_M_isSign : Cond.code y_M_isSign c_M_isSign 2 (some .boolean) ∈ WS := ws_t (List.mem_of_getElem? (i := 1004) (by decide +kernel)) (by decide +kernel)
theorem kc_M_readRule : Cond.code y_M_readRule c_M_readRule 4 none ∈ WS := ws_t (List.mem_of_getElem? (i := 1008) (by decide +kernel)) (by decide +kernel)
theorem kc_M_takeState : Cond.code y_M_takeState c_M_takeState 2 (some .int) ∈ WS := ws_t (List.mem_of_getElem? (i := 1012) (by decide +kernel)) (by decide +kernel)
theorem kc_M_oldName : Cond.code y_M_oldName c_M_oldName 4 (some .int) ∈ WS := ws_t (List.mem_of_getElem? (i := 1016) (by decide +kernel)) (by decide +kernel)
theorem kc_M_takePair : Cond.code y_M_takePair c_M_takePair 4 (some .int) ∈ WS := ws_t (List.mem_of_getElem? (i := 1020) (by decide +kernel)) (by decide +kernel)
theorem kc_M_sign : Cond.code y_M_sign c_M_sign 2 none ∈ WS := ws_t (List.mem_of_getElem? (i := 1024) (by decide +kernel)) (by decide +kernel)
theorem kc_M_readActions : Cond.code y_M_readActions c_M_readActions 7 none ∈ WS := ws_t (List.mem_of_getElem? (i := 1028) (by decide +kernel)) (by decide +kernel)
theorem kc_M_isWord : Cond.code y_M_isWord c_M_isWord 2 (some .boolean) ∈ WS := ws_t (List.mem_of_getElem? (i := 1032) (by decide +kernel)) (by decide +kernel)
theorem kc_M_readNever : Cond.code y_M_readNever c_M_readNever 3 none ∈ WS := ws_t (List.mem_of_getElem? (i := 1036) (by decide +kernel)) (by decide +kernel)
theorem kc_M_fault : Cond.code y_M_fault c_M_fault 2 (some .int) ∈ WS := ws_t (List.mem_of_getElem? (i := 1040) (by decide +kernel)) (by decide +kernel)
theorem kc_M_next : Cond.code y_M_next c_M_next 3 (some .int) ∈ WS := ws_t (List.mem_of_getElem? (i := 1044) (by decide +kernel)) (by decide +kernel)
theorem kc_M_isPair : Cond.code y_M_isPair c_M_isPair 3 (some .boolean) ∈ WS := ws_t (List.mem_of_getElem? (i := 1048) (by decide +kernel)) (by decide +kernel)
theorem kc_M_events : Cond.code y_M_events c_M_events 1 (some .int) ∈ WS := ws_t (List.mem_of_getElem? (i := 1052) (by decide +kernel)) (by decide +kernel)
theorem kc_M_at : Cond.code y_M_at c_M_at 3 (some .int) ∈ WS := ws_t (List.mem_of_getElem? (i := 1056) (by decide +kernel)) (by decide +kernel)
theorem kc_M_slotOf : Cond.code y_M_slotOf c_M_slotOf 2 (some .int) ∈ WS := ws_t (List.mem_of_getElem? (i := 1060) (by decide +kernel)) (by decide +kernel)
theorem kc_M_action : Cond.code y_M_action c_M_action 4 (some .int) ∈ WS := ws_t (List.mem_of_getElem? (i := 1064) (by decide +kernel)) (by decide +kernel)
theorem kc_M_missing : Cond.code y_M_missing c_M_missing 5 (some .int) ∈ WS := ws_t (List.mem_of_getElem? (i := 1068) (by decide +kernel)) (by decide +kernel)
theorem kc_M_reached : Cond.code y_M_reached c_M_reached 3 (some .int) ∈ WS := ws_t (List.mem_of_getElem? (i := 1072) (by decide +kernel)) (by decide +kernel)
theorem kc_M_reach : Cond.code y_M_reach c_M_reach 5 none ∈ WS := ws_t (List.mem_of_getElem? (i := 1076) (by decide +kernel)) (by decide +kernel)
theorem kc_M_message : Cond.code y_M_message c_M_message 5 (some .int) ∈ WS := ws_t (List.mem_of_getElem? (i := 1080) (by decide +kernel)) (by decide +kernel)
theorem kc_M_sends : Cond.code y_M_sends c_M_sends 6 (some .boolean) ∈ WS := ws_t (List.mem_of_getElem? (i := 1084) (by decide +kernel)) (by decide +kernel)
theorem kc_M_print : Cond.code y_M_print c_M_print 3 (some .int) ∈ WS := ws_t (List.mem_of_getElem? (i := 1088) (by decide +kernel)) (by decide +kernel)
theorem kc_M_printNames : Cond.code y_M_printNames c_M_printNames 3 none ∈ WS := ws_t (List.mem_of_getElem? (i := 1092) (by decide +kernel)) (by decide +kernel)
theorem kc_M_sayWord : Cond.code y_M_sayWord c_M_sayWord 4 none ∈ WS := ws_t (List.mem_of_getElem? (i := 1096) (by decide +kernel)) (by decide +kernel)
theorem kc_M_say : Cond.code y_M_say c_M_say 2 none ∈ WS := ws_t (List.mem_of_getElem? (i := 1100) (by decide +kernel)) (by decide +kernel)
theorem kc_M_sayName : Cond.code y_M_sayName c_M_sayName 5 (some .int) ∈ WS := ws_t (List.mem_of_getElem? (i := 1104) (by decide +kernel)) (by decide +kernel)
theorem kc_M_endLine : Cond.code y_M_endLine c_M_endLine 1 none ∈ WS := ws_t (List.mem_of_getElem? (i := 1108) (by decide +kernel)) (by decide +kernel)
theorem kc_M_printPair : Cond.code y_M_printPair c_M_printPair 4 none ∈ WS := ws_t (List.mem_of_getElem? (i := 1112) (by decide +kernel)) (by decide +kernel)
theorem kc_M_sayEvent : Cond.code y_M_sayEvent c_M_sayEvent 2 (some .int) ∈ WS := ws_t (List.mem_of_getElem? (i := 1116) (by decide +kernel)) (by decide +kernel)
theorem kc_M_printActions : Cond.code y_M_printActions c_M_printActions 4 none ∈ WS := ws_t (List.mem_of_getElem? (i := 1120) (by decide +kernel)) (by decide +kernel)
theorem kc_M_draw : Cond.code y_M_draw c_M_draw 5 (some .int) ∈ WS := ws_t (List.mem_of_getElem? (i := 1124) (by decide +kernel)) (by decide +kernel)
theorem kc_M_lengthOf : Cond.code y_M_lengthOf c_M_lengthOf 3 (some .int) ∈ WS := ws_t (List.mem_of_getElem? (i := 1128) (by decide +kernel)) (by decide +kernel)
theorem kc_M_fill : Cond.code y_M_fill c_M_fill 3 none ∈ WS := ws_t (List.mem_of_getElem? (i := 1132) (by decide +kernel)) (by decide +kernel)
theorem kc_M_drawCell : Cond.code y_M_drawCell c_M_drawCell 4 none ∈ WS := ws_t (List.mem_of_getElem? (i := 1136) (by decide +kernel)) (by decide +kernel)
theorem kc_M_widthOf : Cond.code y_M_widthOf c_M_widthOf 4 (some .int) ∈ WS := ws_t (List.mem_of_getElem? (i := 1140) (by decide +kernel)) (by decide +kernel)
theorem kc_M_endDrawn : Cond.code y_M_endDrawn c_M_endDrawn 2 none ∈ WS := ws_t (List.mem_of_getElem? (i := 1144) (by decide +kernel)) (by decide +kernel)
theorem kc_M_out : Cond.code y_M_out c_M_out 2 (some .int) ∈ WS := ws_t (List.mem_of_getElem? (i := 1148) (by decide +kernel)) (by decide +kernel)
theorem kc_M_again : Cond.code y_M_again c_M_again 2 (some .int) ∈ WS := ws_t (List.mem_of_getElem? (i := 1152) (by decide +kernel)) (by decide +kernel)
theorem kc_M_count : Cond.code y_M_count c_M_count 4 (some .int) ∈ WS := ws_t (List.mem_of_getElem? (i := 1156) (by decide +kernel)) (by decide +kernel)
theorem kc_M_missingOf : Cond.code y_M_missingOf c_M_missingOf 4 (some .int) ∈ WS := ws_t (List.mem_of_getElem? (i := 1160) (by decide +kernel)) (by decide +kernel)
theorem f_B_9 : FK R_B 9 R_B T_B 2 0 0 := ⟨wu_B, rfl, by decide, ws_t (List.mem_of_getElem? (i := 37) (by decide +kernel)) (by decide +kernel)⟩
theorem f_L_33 : FK R_L 33 R_B T_B 2 0 0 := ⟨wu_B, rfl, by decide, ws_t (List.mem_of_getElem? (i := 38) (by decide +kernel)) (by decide +kernel)⟩
theorem f_N_45 : FK R_N 45 R_B T_B 2 0 0 := ⟨wu_B, rfl, by decide, ws_t (List.mem_of_getElem? (i := 39) (by decide +kernel)) (by decide +kernel)⟩
theorem f_X_171 : FK R_X 171 R_B T_B 2 0 0 := ⟨wu_B, rfl, by decide, ws_t (List.mem_of_getElem? (i := 40) (by decide +kernel)) (by decide +kernel)⟩
theorem f_B_15 : FK R_B 15 R_B T_B 2 0 1 := ⟨wu_B, rfl, by decide, ws_t (List.mem_of_getElem? (i := 41) (by decide +kernel)) (by decide +kernel)⟩
theorem f_X_74 : FK R_X 74 R_B T_B 2 0 1 := ⟨wu_B, rfl, by decide, ws_t (List.mem_of_getElem? (i := 42) (by decide +kernel)) (by decide +kernel)⟩
theorem f_I_23 : FK R_I 23 R_B T_B 2 0 1 := ⟨wu_B, rfl, by decide, ws_t (List.mem_of_getElem? (i := 43) (by decide +kernel)) (by decide +kernel)⟩
theorem f_D_29 : FK R_D 29 R_B T_B 2 0 1 := ⟨wu_B, rfl, by decide, ws_t (List.mem_of_getElem? (i := 44) (by decide +kernel)) (by decide +kernel)⟩
theorem f_L_28 : FK R_L 28 R_B T_B 2 0 1 := ⟨wu_B, rfl, by decide, ws_t (List.mem_of_getElem? (i := 45) (by decide +kernel)) (by decide +kernel)⟩
theorem f_N_11 : FK R_N 11 R_N T_N 3 3 0 := ⟨wu_N, rfl, by decide, ws_t (List.mem_of_getElem? (i := 58) (by decide +kernel)) (by decide +kernel)⟩
theorem f_N_15 : FK R_N 15 R_N T_N 3 3 1 := ⟨wu_N, rfl, by decide, ws_t (List.mem_of_getElem? (i := 59) (by decide +kernel)) (by decide +kernel)⟩
theorem f_N_19 : FK R_N 19 R_N T_N 3 3 2 := ⟨wu_N, rfl, by decide, ws_t (List.mem_of_getElem? (i := 60) (by decide +kernel)) (by decide +kernel)⟩
theorem f_T_13 : FK R_T 13 R_T T_T 7 6 0 := ⟨wu_T, rfl, by decide, ws_t (List.mem_of_getElem? (i := 82) (by decide +kernel)) (by decide +kernel)⟩
theorem f_X_125 : FK R_X 125 R_T T_T 7 6 0 := ⟨wu_T, rfl, by decide, ws_t (List.mem_of_getElem? (i := 83) (by decide +kernel)) (by decide +kernel)⟩
theorem f_P_132 : FK R_P 132 R_T T_T 7 6 0 := ⟨wu_T, rfl, by decide, ws_t (List.mem_of_getElem? (i := 84) (by decide +kernel)) (by decide +kernel)⟩
theorem f_T_17 : FK R_T 17 R_T T_T 7 6 1 := ⟨wu_T, rfl, by decide, ws_t (List.mem_of_getElem? (i := 85) (by decide +kernel)) (by decide +kernel)⟩
theorem f_X_145 : FK R_X 145 R_T T_T 7 6 1 := ⟨wu_T, rfl, by decide, ws_t (List.mem_of_getElem? (i := 86) (by decide +kernel)) (by decide +kernel)⟩
theorem f_T_36 : FK R_T 36 R_T T_T 7 6 2 := ⟨wu_T, rfl, by decide, ws_t (List.mem_of_getElem? (i := 87) (by decide +kernel)) (by decide +kernel)⟩
theorem f_X_111 : FK R_X 111 R_T T_T 7 6 2 := ⟨wu_T, rfl, by decide, ws_t (List.mem_of_getElem? (i := 88) (by decide +kernel)) (by decide +kernel)⟩
theorem f_T_40 : FK R_T 40 R_T T_T 7 6 3 := ⟨wu_T, rfl, by decide, ws_t (List.mem_of_getElem? (i := 89) (by decide +kernel)) (by decide +kernel)⟩
theorem f_X_186 : FK R_X 186 R_T T_T 7 6 3 := ⟨wu_T, rfl, by decide, ws_t (List.mem_of_getElem? (i := 90) (by decide +kernel)) (by decide +kernel)⟩
theorem f_T_43 : FK R_T 43 R_T T_T 7 6 4 := ⟨wu_T, rfl, by decide, ws_t (List.mem_of_getElem? (i := 91) (by decide +kernel)) (by decide +kernel)⟩
theorem f_I_51 : FK R_I 51 R_T T_T 7 6 4 := ⟨wu_T, rfl, by decide, ws_t (List.mem_of_getElem? (i := 92) (by decide +kernel)) (by decide +kernel)⟩
theorem f_X_193 : FK R_X 193 R_T T_T 7 6 4 := ⟨wu_T, rfl, by decide, ws_t (List.mem_of_getElem? (i := 93) (by decide +kernel)) (by decide +kernel)⟩
theorem f_P_151 : FK R_P 151 R_T T_T 7 6 4 := ⟨wu_T, rfl, by decide, ws_t (List.mem_of_getElem? (i := 94) (by decide +kernel)) (by decide +kernel)⟩
theorem f_T_23 : FK R_T 23 R_T T_T 7 6 5 := ⟨wu_T, rfl, by decide, ws_t (List.mem_of_getElem? (i := 95) (by decide +kernel)) (by decide +kernel)⟩
theorem f_T_20 : FK R_T 20 R_T T_T 7 6 6 := ⟨wu_T, rfl, by decide, ws_t (List.mem_of_getElem? (i := 96) (by decide +kernel)) (by decide +kernel)⟩
theorem f_L_9 : FK R_L 9 R_L T_L 4 2 0 := ⟨wu_L, rfl, by decide, ws_t (List.mem_of_getElem? (i := 120) (by decide +kernel)) (by decide +kernel)⟩
theorem f_N_41 : FK R_N 41 R_L T_L 4 2 0 := ⟨wu_L, rfl, by decide, ws_t (List.mem_of_getElem? (i := 121) (by decide +kernel)) (by decide +kernel)⟩
theorem f_L_15 : FK R_L 15 R_L T_L 4 2 1 := ⟨wu_L, rfl, by decide, ws_t (List.mem_of_getElem? (i := 122) (by decide +kernel)) (by decide +kernel)⟩
theorem f_P_23 : FK R_P 23 R_L T_L 4 2 1 := ⟨wu_L, rfl, by decide, ws_t (List.mem_of_getElem? (i := 123) (by decide +kernel)) (by decide +kernel)⟩
theorem f_N_38 : FK R_N 38 R_L T_L 4 2 1 := ⟨wu_L, rfl, by decide, ws_t (List.mem_of_getElem? (i := 124) (by decide +kernel)) (by decide +kernel)⟩
theorem f_L_19 : FK R_L 19 R_L T_L 4 2 2 := ⟨wu_L, rfl, by decide, ws_t (List.mem_of_getElem? (i := 125) (by decide +kernel)) (by decide +kernel)⟩
theorem f_N_32 : FK R_N 32 R_L T_L 4 2 2 := ⟨wu_L, rfl, by decide, ws_t (List.mem_of_getElem? (i := 126) (by decide +kernel)) (by decide +kernel)⟩
theorem f_L_22 : FK R_L 22 R_L T_L 4 2 3 := ⟨wu_L, rfl, by decide, ws_t (List.mem_of_getElem? (i := 127) (by decide +kernel)) (by decide +kernel)⟩
theorem f_P_38 : FK R_P 38 R_L T_L 4 2 3 := ⟨wu_L, rfl, by decide, ws_t (List.mem_of_getElem? (i := 128) (by decide +kernel)) (by decide +kernel)⟩
theorem f_P_9 : FK R_P 9 R_P T_P 10 4 0 := ⟨wu_P, rfl, by decide, ws_t (List.mem_of_getElem? (i := 142) (by decide +kernel)) (by decide +kernel)⟩
theorem f_P_15 : FK R_P 15 R_P T_P 10 4 1 := ⟨wu_P, rfl, by decide, ws_t (List.mem_of_getElem? (i := 143) (by decide +kernel)) (by decide +kernel)⟩
theorem f_P_19 : FK R_P 19 R_P T_P 10 4 2 := ⟨wu_P, rfl, by decide, ws_t (List.mem_of_getElem? (i := 144) (by decide +kernel)) (by decide +kernel)⟩
theorem f_P_32 : FK R_P 32 R_P T_P 10 4 3 := ⟨wu_P, rfl, by decide, ws_t (List.mem_of_getElem? (i := 145) (by decide +kernel)) (by decide +kernel)⟩
theorem f_P_90 : FK R_P 90 R_P T_P 10 4 4 := ⟨wu_P, rfl, by decide, ws_t (List.mem_of_getElem? (i := 146) (by decide +kernel)) (by decide +kernel)⟩
theorem f_P_93 : FK R_P 93 R_P T_P 10 4 5 := ⟨wu_P, rfl, by decide, ws_t (List.mem_of_getElem? (i := 147) (by decide +kernel)) (by decide +kernel)⟩
theorem f_P_112 : FK R_P 112 R_P T_P 10 4 6 := ⟨wu_P, rfl, by decide, ws_t (List.mem_of_getElem? (i := 148) (by decide +kernel)) (by decide +kernel)⟩
theorem f_P_121 : FK R_P 121 R_P T_P 10 4 7 := ⟨wu_P, rfl, by decide, ws_t (List.mem_of_getElem? (i := 149) (by decide +kernel)) (by decide +kernel)⟩
theorem f_P_129 : FK R_P 129 R_P T_P 10 4 8 := ⟨wu_P, rfl, by decide, ws_t (List.mem_of_getElem? (i := 150) (by decide +kernel)) (by decide +kernel)⟩
theorem f_P_97 : FK R_P 97 R_P T_P 10 4 9 := ⟨wu_P, rfl, by decide, ws_t (List.mem_of_getElem? (i := 151) (by decide +kernel)) (by decide +kernel)⟩
theorem f_I_9 : FK R_I 9 R_I T_I 3 5 0 := ⟨wu_I, rfl, by decide, ws_t (List.mem_of_getElem? (i := 179) (by decide +kernel)) (by decide +kernel)⟩
theorem f_I_15 : FK R_I 15 R_I T_I 3 5 1 := ⟨wu_I, rfl, by decide, ws_t (List.mem_of_getElem? (i := 180) (by decide +kernel)) (by decide +kernel)⟩
theorem f_I_19 : FK R_I 19 R_I T_I 3 5 2 := ⟨wu_I, rfl, by decide, ws_t (List.mem_of_getElem? (i := 181) (by decide +kernel)) (by decide +kernel)⟩
theorem f_D_17 : FK R_D 17 R_D T_D 5 1 0 := ⟨wu_D, rfl, by decide, ws_t (List.mem_of_getElem? (i := 195) (by decide +kernel)) (by decide +kernel)⟩
theorem f_D_21 : FK R_D 21 R_D T_D 5 1 1 := ⟨wu_D, rfl, by decide, ws_t (List.mem_of_getElem? (i := 196) (by decide +kernel)) (by decide +kernel)⟩
theorem f_D_25 : FK R_D 25 R_D T_D 5 1 2 := ⟨wu_D, rfl, by decide, ws_t (List.mem_of_getElem? (i := 197) (by decide +kernel)) (by decide +kernel)⟩
theorem f_D_11 : FK R_D 11 R_D T_D 5 1 3 := ⟨wu_D, rfl, by decide, ws_t (List.mem_of_getElem? (i := 198) (by decide +kernel)) (by decide +kernel)⟩
theorem f_D_49 : FK R_D 49 R_D T_D 5 1 4 := ⟨wu_D, rfl, by decide, ws_t (List.mem_of_getElem? (i := 199) (by decide +kernel)) (by decide +kernel)⟩
theorem f_X_14 : FK R_X 14 R_X T_X 9 7 0 := ⟨wu_X, rfl, by decide, ws_t (List.mem_of_getElem? (i := 211) (by decide +kernel)) (by decide +kernel)⟩
theorem f_X_18 : FK R_X 18 R_X T_X 9 7 1 := ⟨wu_X, rfl, by decide, ws_t (List.mem_of_getElem? (i := 212) (by decide +kernel)) (by decide +kernel)⟩
theorem f_X_24 : FK R_X 24 R_X T_X 9 7 2 := ⟨wu_X, rfl, by decide, ws_t (List.mem_of_getElem? (i := 213) (by decide +kernel)) (by decide +kernel)⟩
theorem f_X_33 : FK R_X 33 R_X T_X 9 7 3 := ⟨wu_X, rfl, by decide, ws_t (List.mem_of_getElem? (i := 214) (by decide +kernel)) (by decide +kernel)⟩
theorem f_X_47 : FK R_X 47 R_X T_X 9 7 4 := ⟨wu_X, rfl, by decide, ws_t (List.mem_of_getElem? (i := 215) (by decide +kernel)) (by decide +kernel)⟩
theorem f_X_56 : FK R_X 56 R_X T_X 9 7 5 := ⟨wu_X, rfl, by decide, ws_t (List.mem_of_getElem? (i := 216) (by decide +kernel)) (by decide +kernel)⟩
theorem f_X_63 : FK R_X 63 R_X T_X 9 7 6 := ⟨wu_X, rfl, by decide, ws_t (List.mem_of_getElem? (i := 217) (by decide +kernel)) (by decide +kernel)⟩
theorem f_X_67 : FK R_X 67 R_X T_X 9 7 7 := ⟨wu_X, rfl, by decide, ws_t (List.mem_of_getElem? (i := 218) (by decide +kernel)) (by decide +kernel)⟩
theorem f_X_71 : FK R_X 71 R_X T_X 9 7 8 := ⟨wu_X, rfl, by decide, ws_t (List.mem_of_getElem? (i := 219) (by decide +kernel)) (by decide +kernel)⟩
theorem f_M_7 : FK R_M 7 R_M T_M 28 8 0 := ⟨wu_M, rfl, by decide, ws_t (List.mem_of_getElem? (i := 847) (by decide +kernel)) (by decide +kernel)⟩
theorem f_M_55 : FK R_M 55 R_M T_M 28 8 1 := ⟨wu_M, rfl, by decide, ws_t (List.mem_of_getElem? (i := 848) (by decide +kernel)) (by decide +kernel)⟩
theorem f_M_59 : FK R_M 59 R_M T_M 28 8 2 := ⟨wu_M, rfl, by decide, ws_t (List.mem_of_getElem? (i := 849) (by decide +kernel)) (by decide +kernel)⟩
theorem f_M_13 : FK R_M 13 R_M T_M 28 8 3 := ⟨wu_M, rfl, by decide, ws_t (List.mem_of_getElem? (i := 850) (by decide +kernel)) (by decide +kernel)⟩
theorem f_M_191 : FK R_M 191 R_M T_M 28 8 4 := ⟨wu_M, rfl, by decide, ws_t (List.mem_of_getElem? (i := 851) (by decide +kernel)) (by decide +kernel)⟩
theorem f_M_16 : FK R_M 16 R_M T_M 28 8 5 := ⟨wu_M, rfl, by decide, ws_t (List.mem_of_getElem? (i := 852) (by decide +kernel)) (by decide +kernel)⟩
theorem f_M_70 : FK R_M 70 R_M T_M 28 8 6 := ⟨wu_M, rfl, by decide, ws_t (List.mem_of_getElem? (i := 853) (by decide +kernel)) (by decide +kernel)⟩
theorem f_M_73 : FK R_M 73 R_M T_M 28 8 7 := ⟨wu_M, rfl, by decide, ws_t (List.mem_of_getElem? (i := 854) (by decide +kernel)) (by decide +kernel)⟩
theorem f_M_79 : FK R_M 79 R_M T_M 28 8 8 := ⟨wu_M, rfl, by decide, ws_t (List.mem_of_getElem? (i := 855) (by decide +kernel)) (by decide +kernel)⟩
theorem f_M_115 : FK R_M 115 R_M T_M 28 8 9 := ⟨wu_M, rfl, by decide, ws_t (List.mem_of_getElem? (i := 856) (by decide +kernel)) (by decide +kernel)⟩
theorem f_M_19 : FK R_M 19 R_M T_M 28 8 10 := ⟨wu_M, rfl, by decide, ws_t (List.mem_of_getElem? (i := 857) (by decide +kernel)) (by decide +kernel)⟩
theorem f_M_22 : FK R_M 22 R_M T_M 28 8 11 := ⟨wu_M, rfl, by decide, ws_t (List.mem_of_getElem? (i := 858) (by decide +kernel)) (by decide +kernel)⟩
theorem f_M_25 : FK R_M 25 R_M T_M 28 8 12 := ⟨wu_M, rfl, by decide, ws_t (List.mem_of_getElem? (i := 859) (by decide +kernel)) (by decide +kernel)⟩
theorem f_M_28 : FK R_M 28 R_M T_M 28 8 13 := ⟨wu_M, rfl, by decide, ws_t (List.mem_of_getElem? (i := 860) (by decide +kernel)) (by decide +kernel)⟩
theorem f_M_31 : FK R_M 31 R_M T_M 28 8 14 := ⟨wu_M, rfl, by decide, ws_t (List.mem_of_getElem? (i := 861) (by decide +kernel)) (by decide +kernel)⟩
theorem f_M_34 : FK R_M 34 R_M T_M 28 8 15 := ⟨wu_M, rfl, by decide, ws_t (List.mem_of_getElem? (i := 862) (by decide +kernel)) (by decide +kernel)⟩
theorem f_M_37 : FK R_M 37 R_M T_M 28 8 16 := ⟨wu_M, rfl, by decide, ws_t (List.mem_of_getElem? (i := 863) (by decide +kernel)) (by decide +kernel)⟩
theorem f_M_166 : FK R_M 166 R_M T_M 28 8 17 := ⟨wu_M, rfl, by decide, ws_t (List.mem_of_getElem? (i := 864) (by decide +kernel)) (by decide +kernel)⟩
theorem f_M_151 : FK R_M 151 R_M T_M 28 8 18 := ⟨wu_M, rfl, by decide, ws_t (List.mem_of_getElem? (i := 865) (by decide +kernel)) (by decide +kernel)⟩
theorem f_M_154 : FK R_M 154 R_M T_M 28 8 19 := ⟨wu_M, rfl, by decide, ws_t (List.mem_of_getElem? (i := 866) (by decide +kernel)) (by decide +kernel)⟩
theorem f_M_40 : FK R_M 40 R_M T_M 28 8 20 := ⟨wu_M, rfl, by decide, ws_t (List.mem_of_getElem? (i := 867) (by decide +kernel)) (by decide +kernel)⟩
theorem f_M_43 : FK R_M 43 R_M T_M 28 8 21 := ⟨wu_M, rfl, by decide, ws_t (List.mem_of_getElem? (i := 868) (by decide +kernel)) (by decide +kernel)⟩
theorem f_M_46 : FK R_M 46 R_M T_M 28 8 22 := ⟨wu_M, rfl, by decide, ws_t (List.mem_of_getElem? (i := 869) (by decide +kernel)) (by decide +kernel)⟩
theorem f_M_49 : FK R_M 49 R_M T_M 28 8 23 := ⟨wu_M, rfl, by decide, ws_t (List.mem_of_getElem? (i := 870) (by decide +kernel)) (by decide +kernel)⟩
theorem f_M_92 : FK R_M 92 R_M T_M 28 8 24 := ⟨wu_M, rfl, by decide, ws_t (List.mem_of_getElem? (i := 871) (by decide +kernel)) (by decide +kernel)⟩
theorem f_M_86 : FK R_M 86 R_M T_M 28 8 25 := ⟨wu_M, rfl, by decide, ws_t (List.mem_of_getElem? (i := 872) (by decide +kernel)) (by decide +kernel)⟩
theorem f_M_76 : FK R_M 76 R_M T_M 28 8 26 := ⟨wu_M, rfl, by decide, ws_t (List.mem_of_getElem? (i := 873) (by decide +kernel)) (by decide +kernel)⟩
theorem f_M_102 : FK R_M 102 R_M T_M 28 8 27 := ⟨wu_M, rfl, by decide, ws_t (List.mem_of_getElem? (i := 874) (by decide +kernel)) (by decide +kernel)⟩
theorem wm_X_init : Cond.instanceMethod y_X_init ∈ WS := ws_t (List.mem_of_getElem? (i := 26) (by decide +kernel)) (by decide +kernel)
theorem wm_jO_init : Cond.instanceMethod y_jO_init ∈ WS := ws_t (List.mem_of_getElem? (i := 29) (by decide +kernel)) (by decide +kernel)
theorem wm_B_init : Cond.instanceMethod y_B_init ∈ WS := ws_t (List.mem_of_getElem? (i := 34) (by decide +kernel)) (by decide +kernel)
theorem wm_N_init : Cond.instanceMethod y_N_init ∈ WS := ws_t (List.mem_of_getElem? (i := 55) (by decide +kernel)) (by decide +kernel)
theorem wm_T_init : Cond.instanceMethod y_T_init ∈ WS := ws_t (List.mem_of_getElem? (i := 72) (by decide +kernel)) (by decide +kernel)
theorem wm_T_forget : Cond.instanceMethod y_T_forget ∈ WS := ws_t (List.mem_of_getElem? (i := 76) (by decide +kernel)) (by decide +kernel)
theorem wm_jA_fill : Cond.static y_jA_fill ∈ WS := ws_t (List.mem_of_getElem? (i := 80) (by decide +kernel)) (by decide +kernel)
theorem wm_L_init : Cond.instanceMethod y_L_init ∈ WS := ws_t (List.mem_of_getElem? (i := 117) (by decide +kernel)) (by decide +kernel)
theorem wm_P_init : Cond.instanceMethod y_P_init ∈ WS := ws_t (List.mem_of_getElem? (i := 139) (by decide +kernel)) (by decide +kernel)
theorem wm_I_init : Cond.instanceMethod y_I_init ∈ WS := ws_t (List.mem_of_getElem? (i := 176) (by decide +kernel)) (by decide +kernel)
theorem wm_D_init : Cond.instanceMethod y_D_init ∈ WS := ws_t (List.mem_of_getElem? (i := 192) (by decide +kernel)) (by decide +kernel)
theorem wm_X_print : Cond.instanceMethod y_X_print ∈ WS := ws_t (List.mem_of_getElem? (i := 240) (by decide +kernel)) (by decide +kernel)
theorem wm_I_printAll : Cond.instanceMethod y_I_printAll ∈ WS := ws_t (List.mem_of_getElem? (i := 244) (by decide +kernel)) (by decide +kernel)
theorem wm_N_states : Cond.instanceMethod y_N_states ∈ WS := ws_t (List.mem_of_getElem? (i := 249) (by decide +kernel)) (by decide +kernel)
theorem wm_I_printNames : Cond.instanceMethod y_I_printNames ∈ WS := ws_t (List.mem_of_getElem? (i := 254) (by decide +kernel)) (by decide +kernel)
theorem wm_B_addText : Cond.instanceMethod y_B_addText ∈ WS := ws_t (List.mem_of_getElem? (i := 257) (by decide +kernel)) (by decide +kernel)
theorem wm_jS_length : Cond.instanceMethod y_jS_length ∈ WS := ws_t (List.mem_of_getElem? (i := 261) (by decide +kernel)) (by decide +kernel)
theorem wm_jS_coder : Cond.instanceMethod y_jS_coder ∈ WS := ws_t (List.mem_of_getElem? (i := 265) (by decide +kernel)) (by decide +kernel)
theorem wm_jS_charAt : Cond.instanceMethod y_jS_charAt ∈ WS := ws_t (List.mem_of_getElem? (i := 271) (by decide +kernel)) (by decide +kernel)
theorem wm_jS_isLatin1 : Cond.instanceMethod y_jS_isLatin1 ∈ WS := ws_t (List.mem_of_getElem? (i := 275) (by decide +kernel)) (by decide +kernel)
theorem wm_jL_charAt : Cond.static y_jL_charAt ∈ WS := ws_t (List.mem_of_getElem? (i := 279) (by decide +kernel)) (by decide +kernel)
theorem wm_jS_checkIndex : Cond.static y_jS_checkIndex ∈ WS := ws_t (List.mem_of_getElem? (i := 282) (by decide +kernel)) (by decide +kernel)
theorem wm_jP_checkIndex : Cond.static y_jP_checkIndex ∈ WS := ws_t (List.mem_of_getElem? (i := 287) (by decide +kernel)) (by decide +kernel)
theorem wm_jU_charAt : Cond.static y_jU_charAt ∈ WS := ws_t (List.mem_of_getElem? (i := 290) (by decide +kernel)) (by decide +kernel)
theorem wm_jU_checkIndex : Cond.static y_jU_checkIndex ∈ WS := ws_t (List.mem_of_getElem? (i := 293) (by decide +kernel)) (by decide +kernel)
theorem wm_jU_length : Cond.static y_jU_length ∈ WS := ws_t (List.mem_of_getElem? (i := 296) (by decide +kernel)) (by decide +kernel)
theorem wm_jU_getChar : Cond.static y_jU_getChar ∈ WS := ws_t (List.mem_of_getElem? (i := 300) (by decide +kernel)) (by decide +kernel)
theorem wm_B_add : Cond.instanceMethod y_B_add ∈ WS := ws_t (List.mem_of_getElem? (i := 309) (by decide +kernel)) (by decide +kernel)
theorem wm_N_write : Cond.instanceMethod y_N_write ∈ WS := ws_t (List.mem_of_getElem? (i := 314) (by decide +kernel)) (by decide +kernel)
theorem wm_I_endLine : Cond.instanceMethod y_I_endLine ∈ WS := ws_t (List.mem_of_getElem? (i := 320) (by decide +kernel)) (by decide +kernel)
theorem wm_N_asks : Cond.instanceMethod y_N_asks ∈ WS := ws_t (List.mem_of_getElem? (i := 325) (by decide +kernel)) (by decide +kernel)
theorem wm_N_messages : Cond.instanceMethod y_N_messages ∈ WS := ws_t (List.mem_of_getElem? (i := 330) (by decide +kernel)) (by decide +kernel)
theorem wm_N_events : Cond.instanceMethod y_N_events ∈ WS := ws_t (List.mem_of_getElem? (i := 335) (by decide +kernel)) (by decide +kernel)
theorem wm_I_printPair : Cond.instanceMethod y_I_printPair ∈ WS := ws_t (List.mem_of_getElem? (i := 340) (by decide +kernel)) (by decide +kernel)
theorem wm_T_pairOf : Cond.instanceMethod y_T_pairOf ∈ WS := ws_t (List.mem_of_getElem? (i := 343) (by decide +kernel)) (by decide +kernel)
theorem wm_N_slotOfEvent : Cond.instanceMethod y_N_slotOfEvent ∈ WS := ws_t (List.mem_of_getElem? (i := 349) (by decide +kernel)) (by decide +kernel)
theorem wm_T_pairOfSlots : Cond.static y_T_pairOfSlots ∈ WS := ws_t (List.mem_of_getElem? (i := 353) (by decide +kernel)) (by decide +kernel)
theorem wm_T_goalOf : Cond.instanceMethod y_T_goalOf ∈ WS := ws_t (List.mem_of_getElem? (i := 356) (by decide +kernel)) (by decide +kernel)
theorem wm_I_printActions : Cond.instanceMethod y_I_printActions ∈ WS := ws_t (List.mem_of_getElem? (i := 365) (by decide +kernel)) (by decide +kernel)
theorem wm_T_actionOf : Cond.instanceMethod y_T_actionOf ∈ WS := ws_t (List.mem_of_getElem? (i := 368) (by decide +kernel)) (by decide +kernel)
theorem wm_I_printAction : Cond.instanceMethod y_I_printAction ∈ WS := ws_t (List.mem_of_getElem? (i := 374) (by decide +kernel)) (by decide +kernel)
theorem wm_X_draw : Cond.instanceMethod y_X_draw ∈ WS := ws_t (List.mem_of_getElem? (i := 381) (by decide +kernel)) (by decide +kernel)
theorem wm_D_drawAll : Cond.instanceMethod y_D_drawAll ∈ WS := ws_t (List.mem_of_getElem? (i := 385) (by decide +kernel)) (by decide +kernel)
theorem wm_D_measure : Cond.instanceMethod y_D_measure ∈ WS := ws_t (List.mem_of_getElem? (i := 390) (by decide +kernel)) (by decide +kernel)
theorem wm_N_lengthOf : Cond.instanceMethod y_N_lengthOf ∈ WS := ws_t (List.mem_of_getElem? (i := 394) (by decide +kernel)) (by decide +kernel)
theorem wm_jM_max : Cond.static y_jM_max ∈ WS := ws_t (List.mem_of_getElem? (i := 398) (by decide +kernel)) (by decide +kernel)
theorem wm_D_widthOf : Cond.instanceMethod y_D_widthOf ∈ WS := ws_t (List.mem_of_getElem? (i := 403) (by decide +kernel)) (by decide +kernel)
theorem wm_D_drawHead : Cond.instanceMethod y_D_drawHead ∈ WS := ws_t (List.mem_of_getElem? (i := 409) (by decide +kernel)) (by decide +kernel)
theorem wm_B_addBlanks : Cond.instanceMethod y_B_addBlanks ∈ WS := ws_t (List.mem_of_getElem? (i := 412) (by decide +kernel)) (by decide +kernel)
theorem wm_D_drawName : Cond.instanceMethod y_D_drawName ∈ WS := ws_t (List.mem_of_getElem? (i := 418) (by decide +kernel)) (by decide +kernel)
theorem wm_D_endLine : Cond.instanceMethod y_D_endLine ∈ WS := ws_t (List.mem_of_getElem? (i := 423) (by decide +kernel)) (by decide +kernel)
theorem wm_B_dropBlanks : Cond.instanceMethod y_B_dropBlanks ∈ WS := ws_t (List.mem_of_getElem? (i := 426) (by decide +kernel)) (by decide +kernel)
theorem wm_D_drawState : Cond.instanceMethod y_D_drawState ∈ WS := ws_t (List.mem_of_getElem? (i := 431) (by decide +kernel)) (by decide +kernel)
theorem wm_D_drawGoal : Cond.instanceMethod y_D_drawGoal ∈ WS := ws_t (List.mem_of_getElem? (i := 435) (by decide +kernel)) (by decide +kernel)
theorem wm_X_count : Cond.instanceMethod y_X_count ∈ WS := ws_t (List.mem_of_getElem? (i := 438) (by decide +kernel)) (by decide +kernel)
theorem wm_T_missingPairs : Cond.instanceMethod y_T_missingPairs ∈ WS := ws_t (List.mem_of_getElem? (i := 445) (by decide +kernel)) (by decide +kernel)
theorem wm_T_isReached : Cond.instanceMethod y_T_isReached ∈ WS := ws_t (List.mem_of_getElem? (i := 449) (by decide +kernel)) (by decide +kernel)
theorem wm_T_missingPairsOf : Cond.instanceMethod y_T_missingPairsOf ∈ WS := ws_t (List.mem_of_getElem? (i := 454) (by decide +kernel)) (by decide +kernel)
theorem wm_W_feed : Cond.static y_W_feed ∈ WS := ws_t (List.mem_of_getElem? (i := 458) (by decide +kernel)) (by decide +kernel)
theorem wm_X_feed : Cond.instanceMethod y_X_feed ∈ WS := ws_t (List.mem_of_getElem? (i := 462) (by decide +kernel)) (by decide +kernel)
theorem wm_jT_init : Cond.instanceMethod y_jT_init ∈ WS := ws_t (List.mem_of_getElem? (i := 488) (by decide +kernel)) (by decide +kernel)
theorem wm_jT_fillInStackTrace : Cond.instanceMethod y_jT_fillInStackTrace ∈ WS := ws_t (List.mem_of_getElem? (i := 496) (by decide +kernel)) (by decide +kernel)
theorem wm_jX_init : Cond.instanceMethod y_jX_init ∈ WS := ws_t (List.mem_of_getElem? (i := 508) (by decide +kernel)) (by decide +kernel)
theorem wm_jR_init : Cond.instanceMethod y_jR_init ∈ WS := ws_t (List.mem_of_getElem? (i := 511) (by decide +kernel)) (by decide +kernel)
theorem wm_jE_init : Cond.instanceMethod y_jE_init ∈ WS := ws_t (List.mem_of_getElem? (i := 514) (by decide +kernel)) (by decide +kernel)
theorem wm_jT_init2 : Cond.instanceMethod y_jT_init2 ∈ WS := ws_t (List.mem_of_getElem? (i := 517) (by decide +kernel)) (by decide +kernel)
theorem wm_B_addInt : Cond.instanceMethod y_B_addInt ∈ WS := ws_t (List.mem_of_getElem? (i := 533) (by decide +kernel)) (by decide +kernel)
theorem wm_W_end : Cond.static y_W_end ∈ WS := ws_t (List.mem_of_getElem? (i := 537) (by decide +kernel)) (by decide +kernel)
theorem wm_X_end : Cond.instanceMethod y_X_end ∈ WS := ws_t (List.mem_of_getElem? (i := 541) (by decide +kernel)) (by decide +kernel)
theorem wm_jG_init : Cond.instanceMethod y_jG_init ∈ WS := ws_t (List.mem_of_getElem? (i := 555) (by decide +kernel)) (by decide +kernel)
theorem wm_W_read : Cond.static y_W_read ∈ WS := ws_t (List.mem_of_getElem? (i := 562) (by decide +kernel)) (by decide +kernel)
theorem wm_X_read : Cond.instanceMethod y_X_read ∈ WS := ws_t (List.mem_of_getElem? (i := 565) (by decide +kernel)) (by decide +kernel)
theorem wm_N_forget : Cond.instanceMethod y_N_forget ∈ WS := ws_t (List.mem_of_getElem? (i := 569) (by decide +kernel)) (by decide +kernel)
theorem wm_P_firstFault : Cond.instanceMethod y_P_firstFault ∈ WS := ws_t (List.mem_of_getElem? (i := 575) (by decide +kernel)) (by decide +kernel)
theorem wm_L_restart : Cond.instanceMethod y_L_restart ∈ WS := ws_t (List.mem_of_getElem? (i := 579) (by decide +kernel)) (by decide +kernel)
theorem wm_L_advance : Cond.instanceMethod y_L_advance ∈ WS := ws_t (List.mem_of_getElem? (i := 583) (by decide +kernel)) (by decide +kernel)
theorem wm_L_skipWhite : Cond.instanceMethod y_L_skipWhite ∈ WS := ws_t (List.mem_of_getElem? (i := 588) (by decide +kernel)) (by decide +kernel)
theorem wm_L_isLetter : Cond.static y_L_isLetter ∈ WS := ws_t (List.mem_of_getElem? (i := 591) (by decide +kernel)) (by decide +kernel)
theorem wm_L_skipName : Cond.instanceMethod y_L_skipName ∈ WS := ws_t (List.mem_of_getElem? (i := 595) (by decide +kernel)) (by decide +kernel)
theorem wm_L_isDigit : Cond.static y_L_isDigit ∈ WS := ws_t (List.mem_of_getElem? (i := 598) (by decide +kernel)) (by decide +kernel)
theorem wm_L_nameKind : Cond.instanceMethod y_L_nameKind ∈ WS := ws_t (List.mem_of_getElem? (i := 602) (by decide +kernel)) (by decide +kernel)
theorem wm_L_spells : Cond.instanceMethod y_L_spells ∈ WS := ws_t (List.mem_of_getElem? (i := 607) (by decide +kernel)) (by decide +kernel)
theorem wm_L_signKind : Cond.static y_L_signKind ∈ WS := ws_t (List.mem_of_getElem? (i := 620) (by decide +kernel)) (by decide +kernel)
theorem wm_P_step : Cond.instanceMethod y_P_step ∈ WS := ws_t (List.mem_of_getElem? (i := 624) (by decide +kernel)) (by decide +kernel)
theorem wm_P_beginStatement : Cond.instanceMethod y_P_beginStatement ∈ WS := ws_t (List.mem_of_getElem? (i := 628) (by decide +kernel)) (by decide +kernel)
theorem wm_P_beginNames : Cond.instanceMethod y_P_beginNames ∈ WS := ws_t (List.mem_of_getElem? (i := 632) (by decide +kernel)) (by decide +kernel)
theorem wm_P_goOn : Cond.instanceMethod y_P_goOn ∈ WS := ws_t (List.mem_of_getElem? (i := 636) (by decide +kernel)) (by decide +kernel)
theorem wm_P_beginPair : Cond.instanceMethod y_P_beginPair ∈ WS := ws_t (List.mem_of_getElem? (i := 640) (by decide +kernel)) (by decide +kernel)
theorem wm_P_want : Cond.instanceMethod y_P_want ∈ WS := ws_t (List.mem_of_getElem? (i := 644) (by decide +kernel)) (by decide +kernel)
theorem wm_P_takeNewName : Cond.instanceMethod y_P_takeNewName ∈ WS := ws_t (List.mem_of_getElem? (i := 648) (by decide +kernel)) (by decide +kernel)
theorem wm_N_isFull : Cond.instanceMethod y_N_isFull ∈ WS := ws_t (List.mem_of_getElem? (i := 651) (by decide +kernel)) (by decide +kernel)
theorem wm_N_slotOf : Cond.instanceMethod y_N_slotOf ∈ WS := ws_t (List.mem_of_getElem? (i := 655) (by decide +kernel)) (by decide +kernel)
theorem wm_N_isSame : Cond.instanceMethod y_N_isSame ∈ WS := ws_t (List.mem_of_getElem? (i := 660) (by decide +kernel)) (by decide +kernel)
theorem wm_N_tell : Cond.instanceMethod y_N_tell ∈ WS := ws_t (List.mem_of_getElem? (i := 663) (by decide +kernel)) (by decide +kernel)
theorem wm_N_slotBehindLast : Cond.instanceMethod y_N_slotBehindLast ∈ WS := ws_t (List.mem_of_getElem? (i := 668) (by decide +kernel)) (by decide +kernel)
theorem wm_P_commaOr : Cond.instanceMethod y_P_commaOr ∈ WS := ws_t (List.mem_of_getElem? (i := 672) (by decide +kernel)) (by decide +kernel)
theorem wm_P_takePairState : Cond.instanceMethod y_P_takePairState ∈ WS := ws_t (List.mem_of_getElem? (i := 676) (by decide +kernel)) (by decide +kernel)
theorem wm_P_findName : Cond.instanceMethod y_P_findName ∈ WS := ws_t (List.mem_of_getElem? (i := 680) (by decide +kernel)) (by decide +kernel)
theorem wm_N_sortOf : Cond.static y_N_sortOf ∈ WS := ws_t (List.mem_of_getElem? (i := 683) (by decide +kernel)) (by decide +kernel)
theorem wm_P_takePairEvent : Cond.instanceMethod y_P_takePairEvent ∈ WS := ws_t (List.mem_of_getElem? (i := 687) (by decide +kernel)) (by decide +kernel)
theorem wm_T_setNever : Cond.instanceMethod y_T_setNever ∈ WS := ws_t (List.mem_of_getElem? (i := 691) (by decide +kernel)) (by decide +kernel)
theorem wm_P_beginAction : Cond.instanceMethod y_P_beginAction ∈ WS := ws_t (List.mem_of_getElem? (i := 696) (by decide +kernel)) (by decide +kernel)
theorem wm_P_addAction : Cond.instanceMethod y_P_addAction ∈ WS := ws_t (List.mem_of_getElem? (i := 700) (by decide +kernel)) (by decide +kernel)
theorem wm_T_setAction : Cond.instanceMethod y_T_setAction ∈ WS := ws_t (List.mem_of_getElem? (i := 703) (by decide +kernel)) (by decide +kernel)
theorem wm_P_takeSentMessage : Cond.instanceMethod y_P_takeSentMessage ∈ WS := ws_t (List.mem_of_getElem? (i := 708) (by decide +kernel)) (by decide +kernel)
theorem wm_P_takeGoal : Cond.instanceMethod y_P_takeGoal ∈ WS := ws_t (List.mem_of_getElem? (i := 712) (by decide +kernel)) (by decide +kernel)
theorem wm_T_setRule : Cond.instanceMethod y_T_setRule ∈ WS := ws_t (List.mem_of_getElem? (i := 715) (by decide +kernel)) (by decide +kernel)
theorem wm_P_takeFirstState : Cond.instanceMethod y_P_takeFirstState ∈ WS := ws_t (List.mem_of_getElem? (i := 720) (by decide +kernel)) (by decide +kernel)
theorem wm_P_placeInText : Cond.instanceMethod y_P_placeInText ∈ WS := ws_t (List.mem_of_getElem? (i := 723) (by decide +kernel)) (by decide +kernel)
theorem wm_T_settle : Cond.instanceMethod y_T_settle ∈ WS := ws_t (List.mem_of_getElem? (i := 728) (by decide +kernel)) (by decide +kernel)
theorem wm_T_reachFrom : Cond.instanceMethod y_T_reachFrom ∈ WS := ws_t (List.mem_of_getElem? (i := 733) (by decide +kernel)) (by decide +kernel)
theorem wm_W_fault : Cond.static y_W_fault ∈ WS := ws_t (List.mem_of_getElem? (i := 736) (by decide +kernel)) (by decide +kernel)
theorem wm_X_fault : Cond.instanceMethod y_X_fault ∈ WS := ws_t (List.mem_of_getElem? (i := 740) (by decide +kernel)) (by decide +kernel)
theorem wm_jI_init : Cond.instanceMethod y_jI_init ∈ WS := ws_t (List.mem_of_getElem? (i := 754) (by decide +kernel)) (by decide +kernel)
theorem wm_W_next : Cond.static y_W_next ∈ WS := ws_t (List.mem_of_getElem? (i := 760) (by decide +kernel)) (by decide +kernel)
theorem wm_X_next : Cond.instanceMethod y_X_next ∈ WS := ws_t (List.mem_of_getElem? (i := 763) (by decide +kernel)) (by decide +kernel)
theorem wm_W_action : Cond.static y_W_action ∈ WS := ws_t (List.mem_of_getElem? (i := 769) (by decide +kernel)) (by decide +kernel)
theorem wm_X_action : Cond.instanceMethod y_X_action ∈ WS := ws_t (List.mem_of_getElem? (i := 772) (by decide +kernel)) (by decide +kernel)
theorem wm_W_missing : Cond.static y_W_missing ∈ WS := ws_t (List.mem_of_getElem? (i := 778) (by decide +kernel)) (by decide +kernel)
theorem wm_X_missing : Cond.instanceMethod y_X_missing ∈ WS := ws_t (List.mem_of_getElem? (i := 781) (by decide +kernel)) (by decide +kernel)
theorem wm_T_missingPair : Cond.instanceMethod y_T_missingPair ∈ WS := ws_t (List.mem_of_getElem? (i := 785) (by decide +kernel)) (by decide +kernel)
theorem wm_W_reached : Cond.static y_W_reached ∈ WS := ws_t (List.mem_of_getElem? (i := 790) (by decide +kernel)) (by decide +kernel)
theorem wm_X_reached : Cond.instanceMethod y_X_reached ∈ WS := ws_t (List.mem_of_getElem? (i := 793) (by decide +kernel)) (by decide +kernel)
theorem wm_W_message : Cond.static y_W_message ∈ WS := ws_t (List.mem_of_getElem? (i := 799) (by decide +kernel)) (by decide +kernel)
theorem wm_X_message : Cond.instanceMethod y_X_message ∈ WS := ws_t (List.mem_of_getElem? (i := 802) (by decide +kernel)) (by decide +kernel)
theorem wm_T_isSent : Cond.instanceMethod y_T_isSent ∈ WS := ws_t (List.mem_of_getElem? (i := 807) (by decide +kernel)) (by decide +kernel)
theorem wm_T_sends : Cond.instanceMethod y_T_sends ∈ WS := ws_t (List.mem_of_getElem? (i := 812) (by decide +kernel)) (by decide +kernel)
theorem wm_T_isAwaited : Cond.instanceMethod y_T_isAwaited ∈ WS := ws_t (List.mem_of_getElem? (i := 815) (by decide +kernel)) (by decide +kernel)
theorem wm_W_out : Cond.static y_W_out ∈ WS := ws_t (List.mem_of_getElem? (i := 819) (by decide +kernel)) (by decide +kernel)
theorem wm_X_out : Cond.instanceMethod y_X_out ∈ WS := ws_t (List.mem_of_getElem? (i := 822) (by decide +kernel)) (by decide +kernel)
theorem wm_W_again : Cond.static y_W_again ∈ WS := ws_t (List.mem_of_getElem? (i := 827) (by decide +kernel)) (by decide +kernel)
theorem wm_X_again : Cond.instanceMethod y_X_again ∈ WS := ws_t (List.mem_of_getElem? (i := 830) (by decide +kernel)) (by decide +kernel)
theorem wm_M_init : Cond.instanceMethod y_M_init ∈ WS := ws_t (List.mem_of_getElem? (i := 840) (by decide +kernel)) (by decide +kernel)
theorem wm_M_forget : Cond.instanceMethod y_M_forget ∈ WS := ws_t (List.mem_of_getElem? (i := 845) (by decide +kernel)) (by decide +kernel)
theorem wm_M_thrown : Cond.instanceMethod y_M_thrown ∈ WS := ws_t (List.mem_of_getElem? (i := 933) (by decide +kernel)) (by decide +kernel)
theorem wm_M_feed : Cond.instanceMethod y_M_feed ∈ WS := ws_t (List.mem_of_getElem? (i := 937) (by decide +kernel)) (by decide +kernel)
theorem wm_M_fail : Cond.instanceMethod y_M_fail ∈ WS := ws_t (List.mem_of_getElem? (i := 942) (by decide +kernel)) (by decide +kernel)
theorem wm_M_end : Cond.instanceMethod y_M_end ∈ WS := ws_t (List.mem_of_getElem? (i := 945) (by decide +kernel)) (by decide +kernel)
theorem wm_M_within : Cond.static y_M_within ∈ WS := ws_t (List.mem_of_getElem? (i := 949) (by decide +kernel)) (by decide +kernel)
theorem wm_M_read : Cond.instanceMethod y_M_read ∈ WS := ws_t (List.mem_of_getElem? (i := 952) (by decide +kernel)) (by decide +kernel)
theorem wm_M_advance : Cond.instanceMethod y_M_advance ∈ WS := ws_t (List.mem_of_getElem? (i := 957) (by decide +kernel)) (by decide +kernel)
theorem wm_M_passWhite : Cond.instanceMethod y_M_passWhite ∈ WS := ws_t (List.mem_of_getElem? (i := 961) (by decide +kernel)) (by decide +kernel)
theorem wm_M_isWhite : Cond.static y_M_isWhite ∈ WS := ws_t (List.mem_of_getElem? (i := 964) (by decide +kernel)) (by decide +kernel)
theorem wm_M_isSmall : Cond.static y_M_isSmall ∈ WS := ws_t (List.mem_of_getElem? (i := 967) (by decide +kernel)) (by decide +kernel)
theorem wm_M_wordHere : Cond.instanceMethod y_M_wordHere ∈ WS := ws_t (List.mem_of_getElem? (i := 971) (by decide +kernel)) (by decide +kernel)
theorem wm_M_tell : Cond.instanceMethod y_M_tell ∈ WS := ws_t (List.mem_of_getElem? (i := 975) (by decide +kernel)) (by decide +kernel)
theorem wm_M_readStatement : Cond.instanceMethod y_M_readStatement ∈ WS := ws_t (List.mem_of_getElem? (i := 979) (by decide +kernel)) (by decide +kernel)
theorem wm_M_readNames : Cond.instanceMethod y_M_readNames ∈ WS := ws_t (List.mem_of_getElem? (i := 983) (by decide +kernel)) (by decide +kernel)
theorem wm_M_newName : Cond.instanceMethod y_M_newName ∈ WS := ws_t (List.mem_of_getElem? (i := 987) (by decide +kernel)) (by decide +kernel)
theorem wm_M_find : Cond.instanceMethod y_M_find ∈ WS := ws_t (List.mem_of_getElem? (i := 991) (by decide +kernel)) (by decide +kernel)
theorem wm_M_isAt : Cond.instanceMethod y_M_isAt ∈ WS := ws_t (List.mem_of_getElem? (i := 995) (by decide +kernel)) (by decide +kernel)
theorem wm_M_comma : Cond.instanceMethod y_M_comma ∈ WS := ws_t (List.mem_of_getElem? (i := 999) (by decide +kernel)) (by decide +kernel)
theorem wm_M_isSign : Cond.instanceMethod y_M_isSign ∈ WS := ws_t (List.mem_of_getElem? (i := 1003) (by decide +kernel)) (by decide +kernel)
theorem wm_M_readRule : Cond.instanceMethod y_M_readRule ∈ WS := ws_t (List.mem_of_getElem? (i := 1007) (by decide +kernel)) (by decide +kernel)
theorem wm_M_takeState : Cond.instanceMethod y_M_takeState ∈ WS := ws_t (List.mem_of_getElem? (i := 1011) (by decide +kernel)) (by decide +kernel)
theorem wm_M_oldName : Cond.instanceMethod y_M_oldName ∈ WS := ws_t (List.mem_of_getElem? (i := 1015) (by decide +kernel)) (by decide +kernel)
theorem wm_M_takePair : Cond.instanceMethod y_M_takePair ∈ WS := ws_t (List.mem_of_getElem? (i := 1019) (by decide +kernel)) (by decide +kernel)
theorem wm_M_sign : Cond.instanceMethod y_M_sign ∈ WS := ws_t (List.mem_of_getElem? (i := 1023) (by decide +kernel)) (by decide +kernel)
theorem wm_M_readActions : Cond.instanceMethod y_M_readActions ∈ WS := ws_t (List.mem_of_getElem? (i := 1027) (by decide +kernel)) (by decide +kernel)
theorem wm_M_isWord : Cond.instanceMethod y_M_isWord ∈ WS := ws_t (List.mem_of_getElem? (i := 1031) (by decide +kernel)) (by decide +kernel)
theorem wm_M_readNever : Cond.instanceMethod y_M_readNever ∈ WS := ws_t (List.mem_of_getElem? (i := 1035) (by decide +kernel)) (by decide +kernel)
theorem wm_M_fault : Cond.instanceMethod y_M_fault ∈ WS := ws_t (List.mem_of_getElem? (i := 1038) (by decide +kernel)) (by decide +kernel)
theorem wm_M_next : Cond.instanceMethod y_M_next ∈ WS := ws_t (List.mem_of_getElem? (i := 1042) (by decide +kernel)) (by decide +kernel)
theorem wm_M_isPair : Cond.instanceMethod y_M_isPair ∈ WS := ws_t (List.mem_of_getElem? (i := 1047) (by decide +kernel)) (by decide +kernel)
theorem wm_M_events : Cond.instanceMethod y_M_events ∈ WS := ws_t (List.mem_of_getElem? (i := 1051) (by decide +kernel)) (by decide +kernel)
theorem wm_M_at : Cond.instanceMethod y_M_at ∈ WS := ws_t (List.mem_of_getElem? (i := 1055) (by decide +kernel)) (by decide +kernel)
theorem wm_M_slotOf : Cond.instanceMethod y_M_slotOf ∈ WS := ws_t (List.mem_of_getElem? (i := 1059) (by decide +kernel)) (by decide +kernel)
theorem wm_M_action : Cond.instanceMethod y_M_action ∈ WS := ws_t (List.mem_of_getElem? (i := 1062) (by decide +kernel)) (by decide +kernel)
theorem wm_M_missing : Cond.instanceMethod y_M_missing ∈ WS := ws_t (List.mem_of_getElem? (i := 1066) (by decide +kernel)) (by decide +kernel)
theorem wm_M_reached : Cond.instanceMethod y_M_reached ∈ WS := ws_t (List.mem_of_getElem? (i := 1070) (by decide +kernel)) (by decide +kernel)
theorem wm_M_reach : Cond.instanceMethod y_M_reach ∈ WS := ws_t (List.mem_of_getElem? (i := 1075) (by decide +kernel)) (by decide +kernel)
theorem wm_M_message : Cond.instanceMethod y_M_message ∈ WS := ws_t (List.mem_of_getElem? (i := 1078) (by decide +kernel)) (by decide +kernel)
theorem wm_M_sends : Cond.instanceMethod y_M_sends ∈ WS := ws_t (List.mem_of_getElem? (i := 1083) (by decide +kernel)) (by decide +kernel)
theorem wm_M_print : Cond.instanceMethod y_M_print ∈ WS := ws_t (List.mem_of_getElem? (i := 1086) (by decide +kernel)) (by decide +kernel)
theorem wm_M_printNames : Cond.instanceMethod y_M_printNames ∈ WS := ws_t (List.mem_of_getElem? (i := 1091) (by decide +kernel)) (by decide +kernel)
theorem wm_M_sayWord : Cond.instanceMethod y_M_sayWord ∈ WS := ws_t (List.mem_of_getElem? (i := 1095) (by decide +kernel)) (by decide +kernel)
theorem wm_M_say : Cond.instanceMethod y_M_say ∈ WS := ws_t (List.mem_of_getElem? (i := 1099) (by decide +kernel)) (by decide +kernel)
theorem wm_M_sayName : Cond.instanceMethod y_M_sayName ∈ WS := ws_t (List.mem_of_getElem? (i := 1103) (by decide +kernel)) (by decide +kernel)
theorem wm_M_endLine : Cond.instanceMethod y_M_endLine ∈ WS := ws_t (List.mem_of_getElem? (i := 1107) (by decide +kernel)) (by decide +kernel)
theorem wm_M_printPair : Cond.instanceMethod y_M_printPair ∈ WS := ws_t (List.mem_of_getElem? (i := 1111) (by decide +kernel)) (by decide +kernel)
theorem wm_M_sayEvent : Cond.instanceMethod y_M_sayEvent ∈ WS := ws_t (List.mem_of_getElem? (i := 1115) (by decide +kernel)) (by decide +kernel)
theorem wm_M_printActions : Cond.instanceMethod y_M_printActions ∈ WS := ws_t (List.mem_of_getElem? (i := 1119) (by decide +kernel)) (by decide +kernel)
theorem wm_M_draw : Cond.instanceMethod y_M_draw ∈ WS := ws_t (List.mem_of_getElem? (i := 1122) (by decide +kernel)) (by decide +kernel)
theorem wm_M_lengthOf : Cond.instanceMethod y_M_lengthOf ∈ WS := ws_t (List.mem_of_getElem? (i := 1127) (by decide +kernel)) (by decide +kernel)
theorem wm_M_fill : Cond.instanceMethod y_M_fill ∈ WS := ws_t (List.mem_of_getElem? (i := 1131) (by decide +kernel)) (by decide +kernel)
theorem wm_M_drawCell : Cond.instanceMethod y_M_drawCell ∈ WS := ws_t (List.mem_of_getElem? (i := 1135) (by decide +kernel)) (by decide +kernel)
theorem wm_M_widthOf : Cond.instanceMethod y_M_widthOf ∈ WS := ws_t (List.mem_of_getElem? (i := 1139) (by decide +kernel)) (by decide +kernel)
theorem wm_M_endDrawn : Cond.instanceMethod y_M_endDrawn ∈ WS := ws_t (List.mem_of_getElem? (i := 1143) (by decide +kernel)) (by decide +kernel)
theorem wm_M_out : Cond.instanceMethod y_M_out ∈ WS := ws_t (List.mem_of_getElem? (i := 1146) (by decide +kernel)) (by decide +kernel)
theorem wm_M_again : Cond.instanceMethod y_M_again ∈ WS := ws_t (List.mem_of_getElem? (i := 1150) (by decide +kernel)) (by decide +kernel)
theorem wm_M_count : Cond.instanceMethod y_M_count ∈ WS := ws_t (List.mem_of_getElem? (i := 1154) (by decide +kernel)) (by decide +kernel)
theorem wm_M_missingOf : Cond.instanceMethod y_M_missingOf ∈ WS := ws_t (List.mem_of_getElem? (i := 1159) (by decide +kernel)) (by decide +kernel)
theorem ml_W_53 : Cond.methodLink R_W 53 y_X_init ∈ WS := ws_t (List.mem_of_getElem? (i := 25) (by decide +kernel)) (by decide +kernel)
theorem nk_X_init : NK y_X_init 0 := by unfold NK; decide +kernel
theorem k_W_53 : IK R_W 53 y_X_init 0 := ⟨ml_W_53, wm_X_init, wi_X, nk_X_init, rfl⟩
theorem ml_X_1 : Cond.methodLink R_X 1 y_jO_init ∈ WS := ws_t (List.mem_of_getElem? (i := 28) (by decide +kernel)) (by decide +kernel)
theorem ml_X_11 : Cond.methodLink R_X 11 y_B_init ∈ WS := ws_t (List.mem_of_getElem? (i := 33) (by decide +kernel)) (by decide +kernel)
theorem nk_B_init : NK y_B_init 1 := by unfold NK; decide +kernel
theorem k_X_11 : IK R_X 11 y_B_init 1 := ⟨ml_X_11, wm_B_init, wi_B, nk_B_init, rfl⟩
theorem ml_B_3 : Cond.methodLink R_B 3 y_jO_init ∈ WS := ws_t (List.mem_of_getElem? (i := 36) (by decide +kernel)) (by decide +kernel)
theorem ml_N_5 : Cond.methodLink R_N 5 y_jO_init ∈ WS := ws_t (List.mem_of_getElem? (i := 57) (by decide +kernel)) (by decide +kernel)
theorem ml_X_30 : Cond.methodLink R_X 30 y_T_init ∈ WS := ws_t (List.mem_of_getElem? (i := 71) (by decide +kernel)) (by decide +kernel)
theorem nk_T_init : NK y_T_init 1 := by unfold NK; decide +kernel
theorem k_X_30 : IK R_X 30 y_T_init 1 := ⟨ml_X_30, wm_T_init, wi_T, nk_T_init, rfl⟩
theorem ml_T_5 : Cond.methodLink R_T 5 y_jO_init ∈ WS := ws_t (List.mem_of_getElem? (i := 74) (by decide +kernel)) (by decide +kernel)
theorem ml_T_27 : Cond.methodLink R_T 27 y_T_forget ∈ WS := ws_t (List.mem_of_getElem? (i := 75) (by decide +kernel)) (by decide +kernel)
theorem nk_T_forget : NK y_T_forget 0 := by unfold NK; decide +kernel
theorem se_T_forget : Cond.selects R_T y_T_forget y_T_forget ∈ WS := ws_t (List.mem_of_getElem? (i := 77) (by decide +kernel)) (by decide +kernel)
theorem k_T_27 : VK R_T 27 R_T y_T_forget 0 := ⟨ml_T_27, wm_T_forget, se_T_forget, wi_T, rfl, nk_T_forget⟩
theorem ml_T_30 : Cond.methodLink R_T 30 y_jA_fill ∈ WS := ws_t (List.mem_of_getElem? (i := 79) (by decide +kernel)) (by decide +kernel)
theorem nk_jA_fill : NK y_jA_fill 2 := by unfold NK; decide +kernel
theorem k_T_30 : SK R_T 30 y_jA_fill 2 := ⟨ml_T_30, wm_jA_fill, wi_jA, nk_jA_fill⟩
theorem ml_X_41 : Cond.methodLink R_X 41 y_L_init ∈ WS := ws_t (List.mem_of_getElem? (i := 116) (by decide +kernel)) (by decide +kernel)
theorem nk_L_init : NK y_L_init 1 := by unfold NK; decide +kernel
theorem k_X_41 : IK R_X 41 y_L_init 1 := ⟨ml_X_41, wm_L_init, wi_L, nk_L_init, rfl⟩
theorem ml_L_3 : Cond.methodLink R_L 3 y_jO_init ∈ WS := ws_t (List.mem_of_getElem? (i := 119) (by decide +kernel)) (by decide +kernel)
theorem ml_X_44 : Cond.methodLink R_X 44 y_P_init ∈ WS := ws_t (List.mem_of_getElem? (i := 138) (by decide +kernel)) (by decide +kernel)
theorem nk_P_init : NK y_P_init 3 := by unfold NK; decide +kernel
theorem k_X_44 : IK R_X 44 y_P_init 3 := ⟨ml_X_44, wm_P_init, wi_P, nk_P_init, rfl⟩
theorem ml_P_3 : Cond.methodLink R_P 3 y_jO_init ∈ WS := ws_t (List.mem_of_getElem? (i := 141) (by decide +kernel)) (by decide +kernel)
theorem ml_X_53 : Cond.methodLink R_X 53 y_I_init ∈ WS := ws_t (List.mem_of_getElem? (i := 175) (by decide +kernel)) (by decide +kernel)
theorem nk_I_init : NK y_I_init 3 := by unfold NK; decide +kernel
theorem k_X_53 : IK R_X 53 y_I_init 3 := ⟨ml_X_53, wm_I_init, wi_I, nk_I_init, rfl⟩
theorem ml_I_3 : Cond.methodLink R_I 3 y_jO_init ∈ WS := ws_t (List.mem_of_getElem? (i := 178) (by decide +kernel)) (by decide +kernel)
theorem ml_X_62 : Cond.methodLink R_X 62 y_D_init ∈ WS := ws_t (List.mem_of_getElem? (i := 191) (by decide +kernel)) (by decide +kernel)
theorem nk_D_init : NK y_D_init 3 := by unfold NK; decide +kernel
theorem k_X_62 : IK R_X 62 y_D_init 3 := ⟨ml_X_62, wm_D_init, wi_D, nk_D_init, rfl⟩
theorem ml_D_3 : Cond.methodLink R_D 3 y_jO_init ∈ WS := ws_t (List.mem_of_getElem? (i := 194) (by decide +kernel)) (by decide +kernel)
theorem ml_W_94 : Cond.methodLink R_W 94 y_X_print ∈ WS := ws_t (List.mem_of_getElem? (i := 239) (by decide +kernel)) (by decide +kernel)
theorem nk_X_print : NK y_X_print 0 := by unfold NK; decide +kernel
theorem se_X_print : Cond.selects R_X y_X_print y_X_print ∈ WS := ws_t (List.mem_of_getElem? (i := 241) (by decide +kernel)) (by decide +kernel)
theorem k_W_94 : VK R_W 94 R_X y_X_print 0 := ⟨ml_W_94, wm_X_print, se_X_print, wi_X, rfl, nk_X_print⟩
theorem ml_X_163 : Cond.methodLink R_X 163 y_I_printAll ∈ WS := ws_t (List.mem_of_getElem? (i := 243) (by decide +kernel)) (by decide +kernel)
theorem nk_I_printAll : NK y_I_printAll 0 := by unfold NK; decide +kernel
theorem se_I_printAll : Cond.selects R_I y_I_printAll y_I_printAll ∈ WS := ws_t (List.mem_of_getElem? (i := 245) (by decide +kernel)) (by decide +kernel)
theorem k_X_163 : VK R_X 163 R_I y_I_printAll 0 := ⟨ml_X_163, wm_I_printAll, se_I_printAll, wi_I, rfl, nk_I_printAll⟩
theorem ml_I_31 : Cond.methodLink R_I 31 y_N_states ∈ WS := ws_t (List.mem_of_getElem? (i := 248) (by decide +kernel)) (by decide +kernel)
theorem nk_N_states : NK y_N_states 0 := by unfold NK; decide +kernel
theorem se_N_states : Cond.selects R_N y_N_states y_N_states ∈ WS := ws_t (List.mem_of_getElem? (i := 250) (by decide +kernel)) (by decide +kernel)
theorem k_I_31 : VK R_I 31 R_N y_N_states 0 := ⟨ml_I_31, wm_N_states, se_N_states, wi_N, rfl, nk_N_states⟩
theorem ml_I_37 : Cond.methodLink R_I 37 y_I_printNames ∈ WS := ws_t (List.mem_of_getElem? (i := 252) (by decide +kernel)) (by decide +kernel)
theorem nk_I_printNames : NK y_I_printNames 3 := by unfold NK; decide +kernel
theorem se_I_printNames : Cond.selects R_I y_I_printNames y_I_printNames ∈ WS := ws_p (q := (y_I_printNames, 3)) (List.mem_of_getElem? (i := 0) (by decide +kernel)) (by decide +kernel)
theorem k_I_37 : VK R_I 37 R_I y_I_printNames 3 := ⟨ml_I_37, wm_I_printNames, se_I_printNames, wi_I, rfl, nk_I_printNames⟩
theorem ml_I_58 : Cond.methodLink R_I 58 y_B_addText ∈ WS := ws_t (List.mem_of_getElem? (i := 256) (by decide +kernel)) (by decide +kernel)
theorem nk_B_addText : NK y_B_addText 1 := by unfold NK; decide +kernel
theorem se_B_addText : Cond.selects R_B y_B_addText y_B_addText ∈ WS := ws_t (List.mem_of_getElem? (i := 258) (by decide +kernel)) (by decide +kernel)
theorem k_I_58 : VK R_I 58 R_B y_B_addText 1 := ⟨ml_I_58, wm_B_addText, se_B_addText, wi_B, rfl, nk_B_addText⟩
theorem ml_B_23 : Cond.methodLink R_B 23 y_jS_length ∈ WS := ws_t (List.mem_of_getElem? (i := 260) (by decide +kernel)) (by decide +kernel)
theorem nk_jS_length : NK y_jS_length 0 := by unfold NK; decide +kernel
theorem se_jS_length : Cond.selects R_jS y_jS_length y_jS_length ∈ WS := ws_t (List.mem_of_getElem? (i := 262) (by decide +kernel)) (by decide +kernel)
theorem k_B_23 : VK R_B 23 R_jS y_jS_length 0 := ⟨ml_B_23, wm_jS_length, se_jS_length, wi_jS, rfl, nk_jS_length⟩
theorem ml_jS_335 : Cond.methodLink R_jS 335 y_jS_coder ∈ WS := ws_t (List.mem_of_getElem? (i := 264) (by decide +kernel)) (by decide +kernel)
theorem nk_jS_coder : NK y_jS_coder 0 := by unfold NK; decide +kernel
theorem se_jS_coder : Cond.selects R_jS y_jS_coder y_jS_coder ∈ WS := ws_t (List.mem_of_getElem? (i := 266) (by decide +kernel)) (by decide +kernel)
theorem k_jS_335 : VK R_jS 335 R_jS y_jS_coder 0 := ⟨ml_jS_335, wm_jS_coder, se_jS_coder, wi_jS, rfl, nk_jS_coder⟩
theorem ml_B_28 : Cond.methodLink R_B 28 y_jS_charAt ∈ WS := ws_t (List.mem_of_getElem? (i := 270) (by decide +kernel)) (by decide +kernel)
theorem nk_jS_charAt : NK y_jS_charAt 1 := by unfold NK; decide +kernel
theorem se_jS_charAt : Cond.selects R_jS y_jS_charAt y_jS_charAt ∈ WS := ws_t (List.mem_of_getElem? (i := 272) (by decide +kernel)) (by decide +kernel)
theorem k_B_28 : VK R_B 28 R_jS y_jS_charAt 1 := ⟨ml_B_28, wm_jS_charAt, se_jS_charAt, wi_jS, rfl, nk_jS_charAt⟩
theorem ml_jS_492 : Cond.methodLink R_jS 492 y_jS_isLatin1 ∈ WS := ws_t (List.mem_of_getElem? (i := 274) (by decide +kernel)) (by decide +kernel)
theorem nk_jS_isLatin1 : NK y_jS_isLatin1 0 := by unfold NK; decide +kernel
theorem se_jS_isLatin1 : Cond.selects R_jS y_jS_isLatin1 y_jS_isLatin1 ∈ WS := ws_t (List.mem_of_getElem? (i := 276) (by decide +kernel)) (by decide +kernel)
theorem k_jS_492 : VK R_jS 492 R_jS y_jS_isLatin1 0 := ⟨ml_jS_492, wm_jS_isLatin1, se_jS_isLatin1, wi_jS, rfl, nk_jS_isLatin1⟩
theorem ml_jS_495 : Cond.methodLink R_jS 495 y_jL_charAt ∈ WS := ws_t (List.mem_of_getElem? (i := 278) (by decide +kernel)) (by decide +kernel)
theorem nk_jL_charAt : NK y_jL_charAt 2 := by unfold NK; decide +kernel
theorem k_jS_495 : SK R_jS 495 y_jL_charAt 2 := ⟨ml_jS_495, wm_jL_charAt, wi_jL, nk_jL_charAt⟩
theorem ml_jL_9 : Cond.methodLink R_jL 9 y_jS_checkIndex ∈ WS := ws_t (List.mem_of_getElem? (i := 281) (by decide +kernel)) (by decide +kernel)
theorem nk_jS_checkIndex : NK y_jS_checkIndex 2 := by unfold NK; decide +kernel
theorem k_jL_9 : SK R_jL 9 y_jS_checkIndex 2 := ⟨ml_jL_9, wm_jS_checkIndex, wi_jS, nk_jS_checkIndex⟩
theorem ml_jS_1059 : Cond.methodLink R_jS 1059 y_jP_checkIndex ∈ WS := ws_t (List.mem_of_getElem? (i := 286) (by decide +kernel)) (by decide +kernel)
theorem nk_jP_checkIndex : NK y_jP_checkIndex 3 := by unfold NK; decide +kernel
theorem k_jS_1059 : SK R_jS 1059 y_jP_checkIndex 3 := ⟨ml_jS_1059, wm_jP_checkIndex, wi_jP, nk_jP_checkIndex⟩
theorem ml_jS_498 : Cond.methodLink R_jS 498 y_jU_charAt ∈ WS := ws_t (List.mem_of_getElem? (i := 289) (by decide +kernel)) (by decide +kernel)
theorem nk_jU_charAt : NK y_jU_charAt 2 := by unfold NK; decide +kernel
theorem k_jS_498 : SK R_jS 498 y_jU_charAt 2 := ⟨ml_jS_498, wm_jU_charAt, wi_jU, nk_jU_charAt⟩
theorem ml_jU_67 : Cond.methodLink R_jU 67 y_jU_checkIndex ∈ WS := ws_t (List.mem_of_getElem? (i := 292) (by decide +kernel)) (by decide +kernel)
theorem nk_jU_checkIndex : NK y_jU_checkIndex 2 := by unfold NK; decide +kernel
theorem k_jU_67 : SK R_jU 67 y_jU_checkIndex 2 := ⟨ml_jU_67, wm_jU_checkIndex, wi_jU, nk_jU_checkIndex⟩
theorem ml_jU_48 : Cond.methodLink R_jU 48 y_jU_length ∈ WS := ws_t (List.mem_of_getElem? (i := 295) (by decide +kernel)) (by decide +kernel)
theorem nk_jU_length : NK y_jU_length 1 := by unfold NK; decide +kernel
theorem k_jU_48 : SK R_jU 48 y_jU_length 1 := ⟨ml_jU_48, wm_jU_length, wi_jU, nk_jU_length⟩
theorem ml_jU_414 : Cond.methodLink R_jU 414 y_jS_checkIndex ∈ WS := ws_t (List.mem_of_getElem? (i := 298) (by decide +kernel)) (by decide +kernel)
theorem k_jU_414 : SK R_jU 414 y_jS_checkIndex 2 := ⟨ml_jU_414, wm_jS_checkIndex, wi_jS, nk_jS_checkIndex⟩
theorem ml_jU_71 : Cond.methodLink R_jU 71 y_jU_getChar ∈ WS := ws_t (List.mem_of_getElem? (i := 299) (by decide +kernel)) (by decide +kernel)
theorem nk_jU_getChar : NK y_jU_getChar 2 := by unfold NK; decide +kernel
theorem k_jU_71 : SK R_jU 71 y_jU_getChar 2 := ⟨ml_jU_71, wm_jU_getChar, wi_jU, nk_jU_getChar⟩
theorem ml_B_19 : Cond.methodLink R_B 19 y_B_add ∈ WS := ws_t (List.mem_of_getElem? (i := 308) (by decide +kernel)) (by decide +kernel)
theorem nk_B_add : NK y_B_add 1 := by unfold NK; decide +kernel
theorem se_B_add : Cond.selects R_B y_B_add y_B_add ∈ WS := ws_t (List.mem_of_getElem? (i := 310) (by decide +kernel)) (by decide +kernel)
theorem k_B_19 : VK R_B 19 R_B y_B_add 1 := ⟨ml_B_19, wm_B_add, se_B_add, wi_B, rfl, nk_B_add⟩
theorem ml_I_62 : Cond.methodLink R_I 62 y_N_write ∈ WS := ws_t (List.mem_of_getElem? (i := 313) (by decide +kernel)) (by decide +kernel)
theorem nk_N_write : NK y_N_write 2 := by unfold NK; decide +kernel
theorem se_N_write : Cond.selects R_N y_N_write y_N_write ∈ WS := ws_t (List.mem_of_getElem? (i := 315) (by decide +kernel)) (by decide +kernel)
theorem k_I_62 : VK R_I 62 R_N y_N_write 2 := ⟨ml_I_62, wm_N_write, se_N_write, wi_N, rfl, nk_N_write⟩
theorem ml_N_54 : Cond.methodLink R_N 54 y_B_add ∈ WS := ws_t (List.mem_of_getElem? (i := 317) (by decide +kernel)) (by decide +kernel)
theorem k_N_54 : VK R_N 54 R_B y_B_add 1 := ⟨ml_N_54, wm_B_add, se_B_add, wi_B, rfl, nk_B_add⟩
theorem ml_I_66 : Cond.methodLink R_I 66 y_I_endLine ∈ WS := ws_t (List.mem_of_getElem? (i := 318) (by decide +kernel)) (by decide +kernel)
theorem nk_I_endLine : NK y_I_endLine 0 := by unfold NK; decide +kernel
theorem se_I_endLine : Cond.selects R_I y_I_endLine y_I_endLine ∈ WS := ws_p (q := (y_I_endLine, 3)) (List.mem_of_getElem? (i := 1) (by decide +kernel)) (by decide +kernel)
theorem k_I_66 : VK R_I 66 R_I y_I_endLine 0 := ⟨ml_I_66, wm_I_endLine, se_I_endLine, wi_I, rfl, nk_I_endLine⟩
theorem ml_I_76 : Cond.methodLink R_I 76 y_B_add ∈ WS := ws_t (List.mem_of_getElem? (i := 322) (by decide +kernel)) (by decide +kernel)
theorem k_I_76 : VK R_I 76 R_B y_B_add 1 := ⟨ml_I_76, wm_B_add, se_B_add, wi_B, rfl, nk_B_add⟩
theorem ml_I_43 : Cond.methodLink R_I 43 y_N_asks ∈ WS := ws_t (List.mem_of_getElem? (i := 324) (by decide +kernel)) (by decide +kernel)
theorem nk_N_asks : NK y_N_asks 0 := by unfold NK; decide +kernel
theorem se_N_asks : Cond.selects R_N y_N_asks y_N_asks ∈ WS := ws_t (List.mem_of_getElem? (i := 326) (by decide +kernel)) (by decide +kernel)
theorem k_I_43 : VK R_I 43 R_N y_N_asks 0 := ⟨ml_I_43, wm_N_asks, se_N_asks, wi_N, rfl, nk_N_asks⟩
theorem ml_I_48 : Cond.methodLink R_I 48 y_N_messages ∈ WS := ws_t (List.mem_of_getElem? (i := 329) (by decide +kernel)) (by decide +kernel)
theorem nk_N_messages : NK y_N_messages 0 := by unfold NK; decide +kernel
theorem se_N_messages : Cond.selects R_N y_N_messages y_N_messages ∈ WS := ws_t (List.mem_of_getElem? (i := 331) (by decide +kernel)) (by decide +kernel)
theorem k_I_48 : VK R_I 48 R_N y_N_messages 0 := ⟨ml_I_48, wm_N_messages, se_N_messages, wi_N, rfl, nk_N_messages⟩
theorem ml_I_69 : Cond.methodLink R_I 69 y_N_events ∈ WS := ws_t (List.mem_of_getElem? (i := 334) (by decide +kernel)) (by decide +kernel)
theorem nk_N_events : NK y_N_events 0 := by unfold NK; decide +kernel
theorem se_N_events : Cond.selects R_N y_N_events y_N_events ∈ WS := ws_t (List.mem_of_getElem? (i := 336) (by decide +kernel)) (by decide +kernel)
theorem k_I_69 : VK R_I 69 R_N y_N_events 0 := ⟨ml_I_69, wm_N_events, se_N_events, wi_N, rfl, nk_N_events⟩
theorem ml_I_72 : Cond.methodLink R_I 72 y_I_printPair ∈ WS := ws_t (List.mem_of_getElem? (i := 338) (by decide +kernel)) (by decide +kernel)
theorem nk_I_printPair : NK y_I_printPair 2 := by unfold NK; decide +kernel
theorem se_I_printPair : Cond.selects R_I y_I_printPair y_I_printPair ∈ WS := ws_p (q := (y_I_printPair, 3)) (List.mem_of_getElem? (i := 2) (by decide +kernel)) (by decide +kernel)
theorem k_I_72 : VK R_I 72 R_I y_I_printPair 2 := ⟨ml_I_72, wm_I_printPair, se_I_printPair, wi_I, rfl, nk_I_printPair⟩
theorem ml_I_82 : Cond.methodLink R_I 82 y_T_pairOf ∈ WS := ws_t (List.mem_of_getElem? (i := 342) (by decide +kernel)) (by decide +kernel)
theorem nk_T_pairOf : NK y_T_pairOf 2 := by unfold NK; decide +kernel
theorem se_T_pairOf : Cond.selects R_T y_T_pairOf y_T_pairOf ∈ WS := ws_t (List.mem_of_getElem? (i := 344) (by decide +kernel)) (by decide +kernel)
theorem k_I_82 : VK R_I 82 R_T y_T_pairOf 2 := ⟨ml_I_82, wm_T_pairOf, se_T_pairOf, wi_T, rfl, nk_T_pairOf⟩
theorem ml_T_46 : Cond.methodLink R_T 46 y_N_states ∈ WS := ws_t (List.mem_of_getElem? (i := 346) (by decide +kernel)) (by decide +kernel)
theorem k_T_46 : VK R_T 46 R_N y_N_states 0 := ⟨ml_T_46, wm_N_states, se_N_states, wi_N, rfl, nk_N_states⟩
theorem ml_T_50 : Cond.methodLink R_T 50 y_N_events ∈ WS := ws_t (List.mem_of_getElem? (i := 347) (by decide +kernel)) (by decide +kernel)
theorem k_T_50 : VK R_T 50 R_N y_N_events 0 := ⟨ml_T_50, wm_N_events, se_N_events, wi_N, rfl, nk_N_events⟩
theorem ml_T_53 : Cond.methodLink R_T 53 y_N_slotOfEvent ∈ WS := ws_t (List.mem_of_getElem? (i := 348) (by decide +kernel)) (by decide +kernel)
theorem nk_N_slotOfEvent : NK y_N_slotOfEvent 1 := by unfold NK; decide +kernel
theorem se_N_slotOfEvent : Cond.selects R_N y_N_slotOfEvent y_N_slotOfEvent ∈ WS := ws_t (List.mem_of_getElem? (i := 350) (by decide +kernel)) (by decide +kernel)
theorem k_T_53 : VK R_T 53 R_N y_N_slotOfEvent 1 := ⟨ml_T_53, wm_N_slotOfEvent, se_N_slotOfEvent, wi_N, rfl, nk_N_slotOfEvent⟩
theorem ml_T_57 : Cond.methodLink R_T 57 y_T_pairOfSlots ∈ WS := ws_t (List.mem_of_getElem? (i := 352) (by decide +kernel)) (by decide +kernel)
theorem nk_T_pairOfSlots : NK y_T_pairOfSlots 2 := by unfold NK; decide +kernel
theorem k_T_57 : SK R_T 57 y_T_pairOfSlots 2 := ⟨ml_T_57, wm_T_pairOfSlots, wi_T, nk_T_pairOfSlots⟩
theorem ml_I_86 : Cond.methodLink R_I 86 y_T_goalOf ∈ WS := ws_t (List.mem_of_getElem? (i := 355) (by decide +kernel)) (by decide +kernel)
theorem nk_T_goalOf : NK y_T_goalOf 2 := by unfold NK; decide +kernel
theorem se_T_goalOf : Cond.selects R_T y_T_goalOf y_T_goalOf ∈ WS := ws_t (List.mem_of_getElem? (i := 357) (by decide +kernel)) (by decide +kernel)
theorem k_I_86 : VK R_I 86 R_T y_T_goalOf 2 := ⟨ml_I_86, wm_T_goalOf, se_T_goalOf, wi_T, rfl, nk_T_goalOf⟩
theorem ml_T_61 : Cond.methodLink R_T 61 y_T_pairOf ∈ WS := ws_t (List.mem_of_getElem? (i := 359) (by decide +kernel)) (by decide +kernel)
theorem k_T_61 : VK R_T 61 R_T y_T_pairOf 2 := ⟨ml_T_61, wm_T_pairOf, se_T_pairOf, wi_T, rfl, nk_T_pairOf⟩
theorem ml_I_93 : Cond.methodLink R_I 93 y_N_slotOfEvent ∈ WS := ws_t (List.mem_of_getElem? (i := 362) (by decide +kernel)) (by decide +kernel)
theorem k_I_93 : VK R_I 93 R_N y_N_slotOfEvent 1 := ⟨ml_I_93, wm_N_slotOfEvent, se_N_slotOfEvent, wi_N, rfl, nk_N_slotOfEvent⟩
theorem ml_I_97 : Cond.methodLink R_I 97 y_I_printActions ∈ WS := ws_t (List.mem_of_getElem? (i := 363) (by decide +kernel)) (by decide +kernel)
theorem nk_I_printActions : NK y_I_printActions 1 := by unfold NK; decide +kernel
theorem se_I_printActions : Cond.selects R_I y_I_printActions y_I_printActions ∈ WS := ws_p (q := (y_I_printActions, 3)) (List.mem_of_getElem? (i := 3) (by decide +kernel)) (by decide +kernel)
theorem k_I_97 : VK R_I 97 R_I y_I_printActions 1 := ⟨ml_I_97, wm_I_printActions, se_I_printActions, wi_I, rfl, nk_I_printActions⟩
theorem ml_I_102 : Cond.methodLink R_I 102 y_T_actionOf ∈ WS := ws_t (List.mem_of_getElem? (i := 367) (by decide +kernel)) (by decide +kernel)
theorem nk_T_actionOf : NK y_T_actionOf 2 := by unfold NK; decide +kernel
theorem se_T_actionOf : Cond.selects R_T y_T_actionOf y_T_actionOf ∈ WS := ws_t (List.mem_of_getElem? (i := 369) (by decide +kernel)) (by decide +kernel)
theorem k_I_102 : VK R_I 102 R_T y_T_actionOf 2 := ⟨ml_I_102, wm_T_actionOf, se_T_actionOf, wi_T, rfl, nk_T_actionOf⟩
theorem ml_I_107 : Cond.methodLink R_I 107 y_I_printAction ∈ WS := ws_t (List.mem_of_getElem? (i := 372) (by decide +kernel)) (by decide +kernel)
theorem nk_I_printAction : NK y_I_printAction 1 := by unfold NK; decide +kernel
theorem se_I_printAction : Cond.selects R_I y_I_printAction y_I_printAction ∈ WS := ws_p (q := (y_I_printAction, 3)) (List.mem_of_getElem? (i := 4) (by decide +kernel)) (by decide +kernel)
theorem k_I_107 : VK R_I 107 R_I y_I_printAction 1 := ⟨ml_I_107, wm_I_printAction, se_I_printAction, wi_I, rfl, nk_I_printAction⟩
theorem ml_W_98 : Cond.methodLink R_W 98 y_X_draw ∈ WS := ws_t (List.mem_of_getElem? (i := 380) (by decide +kernel)) (by decide +kernel)
theorem nk_X_draw : NK y_X_draw 0 := by unfold NK; decide +kernel
theorem se_X_draw : Cond.selects R_X y_X_draw y_X_draw ∈ WS := ws_t (List.mem_of_getElem? (i := 382) (by decide +kernel)) (by decide +kernel)
theorem k_W_98 : VK R_W 98 R_X y_X_draw 0 := ⟨ml_W_98, wm_X_draw, se_X_draw, wi_X, rfl, nk_X_draw⟩
theorem ml_X_166 : Cond.methodLink R_X 166 y_D_drawAll ∈ WS := ws_t (List.mem_of_getElem? (i := 384) (by decide +kernel)) (by decide +kernel)
theorem nk_D_drawAll : NK y_D_drawAll 0 := by unfold NK; decide +kernel
theorem se_D_drawAll : Cond.selects R_D y_D_drawAll y_D_drawAll ∈ WS := ws_t (List.mem_of_getElem? (i := 386) (by decide +kernel)) (by decide +kernel)
theorem k_X_166 : VK R_X 166 R_D y_D_drawAll 0 := ⟨ml_X_166, wm_D_drawAll, se_D_drawAll, wi_D, rfl, nk_D_drawAll⟩
theorem ml_D_35 : Cond.methodLink R_D 35 y_D_measure ∈ WS := ws_t (List.mem_of_getElem? (i := 388) (by decide +kernel)) (by decide +kernel)
theorem nk_D_measure : NK y_D_measure 0 := by unfold NK; decide +kernel
theorem se_D_measure : Cond.selects R_D y_D_measure y_D_measure ∈ WS := ws_p (q := (y_D_measure, 5)) (List.mem_of_getElem? (i := 5) (by decide +kernel)) (by decide +kernel)
theorem k_D_35 : VK R_D 35 R_D y_D_measure 0 := ⟨ml_D_35, wm_D_measure, se_D_measure, wi_D, rfl, nk_D_measure⟩
theorem ml_D_41 : Cond.methodLink R_D 41 y_N_states ∈ WS := ws_t (List.mem_of_getElem? (i := 392) (by decide +kernel)) (by decide +kernel)
theorem k_D_41 : VK R_D 41 R_N y_N_states 0 := ⟨ml_D_41, wm_N_states, se_N_states, wi_N, rfl, nk_N_states⟩
theorem ml_D_52 : Cond.methodLink R_D 52 y_N_lengthOf ∈ WS := ws_t (List.mem_of_getElem? (i := 393) (by decide +kernel)) (by decide +kernel)
theorem nk_N_lengthOf : NK y_N_lengthOf 1 := by unfold NK; decide +kernel
theorem se_N_lengthOf : Cond.selects R_N y_N_lengthOf y_N_lengthOf ∈ WS := ws_t (List.mem_of_getElem? (i := 395) (by decide +kernel)) (by decide +kernel)
theorem k_D_52 : VK R_D 52 R_N y_N_lengthOf 1 := ⟨ml_D_52, wm_N_lengthOf, se_N_lengthOf, wi_N, rfl, nk_N_lengthOf⟩
theorem ml_D_56 : Cond.methodLink R_D 56 y_jM_max ∈ WS := ws_t (List.mem_of_getElem? (i := 397) (by decide +kernel)) (by decide +kernel)
theorem nk_jM_max : NK y_jM_max 2 := by unfold NK; decide +kernel
theorem k_D_56 : SK R_D 56 y_jM_max 2 := ⟨ml_D_56, wm_jM_max, wi_jM, nk_jM_max⟩
theorem ml_D_62 : Cond.methodLink R_D 62 y_N_events ∈ WS := ws_t (List.mem_of_getElem? (i := 400) (by decide +kernel)) (by decide +kernel)
theorem k_D_62 : VK R_D 62 R_N y_N_events 0 := ⟨ml_D_62, wm_N_events, se_N_events, wi_N, rfl, nk_N_events⟩
theorem ml_D_65 : Cond.methodLink R_D 65 y_D_widthOf ∈ WS := ws_t (List.mem_of_getElem? (i := 401) (by decide +kernel)) (by decide +kernel)
theorem nk_D_widthOf : NK y_D_widthOf 1 := by unfold NK; decide +kernel
theorem se_D_widthOf : Cond.selects R_D y_D_widthOf y_D_widthOf ∈ WS := ws_p (q := (y_D_widthOf, 5)) (List.mem_of_getElem? (i := 6) (by decide +kernel)) (by decide +kernel)
theorem k_D_65 : VK R_D 65 R_D y_D_widthOf 1 := ⟨ml_D_65, wm_D_widthOf, se_D_widthOf, wi_D, rfl, nk_D_widthOf⟩
theorem ml_D_68 : Cond.methodLink R_D 68 y_N_slotOfEvent ∈ WS := ws_t (List.mem_of_getElem? (i := 405) (by decide +kernel)) (by decide +kernel)
theorem k_D_68 : VK R_D 68 R_N y_N_slotOfEvent 1 := ⟨ml_D_68, wm_N_slotOfEvent, se_N_slotOfEvent, wi_N, rfl, nk_N_slotOfEvent⟩
theorem ml_D_71 : Cond.methodLink R_D 71 y_T_goalOf ∈ WS := ws_t (List.mem_of_getElem? (i := 406) (by decide +kernel)) (by decide +kernel)
theorem k_D_71 : VK R_D 71 R_T y_T_goalOf 2 := ⟨ml_D_71, wm_T_goalOf, se_T_goalOf, wi_T, rfl, nk_T_goalOf⟩
theorem ml_D_38 : Cond.methodLink R_D 38 y_D_drawHead ∈ WS := ws_t (List.mem_of_getElem? (i := 407) (by decide +kernel)) (by decide +kernel)
theorem nk_D_drawHead : NK y_D_drawHead 0 := by unfold NK; decide +kernel
theorem se_D_drawHead : Cond.selects R_D y_D_drawHead y_D_drawHead ∈ WS := ws_p (q := (y_D_drawHead, 5)) (List.mem_of_getElem? (i := 7) (by decide +kernel)) (by decide +kernel)
theorem k_D_38 : VK R_D 38 R_D y_D_drawHead 0 := ⟨ml_D_38, wm_D_drawHead, se_D_drawHead, wi_D, rfl, nk_D_drawHead⟩
theorem ml_D_76 : Cond.methodLink R_D 76 y_B_addBlanks ∈ WS := ws_t (List.mem_of_getElem? (i := 411) (by decide +kernel)) (by decide +kernel)
theorem nk_B_addBlanks : NK y_B_addBlanks 1 := by unfold NK; decide +kernel
theorem se_B_addBlanks : Cond.selects R_B y_B_addBlanks y_B_addBlanks ∈ WS := ws_t (List.mem_of_getElem? (i := 413) (by decide +kernel)) (by decide +kernel)
theorem k_D_76 : VK R_D 76 R_B y_B_addBlanks 1 := ⟨ml_D_76, wm_B_addBlanks, se_B_addBlanks, wi_B, rfl, nk_B_addBlanks⟩
theorem ml_D_79 : Cond.methodLink R_D 79 y_B_add ∈ WS := ws_t (List.mem_of_getElem? (i := 415) (by decide +kernel)) (by decide +kernel)
theorem k_D_79 : VK R_D 79 R_B y_B_add 1 := ⟨ml_D_79, wm_B_add, se_B_add, wi_B, rfl, nk_B_add⟩
theorem ml_D_82 : Cond.methodLink R_D 82 y_D_drawName ∈ WS := ws_t (List.mem_of_getElem? (i := 416) (by decide +kernel)) (by decide +kernel)
theorem nk_D_drawName : NK y_D_drawName 2 := by unfold NK; decide +kernel
theorem se_D_drawName : Cond.selects R_D y_D_drawName y_D_drawName ∈ WS := ws_p (q := (y_D_drawName, 5)) (List.mem_of_getElem? (i := 8) (by decide +kernel)) (by decide +kernel)
theorem k_D_82 : VK R_D 82 R_D y_D_drawName 2 := ⟨ml_D_82, wm_D_drawName, se_D_drawName, wi_D, rfl, nk_D_drawName⟩
theorem ml_D_92 : Cond.methodLink R_D 92 y_N_write ∈ WS := ws_t (List.mem_of_getElem? (i := 420) (by decide +kernel)) (by decide +kernel)
theorem k_D_92 : VK R_D 92 R_N y_N_write 2 := ⟨ml_D_92, wm_N_write, se_N_write, wi_N, rfl, nk_N_write⟩
theorem ml_D_86 : Cond.methodLink R_D 86 y_D_endLine ∈ WS := ws_t (List.mem_of_getElem? (i := 421) (by decide +kernel)) (by decide +kernel)
theorem nk_D_endLine : NK y_D_endLine 0 := by unfold NK; decide +kernel
theorem se_D_endLine : Cond.selects R_D y_D_endLine y_D_endLine ∈ WS := ws_p (q := (y_D_endLine, 5)) (List.mem_of_getElem? (i := 9) (by decide +kernel)) (by decide +kernel)
theorem k_D_86 : VK R_D 86 R_D y_D_endLine 0 := ⟨ml_D_86, wm_D_endLine, se_D_endLine, wi_D, rfl, nk_D_endLine⟩
theorem ml_D_96 : Cond.methodLink R_D 96 y_B_dropBlanks ∈ WS := ws_t (List.mem_of_getElem? (i := 425) (by decide +kernel)) (by decide +kernel)
theorem nk_B_dropBlanks : NK y_B_dropBlanks 0 := by unfold NK; decide +kernel
theorem se_B_dropBlanks : Cond.selects R_B y_B_dropBlanks y_B_dropBlanks ∈ WS := ws_t (List.mem_of_getElem? (i := 427) (by decide +kernel)) (by decide +kernel)
theorem k_D_96 : VK R_D 96 R_B y_B_dropBlanks 0 := ⟨ml_D_96, wm_B_dropBlanks, se_B_dropBlanks, wi_B, rfl, nk_B_dropBlanks⟩
theorem ml_D_45 : Cond.methodLink R_D 45 y_D_drawState ∈ WS := ws_t (List.mem_of_getElem? (i := 429) (by decide +kernel)) (by decide +kernel)
theorem nk_D_drawState : NK y_D_drawState 1 := by unfold NK; decide +kernel
theorem se_D_drawState : Cond.selects R_D y_D_drawState y_D_drawState ∈ WS := ws_p (q := (y_D_drawState, 5)) (List.mem_of_getElem? (i := 10) (by decide +kernel)) (by decide +kernel)
theorem k_D_45 : VK R_D 45 R_D y_D_drawState 1 := ⟨ml_D_45, wm_D_drawState, se_D_drawState, wi_D, rfl, nk_D_drawState⟩
theorem ml_D_89 : Cond.methodLink R_D 89 y_D_drawGoal ∈ WS := ws_t (List.mem_of_getElem? (i := 433) (by decide +kernel)) (by decide +kernel)
theorem nk_D_drawGoal : NK y_D_drawGoal 2 := by unfold NK; decide +kernel
theorem se_D_drawGoal : Cond.selects R_D y_D_drawGoal y_D_drawGoal ∈ WS := ws_p (q := (y_D_drawGoal, 5)) (List.mem_of_getElem? (i := 11) (by decide +kernel)) (by decide +kernel)
theorem k_D_89 : VK R_D 89 R_D y_D_drawGoal 2 := ⟨ml_D_89, wm_D_drawGoal, se_D_drawGoal, wi_D, rfl, nk_D_drawGoal⟩
theorem ml_W_108 : Cond.methodLink R_W 108 y_X_count ∈ WS := ws_t (List.mem_of_getElem? (i := 437) (by decide +kernel)) (by decide +kernel)
theorem nk_X_count : NK y_X_count 1 := by unfold NK; decide +kernel
theorem se_X_count : Cond.selects R_X y_X_count y_X_count ∈ WS := ws_t (List.mem_of_getElem? (i := 439) (by decide +kernel)) (by decide +kernel)
theorem k_W_108 : VK R_W 108 R_X y_X_count 1 := ⟨ml_W_108, wm_X_count, se_X_count, wi_X, rfl, nk_X_count⟩
theorem ml_X_140 : Cond.methodLink R_X 140 y_N_states ∈ WS := ws_t (List.mem_of_getElem? (i := 441) (by decide +kernel)) (by decide +kernel)
theorem k_X_140 : VK R_X 140 R_N y_N_states 0 := ⟨ml_X_140, wm_N_states, se_N_states, wi_N, rfl, nk_N_states⟩
theorem ml_X_183 : Cond.methodLink R_X 183 y_N_asks ∈ WS := ws_t (List.mem_of_getElem? (i := 442) (by decide +kernel)) (by decide +kernel)
theorem k_X_183 : VK R_X 183 R_N y_N_asks 0 := ⟨ml_X_183, wm_N_asks, se_N_asks, wi_N, rfl, nk_N_asks⟩
theorem ml_X_152 : Cond.methodLink R_X 152 y_N_messages ∈ WS := ws_t (List.mem_of_getElem? (i := 443) (by decide +kernel)) (by decide +kernel)
theorem k_X_152 : VK R_X 152 R_N y_N_messages 0 := ⟨ml_X_152, wm_N_messages, se_N_messages, wi_N, rfl, nk_N_messages⟩
theorem ml_X_189 : Cond.methodLink R_X 189 y_T_missingPairs ∈ WS := ws_t (List.mem_of_getElem? (i := 444) (by decide +kernel)) (by decide +kernel)
theorem nk_T_missingPairs : NK y_T_missingPairs 1 := by unfold NK; decide +kernel
theorem se_T_missingPairs : Cond.selects R_T y_T_missingPairs y_T_missingPairs ∈ WS := ws_t (List.mem_of_getElem? (i := 446) (by decide +kernel)) (by decide +kernel)
theorem k_X_189 : VK R_X 189 R_T y_T_missingPairs 1 := ⟨ml_X_189, wm_T_missingPairs, se_T_missingPairs, wi_T, rfl, nk_T_missingPairs⟩
theorem ml_T_68 : Cond.methodLink R_T 68 y_T_isReached ∈ WS := ws_t (List.mem_of_getElem? (i := 448) (by decide +kernel)) (by decide +kernel)
theorem nk_T_isReached : NK y_T_isReached 1 := by unfold NK; decide +kernel
theorem se_T_isReached : Cond.selects R_T y_T_isReached y_T_isReached ∈ WS := ws_t (List.mem_of_getElem? (i := 450) (by decide +kernel)) (by decide +kernel)
theorem k_T_68 : VK R_T 68 R_T y_T_isReached 1 := ⟨ml_T_68, wm_T_isReached, se_T_isReached, wi_T, rfl, nk_T_isReached⟩
theorem ml_T_79 : Cond.methodLink R_T 79 y_T_missingPairsOf ∈ WS := ws_t (List.mem_of_getElem? (i := 452) (by decide +kernel)) (by decide +kernel)
theorem nk_T_missingPairsOf : NK y_T_missingPairsOf 1 := by unfold NK; decide +kernel
theorem se_T_missingPairsOf : Cond.selects R_T y_T_missingPairsOf y_T_missingPairsOf ∈ WS := ws_p (q := (y_T_missingPairsOf, 7)) (List.mem_of_getElem? (i := 12) (by decide +kernel)) (by decide +kernel)
theorem k_T_79 : VK R_T 79 R_T y_T_missingPairsOf 1 := ⟨ml_T_79, wm_T_missingPairsOf, se_T_missingPairsOf, wi_T, rfl, nk_T_missingPairsOf⟩
theorem ml_T_76 : Cond.methodLink R_T 76 y_T_goalOf ∈ WS := ws_t (List.mem_of_getElem? (i := 456) (by decide +kernel)) (by decide +kernel)
theorem k_T_76 : VK R_T 76 R_T y_T_goalOf 2 := ⟨ml_T_76, wm_T_goalOf, se_T_goalOf, wi_T, rfl, nk_T_goalOf⟩
theorem ml_W_57 : Cond.methodLink R_W 57 y_W_feed ∈ WS := ws_t (List.mem_of_getElem? (i := 457) (by decide +kernel)) (by decide +kernel)
theorem nk_W_feed : NK y_W_feed 6 := by unfold NK; decide +kernel
theorem k_W_57 : SK R_W 57 y_W_feed 6 := ⟨ml_W_57, wm_W_feed, wi_W, nk_W_feed⟩
theorem ml_W_7 : Cond.methodLink R_W 7 y_X_feed ∈ WS := ws_t (List.mem_of_getElem? (i := 461) (by decide +kernel)) (by decide +kernel)
theorem nk_X_feed : NK y_X_feed 4 := by unfold NK; decide +kernel
theorem se_X_feed : Cond.selects R_X y_X_feed y_X_feed ∈ WS := ws_t (List.mem_of_getElem? (i := 463) (by decide +kernel)) (by decide +kernel)
theorem k_W_7 : VK R_W 7 R_X y_X_feed 4 := ⟨ml_W_7, wm_X_feed, se_X_feed, wi_X, rfl, nk_X_feed⟩
theorem ml_jT_1 : Cond.methodLink R_jT 1 y_jO_init ∈ WS := ws_t (List.mem_of_getElem? (i := 490) (by decide +kernel)) (by decide +kernel)
theorem ml_jT_27 : Cond.methodLink R_jT 27 y_jT_fillInStackTrace ∈ WS := ws_t (List.mem_of_getElem? (i := 495) (by decide +kernel)) (by decide +kernel)
theorem nk_jT_fillInStackTrace : NK y_jT_fillInStackTrace 0 := by unfold NK; decide +kernel
theorem ml_X_81 : Cond.methodLink R_X 81 y_jX_init ∈ WS := ws_t (List.mem_of_getElem? (i := 507) (by decide +kernel)) (by decide +kernel)
theorem nk_jX_init : NK y_jX_init 1 := by unfold NK; decide +kernel
theorem k_X_81 : IK R_X 81 y_jX_init 1 := ⟨ml_X_81, wm_jX_init, wi_jX, nk_jX_init, rfl⟩
theorem ml_jX_7 : Cond.methodLink R_jX 7 y_jR_init ∈ WS := ws_t (List.mem_of_getElem? (i := 510) (by decide +kernel)) (by decide +kernel)
theorem nk_jR_init : NK y_jR_init 1 := by unfold NK; decide +kernel
theorem k_jX_7 : IK R_jX 7 y_jR_init 1 := ⟨ml_jX_7, wm_jR_init, wi_jR, nk_jR_init, rfl⟩
theorem ml_jR_7 : Cond.methodLink R_jR 7 y_jE_init ∈ WS := ws_t (List.mem_of_getElem? (i := 513) (by decide +kernel)) (by decide +kernel)
theorem nk_jE_init : NK y_jE_init 1 := by unfold NK; decide +kernel
theorem k_jR_7 : IK R_jR 7 y_jE_init 1 := ⟨ml_jR_7, wm_jE_init, wi_jE, nk_jE_init, rfl⟩
theorem ml_jE_7 : Cond.methodLink R_jE 7 y_jT_init2 ∈ WS := ws_t (List.mem_of_getElem? (i := 516) (by decide +kernel)) (by decide +kernel)
theorem nk_jT_init2 : NK y_jT_init2 1 := by unfold NK; decide +kernel
theorem k_jE_7 : IK R_jE 7 y_jT_init2 1 := ⟨ml_jE_7, wm_jT_init2, wi_jT, nk_jT_init2, rfl⟩
theorem ml_X_84 : Cond.methodLink R_X 84 y_B_addInt ∈ WS := ws_t (List.mem_of_getElem? (i := 532) (by decide +kernel)) (by decide +kernel)
theorem nk_B_addInt : NK y_B_addInt 1 := by unfold NK; decide +kernel
theorem se_B_addInt : Cond.selects R_B y_B_addInt y_B_addInt ∈ WS := ws_t (List.mem_of_getElem? (i := 534) (by decide +kernel)) (by decide +kernel)
theorem k_X_84 : VK R_X 84 R_B y_B_addInt 1 := ⟨ml_X_84, wm_B_addInt, se_B_addInt, wi_B, rfl, nk_B_addInt⟩
theorem ml_W_66 : Cond.methodLink R_W 66 y_W_end ∈ WS := ws_t (List.mem_of_getElem? (i := 536) (by decide +kernel)) (by decide +kernel)
theorem nk_W_end : NK y_W_end 3 := by unfold NK; decide +kernel
theorem k_W_66 : SK R_W 66 y_W_end 3 := ⟨ml_W_66, wm_W_end, wi_W, nk_W_end⟩
theorem ml_W_15 : Cond.methodLink R_W 15 y_X_end ∈ WS := ws_t (List.mem_of_getElem? (i := 540) (by decide +kernel)) (by decide +kernel)
theorem nk_X_end : NK y_X_end 1 := by unfold NK; decide +kernel
theorem se_X_end : Cond.selects R_X y_X_end y_X_end ∈ WS := ws_t (List.mem_of_getElem? (i := 542) (by decide +kernel)) (by decide +kernel)
theorem k_W_15 : VK R_W 15 R_X y_X_end 1 := ⟨ml_W_15, wm_X_end, se_X_end, wi_X, rfl, nk_X_end⟩
theorem ml_X_92 : Cond.methodLink R_X 92 y_jG_init ∈ WS := ws_t (List.mem_of_getElem? (i := 554) (by decide +kernel)) (by decide +kernel)
theorem nk_jG_init : NK y_jG_init 1 := by unfold NK; decide +kernel
theorem k_X_92 : IK R_X 92 y_jG_init 1 := ⟨ml_X_92, wm_jG_init, wi_jG, nk_jG_init, rfl⟩
theorem ml_jG_7 : Cond.methodLink R_jG 7 y_jR_init ∈ WS := ws_t (List.mem_of_getElem? (i := 557) (by decide +kernel)) (by decide +kernel)
theorem k_jG_7 : IK R_jG 7 y_jR_init 1 := ⟨ml_jG_7, wm_jR_init, wi_jR, nk_jR_init, rfl⟩
theorem ml_W_70 : Cond.methodLink R_W 70 y_W_read ∈ WS := ws_t (List.mem_of_getElem? (i := 561) (by decide +kernel)) (by decide +kernel)
theorem nk_W_read : NK y_W_read 2 := by unfold NK; decide +kernel
theorem k_W_70 : SK R_W 70 y_W_read 2 := ⟨ml_W_70, wm_W_read, wi_W, nk_W_read⟩
theorem ml_W_21 : Cond.methodLink R_W 21 y_X_read ∈ WS := ws_t (List.mem_of_getElem? (i := 564) (by decide +kernel)) (by decide +kernel)
theorem nk_X_read : NK y_X_read 0 := by unfold NK; decide +kernel
theorem se_X_read : Cond.selects R_X y_X_read y_X_read ∈ WS := ws_t (List.mem_of_getElem? (i := 566) (by decide +kernel)) (by decide +kernel)
theorem k_W_21 : VK R_W 21 R_X y_X_read 0 := ⟨ml_W_21, wm_X_read, se_X_read, wi_X, rfl, nk_X_read⟩
theorem ml_X_95 : Cond.methodLink R_X 95 y_N_forget ∈ WS := ws_t (List.mem_of_getElem? (i := 568) (by decide +kernel)) (by decide +kernel)
theorem nk_N_forget : NK y_N_forget 0 := by unfold NK; decide +kernel
theorem se_N_forget : Cond.selects R_N y_N_forget y_N_forget ∈ WS := ws_t (List.mem_of_getElem? (i := 570) (by decide +kernel)) (by decide +kernel)
theorem k_X_95 : VK R_X 95 R_N y_N_forget 0 := ⟨ml_X_95, wm_N_forget, se_N_forget, wi_N, rfl, nk_N_forget⟩
theorem ml_N_22 : Cond.methodLink R_N 22 y_jA_fill ∈ WS := ws_t (List.mem_of_getElem? (i := 572) (by decide +kernel)) (by decide +kernel)
theorem k_N_22 : SK R_N 22 y_jA_fill 2 := ⟨ml_N_22, wm_jA_fill, wi_jA, nk_jA_fill⟩
theorem ml_X_98 : Cond.methodLink R_X 98 y_T_forget ∈ WS := ws_t (List.mem_of_getElem? (i := 573) (by decide +kernel)) (by decide +kernel)
theorem k_X_98 : VK R_X 98 R_T y_T_forget 0 := ⟨ml_X_98, wm_T_forget, se_T_forget, wi_T, rfl, nk_T_forget⟩
theorem ml_X_99 : Cond.methodLink R_X 99 y_P_firstFault ∈ WS := ws_t (List.mem_of_getElem? (i := 574) (by decide +kernel)) (by decide +kernel)
theorem nk_P_firstFault : NK y_P_firstFault 0 := by unfold NK; decide +kernel
theorem se_P_firstFault : Cond.selects R_P y_P_firstFault y_P_firstFault ∈ WS := ws_t (List.mem_of_getElem? (i := 576) (by decide +kernel)) (by decide +kernel)
theorem k_X_99 : VK R_X 99 R_P y_P_firstFault 0 := ⟨ml_X_99, wm_P_firstFault, se_P_firstFault, wi_P, rfl, nk_P_firstFault⟩
theorem ml_P_29 : Cond.methodLink R_P 29 y_L_restart ∈ WS := ws_t (List.mem_of_getElem? (i := 578) (by decide +kernel)) (by decide +kernel)
theorem nk_L_restart : NK y_L_restart 0 := by unfold NK; decide +kernel
theorem se_L_restart : Cond.selects R_L y_L_restart y_L_restart ∈ WS := ws_t (List.mem_of_getElem? (i := 580) (by decide +kernel)) (by decide +kernel)
theorem k_P_29 : VK R_P 29 R_L y_L_restart 0 := ⟨ml_P_29, wm_L_restart, se_L_restart, wi_L, rfl, nk_L_restart⟩
theorem ml_P_35 : Cond.methodLink R_P 35 y_L_advance ∈ WS := ws_t (List.mem_of_getElem? (i := 582) (by decide +kernel)) (by decide +kernel)
theorem nk_L_advance : NK y_L_advance 0 := by unfold NK; decide +kernel
theorem se_L_advance : Cond.selects R_L y_L_advance y_L_advance ∈ WS := ws_t (List.mem_of_getElem? (i := 584) (by decide +kernel)) (by decide +kernel)
theorem k_P_35 : VK R_P 35 R_L y_L_advance 0 := ⟨ml_P_35, wm_L_advance, se_L_advance, wi_L, rfl, nk_L_advance⟩
theorem ml_L_25 : Cond.methodLink R_L 25 y_L_skipWhite ∈ WS := ws_t (List.mem_of_getElem? (i := 586) (by decide +kernel)) (by decide +kernel)
theorem nk_L_skipWhite : NK y_L_skipWhite 0 := by unfold NK; decide +kernel
theorem se_L_skipWhite : Cond.selects R_L y_L_skipWhite y_L_skipWhite ∈ WS := ws_p (q := (y_L_skipWhite, 4)) (List.mem_of_getElem? (i := 14) (by decide +kernel)) (by decide +kernel)
theorem k_L_25 : VK R_L 25 R_L y_L_skipWhite 0 := ⟨ml_L_25, wm_L_skipWhite, se_L_skipWhite, wi_L, rfl, nk_L_skipWhite⟩
theorem ml_L_37 : Cond.methodLink R_L 37 y_L_isLetter ∈ WS := ws_t (List.mem_of_getElem? (i := 590) (by decide +kernel)) (by decide +kernel)
theorem nk_L_isLetter : NK y_L_isLetter 1 := by unfold NK; decide +kernel
theorem k_L_37 : SK R_L 37 y_L_isLetter 1 := ⟨ml_L_37, wm_L_isLetter, wi_L, nk_L_isLetter⟩
theorem ml_L_41 : Cond.methodLink R_L 41 y_L_skipName ∈ WS := ws_t (List.mem_of_getElem? (i := 593) (by decide +kernel)) (by decide +kernel)
theorem nk_L_skipName : NK y_L_skipName 0 := by unfold NK; decide +kernel
theorem se_L_skipName : Cond.selects R_L y_L_skipName y_L_skipName ∈ WS := ws_p (q := (y_L_skipName, 4)) (List.mem_of_getElem? (i := 15) (by decide +kernel)) (by decide +kernel)
theorem k_L_41 : VK R_L 41 R_L y_L_skipName 0 := ⟨ml_L_41, wm_L_skipName, se_L_skipName, wi_L, rfl, nk_L_skipName⟩
theorem ml_L_54 : Cond.methodLink R_L 54 y_L_isDigit ∈ WS := ws_t (List.mem_of_getElem? (i := 597) (by decide +kernel)) (by decide +kernel)
theorem nk_L_isDigit : NK y_L_isDigit 1 := by unfold NK; decide +kernel
theorem k_L_54 : SK R_L 54 y_L_isDigit 1 := ⟨ml_L_54, wm_L_isDigit, wi_L, nk_L_isDigit⟩
theorem ml_L_46 : Cond.methodLink R_L 46 y_L_nameKind ∈ WS := ws_t (List.mem_of_getElem? (i := 600) (by decide +kernel)) (by decide +kernel)
theorem nk_L_nameKind : NK y_L_nameKind 0 := by unfold NK; decide +kernel
theorem se_L_nameKind : Cond.selects R_L y_L_nameKind y_L_nameKind ∈ WS := ws_p (q := (y_L_nameKind, 4)) (List.mem_of_getElem? (i := 16) (by decide +kernel)) (by decide +kernel)
theorem k_L_46 : VK R_L 46 R_L y_L_nameKind 0 := ⟨ml_L_46, wm_L_nameKind, se_L_nameKind, wi_L, rfl, nk_L_nameKind⟩
theorem ml_L_59 : Cond.methodLink R_L 59 y_L_spells ∈ WS := ws_t (List.mem_of_getElem? (i := 605) (by decide +kernel)) (by decide +kernel)
theorem nk_L_spells : NK y_L_spells 1 := by unfold NK; decide +kernel
theorem se_L_spells : Cond.selects R_L y_L_spells y_L_spells ∈ WS := ws_p (q := (y_L_spells, 4)) (List.mem_of_getElem? (i := 17) (by decide +kernel)) (by decide +kernel)
theorem k_L_59 : VK R_L 59 R_L y_L_spells 1 := ⟨ml_L_59, wm_L_spells, se_L_spells, wi_L, rfl, nk_L_spells⟩
theorem ml_L_79 : Cond.methodLink R_L 79 y_jS_length ∈ WS := ws_t (List.mem_of_getElem? (i := 609) (by decide +kernel)) (by decide +kernel)
theorem k_L_79 : VK R_L 79 R_jS y_jS_length 0 := ⟨ml_L_79, wm_jS_length, se_jS_length, wi_jS, rfl, nk_jS_length⟩
theorem ml_L_83 : Cond.methodLink R_L 83 y_jS_charAt ∈ WS := ws_t (List.mem_of_getElem? (i := 610) (by decide +kernel)) (by decide +kernel)
theorem k_L_83 : VK R_L 83 R_jS y_jS_charAt 1 := ⟨ml_L_83, wm_jS_charAt, se_jS_charAt, wi_jS, rfl, nk_jS_charAt⟩
theorem ml_L_50 : Cond.methodLink R_L 50 y_L_signKind ∈ WS := ws_t (List.mem_of_getElem? (i := 619) (by decide +kernel)) (by decide +kernel)
theorem nk_L_signKind : NK y_L_signKind 1 := by unfold NK; decide +kernel
theorem k_L_50 : SK R_L 50 y_L_signKind 1 := ⟨ml_L_50, wm_L_signKind, wi_L, nk_L_signKind⟩
theorem ml_P_41 : Cond.methodLink R_P 41 y_P_step ∈ WS := ws_t (List.mem_of_getElem? (i := 622) (by decide +kernel)) (by decide +kernel)
theorem nk_P_step : NK y_P_step 0 := by unfold NK; decide +kernel
theorem se_P_step : Cond.selects R_P y_P_step y_P_step ∈ WS := ws_p (q := (y_P_step, 10)) (List.mem_of_getElem? (i := 18) (by decide +kernel)) (by decide +kernel)
theorem k_P_41 : VK R_P 41 R_P y_P_step 0 := ⟨ml_P_41, wm_P_step, se_P_step, wi_P, rfl, nk_P_step⟩
theorem ml_P_45 : Cond.methodLink R_P 45 y_P_beginStatement ∈ WS := ws_t (List.mem_of_getElem? (i := 626) (by decide +kernel)) (by decide +kernel)
theorem nk_P_beginStatement : NK y_P_beginStatement 0 := by unfold NK; decide +kernel
theorem se_P_beginStatement : Cond.selects R_P y_P_beginStatement y_P_beginStatement ∈ WS := ws_p (q := (y_P_beginStatement, 10)) (List.mem_of_getElem? (i := 19) (by decide +kernel)) (by decide +kernel)
theorem k_P_45 : VK R_P 45 R_P y_P_beginStatement 0 := ⟨ml_P_45, wm_P_beginStatement, se_P_beginStatement, wi_P, rfl, nk_P_beginStatement⟩
theorem ml_P_83 : Cond.methodLink R_P 83 y_P_beginNames ∈ WS := ws_t (List.mem_of_getElem? (i := 630) (by decide +kernel)) (by decide +kernel)
theorem nk_P_beginNames : NK y_P_beginNames 1 := by unfold NK; decide +kernel
theorem se_P_beginNames : Cond.selects R_P y_P_beginNames y_P_beginNames ∈ WS := ws_p (q := (y_P_beginNames, 10)) (List.mem_of_getElem? (i := 20) (by decide +kernel)) (by decide +kernel)
theorem k_P_83 : VK R_P 83 R_P y_P_beginNames 1 := ⟨ml_P_83, wm_P_beginNames, se_P_beginNames, wi_P, rfl, nk_P_beginNames⟩
theorem ml_P_65 : Cond.methodLink R_P 65 y_P_goOn ∈ WS := ws_t (List.mem_of_getElem? (i := 634) (by decide +kernel)) (by decide +kernel)
theorem nk_P_goOn : NK y_P_goOn 1 := by unfold NK; decide +kernel
theorem se_P_goOn : Cond.selects R_P y_P_goOn y_P_goOn ∈ WS := ws_p (q := (y_P_goOn, 10)) (List.mem_of_getElem? (i := 21) (by decide +kernel)) (by decide +kernel)
theorem k_P_65 : VK R_P 65 R_P y_P_goOn 1 := ⟨ml_P_65, wm_P_goOn, se_P_goOn, wi_P, rfl, nk_P_goOn⟩
theorem ml_P_86 : Cond.methodLink R_P 86 y_P_beginPair ∈ WS := ws_t (List.mem_of_getElem? (i := 638) (by decide +kernel)) (by decide +kernel)
theorem nk_P_beginPair : NK y_P_beginPair 1 := by unfold NK; decide +kernel
theorem se_P_beginPair : Cond.selects R_P y_P_beginPair y_P_beginPair ∈ WS := ws_p (q := (y_P_beginPair, 10)) (List.mem_of_getElem? (i := 22) (by decide +kernel)) (by decide +kernel)
theorem k_P_86 : VK R_P 86 R_P y_P_beginPair 1 := ⟨ml_P_86, wm_P_beginPair, se_P_beginPair, wi_P, rfl, nk_P_beginPair⟩
theorem ml_P_61 : Cond.methodLink R_P 61 y_P_want ∈ WS := ws_t (List.mem_of_getElem? (i := 642) (by decide +kernel)) (by decide +kernel)
theorem nk_P_want : NK y_P_want 2 := by unfold NK; decide +kernel
theorem se_P_want : Cond.selects R_P y_P_want y_P_want ∈ WS := ws_p (q := (y_P_want, 10)) (List.mem_of_getElem? (i := 23) (by decide +kernel)) (by decide +kernel)
theorem k_P_61 : VK R_P 61 R_P y_P_want 2 := ⟨ml_P_61, wm_P_want, se_P_want, wi_P, rfl, nk_P_want⟩
theorem ml_P_48 : Cond.methodLink R_P 48 y_P_takeNewName ∈ WS := ws_t (List.mem_of_getElem? (i := 646) (by decide +kernel)) (by decide +kernel)
theorem nk_P_takeNewName : NK y_P_takeNewName 0 := by unfold NK; decide +kernel
theorem se_P_takeNewName : Cond.selects R_P y_P_takeNewName y_P_takeNewName ∈ WS := ws_p (q := (y_P_takeNewName, 10)) (List.mem_of_getElem? (i := 24) (by decide +kernel)) (by decide +kernel)
theorem k_P_48 : VK R_P 48 R_P y_P_takeNewName 0 := ⟨ml_P_48, wm_P_takeNewName, se_P_takeNewName, wi_P, rfl, nk_P_takeNewName⟩
theorem ml_P_100 : Cond.methodLink R_P 100 y_N_isFull ∈ WS := ws_t (List.mem_of_getElem? (i := 650) (by decide +kernel)) (by decide +kernel)
theorem nk_N_isFull : NK y_N_isFull 1 := by unfold NK; decide +kernel
theorem se_N_isFull : Cond.selects R_N y_N_isFull y_N_isFull ∈ WS := ws_t (List.mem_of_getElem? (i := 652) (by decide +kernel)) (by decide +kernel)
theorem k_P_100 : VK R_P 100 R_N y_N_isFull 1 := ⟨ml_P_100, wm_N_isFull, se_N_isFull, wi_N, rfl, nk_N_isFull⟩
theorem ml_P_104 : Cond.methodLink R_P 104 y_N_slotOf ∈ WS := ws_t (List.mem_of_getElem? (i := 654) (by decide +kernel)) (by decide +kernel)
theorem nk_N_slotOf : NK y_N_slotOf 1 := by unfold NK; decide +kernel
theorem se_N_slotOf : Cond.selects R_N y_N_slotOf y_N_slotOf ∈ WS := ws_t (List.mem_of_getElem? (i := 656) (by decide +kernel)) (by decide +kernel)
theorem k_P_104 : VK R_P 104 R_N y_N_slotOf 1 := ⟨ml_P_104, wm_N_slotOf, se_N_slotOf, wi_N, rfl, nk_N_slotOf⟩
theorem ml_N_50 : Cond.methodLink R_N 50 y_N_isSame ∈ WS := ws_t (List.mem_of_getElem? (i := 658) (by decide +kernel)) (by decide +kernel)
theorem nk_N_isSame : NK y_N_isSame 2 := by unfold NK; decide +kernel
theorem se_N_isSame : Cond.selects R_N y_N_isSame y_N_isSame ∈ WS := ws_p (q := (y_N_isSame, 3)) (List.mem_of_getElem? (i := 25) (by decide +kernel)) (by decide +kernel)
theorem k_N_50 : VK R_N 50 R_N y_N_isSame 2 := ⟨ml_N_50, wm_N_isSame, se_N_isSame, wi_N, rfl, nk_N_isSame⟩
theorem ml_P_108 : Cond.methodLink R_P 108 y_N_tell ∈ WS := ws_t (List.mem_of_getElem? (i := 662) (by decide +kernel)) (by decide +kernel)
theorem nk_N_tell : NK y_N_tell 2 := by unfold NK; decide +kernel
theorem se_N_tell : Cond.selects R_N y_N_tell y_N_tell ∈ WS := ws_t (List.mem_of_getElem? (i := 664) (by decide +kernel)) (by decide +kernel)
theorem k_P_108 : VK R_P 108 R_N y_N_tell 2 := ⟨ml_P_108, wm_N_tell, se_N_tell, wi_N, rfl, nk_N_tell⟩
theorem ml_N_28 : Cond.methodLink R_N 28 y_N_slotBehindLast ∈ WS := ws_t (List.mem_of_getElem? (i := 666) (by decide +kernel)) (by decide +kernel)
theorem nk_N_slotBehindLast : NK y_N_slotBehindLast 1 := by unfold NK; decide +kernel
theorem se_N_slotBehindLast : Cond.selects R_N y_N_slotBehindLast y_N_slotBehindLast ∈ WS := ws_p (q := (y_N_slotBehindLast, 3)) (List.mem_of_getElem? (i := 26) (by decide +kernel)) (by decide +kernel)
theorem k_N_28 : VK R_N 28 R_N y_N_slotBehindLast 1 := ⟨ml_N_28, wm_N_slotBehindLast, se_N_slotBehindLast, wi_N, rfl, nk_N_slotBehindLast⟩
theorem ml_P_51 : Cond.methodLink R_P 51 y_P_commaOr ∈ WS := ws_t (List.mem_of_getElem? (i := 670) (by decide +kernel)) (by decide +kernel)
theorem nk_P_commaOr : NK y_P_commaOr 3 := by unfold NK; decide +kernel
theorem se_P_commaOr : Cond.selects R_P y_P_commaOr y_P_commaOr ∈ WS := ws_p (q := (y_P_commaOr, 10)) (List.mem_of_getElem? (i := 27) (by decide +kernel)) (by decide +kernel)
theorem k_P_51 : VK R_P 51 R_P y_P_commaOr 3 := ⟨ml_P_51, wm_P_commaOr, se_P_commaOr, wi_P, rfl, nk_P_commaOr⟩
theorem ml_P_55 : Cond.methodLink R_P 55 y_P_takePairState ∈ WS := ws_t (List.mem_of_getElem? (i := 674) (by decide +kernel)) (by decide +kernel)
theorem nk_P_takePairState : NK y_P_takePairState 0 := by unfold NK; decide +kernel
theorem se_P_takePairState : Cond.selects R_P y_P_takePairState y_P_takePairState ∈ WS := ws_p (q := (y_P_takePairState, 10)) (List.mem_of_getElem? (i := 28) (by decide +kernel)) (by decide +kernel)
theorem k_P_55 : VK R_P 55 R_P y_P_takePairState 0 := ⟨ml_P_55, wm_P_takePairState, se_P_takePairState, wi_P, rfl, nk_P_takePairState⟩
theorem ml_P_118 : Cond.methodLink R_P 118 y_P_findName ∈ WS := ws_t (List.mem_of_getElem? (i := 678) (by decide +kernel)) (by decide +kernel)
theorem nk_P_findName : NK y_P_findName 2 := by unfold NK; decide +kernel
theorem se_P_findName : Cond.selects R_P y_P_findName y_P_findName ∈ WS := ws_p (q := (y_P_findName, 10)) (List.mem_of_getElem? (i := 29) (by decide +kernel)) (by decide +kernel)
theorem k_P_118 : VK R_P 118 R_P y_P_findName 2 := ⟨ml_P_118, wm_P_findName, se_P_findName, wi_P, rfl, nk_P_findName⟩
theorem ml_P_115 : Cond.methodLink R_P 115 y_N_sortOf ∈ WS := ws_t (List.mem_of_getElem? (i := 682) (by decide +kernel)) (by decide +kernel)
theorem nk_N_sortOf : NK y_N_sortOf 1 := by unfold NK; decide +kernel
theorem k_P_115 : SK R_P 115 y_N_sortOf 1 := ⟨ml_P_115, wm_N_sortOf, wi_N, nk_N_sortOf⟩
theorem ml_P_58 : Cond.methodLink R_P 58 y_P_takePairEvent ∈ WS := ws_t (List.mem_of_getElem? (i := 685) (by decide +kernel)) (by decide +kernel)
theorem nk_P_takePairEvent : NK y_P_takePairEvent 0 := by unfold NK; decide +kernel
theorem se_P_takePairEvent : Cond.selects R_P y_P_takePairEvent y_P_takePairEvent ∈ WS := ws_p (q := (y_P_takePairEvent, 10)) (List.mem_of_getElem? (i := 30) (by decide +kernel)) (by decide +kernel)
theorem k_P_58 : VK R_P 58 R_P y_P_takePairEvent 0 := ⟨ml_P_58, wm_P_takePairEvent, se_P_takePairEvent, wi_P, rfl, nk_P_takePairEvent⟩
theorem ml_P_124 : Cond.methodLink R_P 124 y_T_pairOfSlots ∈ WS := ws_t (List.mem_of_getElem? (i := 689) (by decide +kernel)) (by decide +kernel)
theorem k_P_124 : SK R_P 124 y_T_pairOfSlots 2 := ⟨ml_P_124, wm_T_pairOfSlots, wi_T, nk_T_pairOfSlots⟩
theorem ml_P_136 : Cond.methodLink R_P 136 y_T_setNever ∈ WS := ws_t (List.mem_of_getElem? (i := 690) (by decide +kernel)) (by decide +kernel)
theorem nk_T_setNever : NK y_T_setNever 1 := by unfold NK; decide +kernel
theorem se_T_setNever : Cond.selects R_T y_T_setNever y_T_setNever ∈ WS := ws_t (List.mem_of_getElem? (i := 692) (by decide +kernel)) (by decide +kernel)
theorem k_P_136 : VK R_P 136 R_T y_T_setNever 1 := ⟨ml_P_136, wm_T_setNever, se_T_setNever, wi_T, rfl, nk_T_setNever⟩
theorem ml_P_69 : Cond.methodLink R_P 69 y_P_beginAction ∈ WS := ws_t (List.mem_of_getElem? (i := 694) (by decide +kernel)) (by decide +kernel)
theorem nk_P_beginAction : NK y_P_beginAction 0 := by unfold NK; decide +kernel
theorem se_P_beginAction : Cond.selects R_P y_P_beginAction y_P_beginAction ∈ WS := ws_p (q := (y_P_beginAction, 10)) (List.mem_of_getElem? (i := 31) (by decide +kernel)) (by decide +kernel)
theorem k_P_69 : VK R_P 69 R_P y_P_beginAction 0 := ⟨ml_P_69, wm_P_beginAction, se_P_beginAction, wi_P, rfl, nk_P_beginAction⟩
theorem ml_P_140 : Cond.methodLink R_P 140 y_P_addAction ∈ WS := ws_t (List.mem_of_getElem? (i := 698) (by decide +kernel)) (by decide +kernel)
theorem nk_P_addAction : NK y_P_addAction 1 := by unfold NK; decide +kernel
theorem se_P_addAction : Cond.selects R_P y_P_addAction y_P_addAction ∈ WS := ws_p (q := (y_P_addAction, 10)) (List.mem_of_getElem? (i := 32) (by decide +kernel)) (by decide +kernel)
theorem k_P_140 : VK R_P 140 R_P y_P_addAction 1 := ⟨ml_P_140, wm_P_addAction, se_P_addAction, wi_P, rfl, nk_P_addAction⟩
theorem ml_P_143 : Cond.methodLink R_P 143 y_T_setAction ∈ WS := ws_t (List.mem_of_getElem? (i := 702) (by decide +kernel)) (by decide +kernel)
theorem nk_T_setAction : NK y_T_setAction 3 := by unfold NK; decide +kernel
theorem se_T_setAction : Cond.selects R_T y_T_setAction y_T_setAction ∈ WS := ws_t (List.mem_of_getElem? (i := 704) (by decide +kernel)) (by decide +kernel)
theorem k_P_143 : VK R_P 143 R_T y_T_setAction 3 := ⟨ml_P_143, wm_T_setAction, se_T_setAction, wi_T, rfl, nk_T_setAction⟩
theorem ml_P_72 : Cond.methodLink R_P 72 y_P_takeSentMessage ∈ WS := ws_t (List.mem_of_getElem? (i := 706) (by decide +kernel)) (by decide +kernel)
theorem nk_P_takeSentMessage : NK y_P_takeSentMessage 0 := by unfold NK; decide +kernel
theorem se_P_takeSentMessage : Cond.selects R_P y_P_takeSentMessage y_P_takeSentMessage ∈ WS := ws_p (q := (y_P_takeSentMessage, 10)) (List.mem_of_getElem? (i := 33) (by decide +kernel)) (by decide +kernel)
theorem k_P_72 : VK R_P 72 R_P y_P_takeSentMessage 0 := ⟨ml_P_72, wm_P_takeSentMessage, se_P_takeSentMessage, wi_P, rfl, nk_P_takeSentMessage⟩
theorem ml_P_75 : Cond.methodLink R_P 75 y_P_takeGoal ∈ WS := ws_t (List.mem_of_getElem? (i := 710) (by decide +kernel)) (by decide +kernel)
theorem nk_P_takeGoal : NK y_P_takeGoal 0 := by unfold NK; decide +kernel
theorem se_P_takeGoal : Cond.selects R_P y_P_takeGoal y_P_takeGoal ∈ WS := ws_p (q := (y_P_takeGoal, 10)) (List.mem_of_getElem? (i := 34) (by decide +kernel)) (by decide +kernel)
theorem k_P_75 : VK R_P 75 R_P y_P_takeGoal 0 := ⟨ml_P_75, wm_P_takeGoal, se_P_takeGoal, wi_P, rfl, nk_P_takeGoal⟩
theorem ml_P_147 : Cond.methodLink R_P 147 y_T_setRule ∈ WS := ws_t (List.mem_of_getElem? (i := 714) (by decide +kernel)) (by decide +kernel)
theorem nk_T_setRule : NK y_T_setRule 2 := by unfold NK; decide +kernel
theorem se_T_setRule : Cond.selects R_T y_T_setRule y_T_setRule ∈ WS := ws_t (List.mem_of_getElem? (i := 716) (by decide +kernel)) (by decide +kernel)
theorem k_P_147 : VK R_P 147 R_T y_T_setRule 2 := ⟨ml_P_147, wm_T_setRule, se_T_setRule, wi_T, rfl, nk_T_setRule⟩
theorem ml_P_78 : Cond.methodLink R_P 78 y_P_takeFirstState ∈ WS := ws_t (List.mem_of_getElem? (i := 718) (by decide +kernel)) (by decide +kernel)
theorem nk_P_takeFirstState : NK y_P_takeFirstState 0 := by unfold NK; decide +kernel
theorem se_P_takeFirstState : Cond.selects R_P y_P_takeFirstState y_P_takeFirstState ∈ WS := ws_p (q := (y_P_takeFirstState, 10)) (List.mem_of_getElem? (i := 35) (by decide +kernel)) (by decide +kernel)
theorem k_P_78 : VK R_P 78 R_P y_P_takeFirstState 0 := ⟨ml_P_78, wm_P_takeFirstState, se_P_takeFirstState, wi_P, rfl, nk_P_takeFirstState⟩
theorem ml_X_103 : Cond.methodLink R_X 103 y_P_placeInText ∈ WS := ws_t (List.mem_of_getElem? (i := 722) (by decide +kernel)) (by decide +kernel)
theorem nk_P_placeInText : NK y_P_placeInText 0 := by unfold NK; decide +kernel
theorem se_P_placeInText : Cond.selects R_P y_P_placeInText y_P_placeInText ∈ WS := ws_t (List.mem_of_getElem? (i := 724) (by decide +kernel)) (by decide +kernel)
theorem k_X_103 : VK R_X 103 R_P y_P_placeInText 0 := ⟨ml_X_103, wm_P_placeInText, se_P_placeInText, wi_P, rfl, nk_P_placeInText⟩
theorem ml_X_108 : Cond.methodLink R_X 108 y_T_settle ∈ WS := ws_t (List.mem_of_getElem? (i := 727) (by decide +kernel)) (by decide +kernel)
theorem nk_T_settle : NK y_T_settle 0 := by unfold NK; decide +kernel
theorem se_T_settle : Cond.selects R_T y_T_settle y_T_settle ∈ WS := ws_t (List.mem_of_getElem? (i := 729) (by decide +kernel)) (by decide +kernel)
theorem k_X_108 : VK R_X 108 R_T y_T_settle 0 := ⟨ml_X_108, wm_T_settle, se_T_settle, wi_T, rfl, nk_T_settle⟩
theorem ml_T_64 : Cond.methodLink R_T 64 y_T_reachFrom ∈ WS := ws_t (List.mem_of_getElem? (i := 731) (by decide +kernel)) (by decide +kernel)
theorem nk_T_reachFrom : NK y_T_reachFrom 2 := by unfold NK; decide +kernel
theorem se_T_reachFrom : Cond.selects R_T y_T_reachFrom y_T_reachFrom ∈ WS := ws_p (q := (y_T_reachFrom, 7)) (List.mem_of_getElem? (i := 36) (by decide +kernel)) (by decide +kernel)
theorem k_T_64 : VK R_T 64 R_T y_T_reachFrom 2 := ⟨ml_T_64, wm_T_reachFrom, se_T_reachFrom, wi_T, rfl, nk_T_reachFrom⟩
theorem ml_W_74 : Cond.methodLink R_W 74 y_W_fault ∈ WS := ws_t (List.mem_of_getElem? (i := 735) (by decide +kernel)) (by decide +kernel)
theorem nk_W_fault : NK y_W_fault 3 := by unfold NK; decide +kernel
theorem k_W_74 : SK R_W 74 y_W_fault 3 := ⟨ml_W_74, wm_W_fault, wi_W, nk_W_fault⟩
theorem ml_W_25 : Cond.methodLink R_W 25 y_X_fault ∈ WS := ws_t (List.mem_of_getElem? (i := 739) (by decide +kernel)) (by decide +kernel)
theorem nk_X_fault : NK y_X_fault 1 := by unfold NK; decide +kernel
theorem se_X_fault : Cond.selects R_X y_X_fault y_X_fault ∈ WS := ws_t (List.mem_of_getElem? (i := 741) (by decide +kernel)) (by decide +kernel)
theorem k_W_25 : VK R_W 25 R_X y_X_fault 1 := ⟨ml_W_25, wm_X_fault, se_X_fault, wi_X, rfl, nk_X_fault⟩
theorem ml_X_118 : Cond.methodLink R_X 118 y_jI_init ∈ WS := ws_t (List.mem_of_getElem? (i := 753) (by decide +kernel)) (by decide +kernel)
theorem nk_jI_init : NK y_jI_init 1 := by unfold NK; decide +kernel
theorem k_X_118 : IK R_X 118 y_jI_init 1 := ⟨ml_X_118, wm_jI_init, wi_jI, nk_jI_init, rfl⟩
theorem ml_jI_7 : Cond.methodLink R_jI 7 y_jR_init ∈ WS := ws_t (List.mem_of_getElem? (i := 756) (by decide +kernel)) (by decide +kernel)
theorem k_jI_7 : IK R_jI 7 y_jR_init 1 := ⟨ml_jI_7, wm_jR_init, wi_jR, nk_jR_init, rfl⟩
theorem ml_W_77 : Cond.methodLink R_W 77 y_W_next ∈ WS := ws_t (List.mem_of_getElem? (i := 759) (by decide +kernel)) (by decide +kernel)
theorem nk_W_next : NK y_W_next 4 := by unfold NK; decide +kernel
theorem k_W_77 : SK R_W 77 y_W_next 4 := ⟨ml_W_77, wm_W_next, wi_W, nk_W_next⟩
theorem ml_W_30 : Cond.methodLink R_W 30 y_X_next ∈ WS := ws_t (List.mem_of_getElem? (i := 762) (by decide +kernel)) (by decide +kernel)
theorem nk_X_next : NK y_X_next 2 := by unfold NK; decide +kernel
theorem se_X_next : Cond.selects R_X y_X_next y_X_next ∈ WS := ws_t (List.mem_of_getElem? (i := 764) (by decide +kernel)) (by decide +kernel)
theorem k_W_30 : VK R_W 30 R_X y_X_next 2 := ⟨ml_W_30, wm_X_next, se_X_next, wi_X, rfl, nk_X_next⟩
theorem ml_X_119 : Cond.methodLink R_X 119 y_T_pairOf ∈ WS := ws_t (List.mem_of_getElem? (i := 766) (by decide +kernel)) (by decide +kernel)
theorem k_X_119 : VK R_X 119 R_T y_T_pairOf 2 := ⟨ml_X_119, wm_T_pairOf, se_T_pairOf, wi_T, rfl, nk_T_pairOf⟩
theorem ml_W_81 : Cond.methodLink R_W 81 y_W_action ∈ WS := ws_t (List.mem_of_getElem? (i := 768) (by decide +kernel)) (by decide +kernel)
theorem nk_W_action : NK y_W_action 5 := by unfold NK; decide +kernel
theorem k_W_81 : SK R_W 81 y_W_action 5 := ⟨ml_W_81, wm_W_action, wi_W, nk_W_action⟩
theorem ml_W_34 : Cond.methodLink R_W 34 y_X_action ∈ WS := ws_t (List.mem_of_getElem? (i := 771) (by decide +kernel)) (by decide +kernel)
theorem nk_X_action : NK y_X_action 3 := by unfold NK; decide +kernel
theorem se_X_action : Cond.selects R_X y_X_action y_X_action ∈ WS := ws_t (List.mem_of_getElem? (i := 773) (by decide +kernel)) (by decide +kernel)
theorem k_W_34 : VK R_W 34 R_X y_X_action 3 := ⟨ml_W_34, wm_X_action, se_X_action, wi_X, rfl, nk_X_action⟩
theorem ml_X_131 : Cond.methodLink R_X 131 y_T_actionOf ∈ WS := ws_t (List.mem_of_getElem? (i := 776) (by decide +kernel)) (by decide +kernel)
theorem k_X_131 : VK R_X 131 R_T y_T_actionOf 2 := ⟨ml_X_131, wm_T_actionOf, se_T_actionOf, wi_T, rfl, nk_T_actionOf⟩
theorem ml_W_85 : Cond.methodLink R_W 85 y_W_missing ∈ WS := ws_t (List.mem_of_getElem? (i := 777) (by decide +kernel)) (by decide +kernel)
theorem nk_W_missing : NK y_W_missing 3 := by unfold NK; decide +kernel
theorem k_W_85 : SK R_W 85 y_W_missing 3 := ⟨ml_W_85, wm_W_missing, wi_W, nk_W_missing⟩
theorem ml_W_38 : Cond.methodLink R_W 38 y_X_missing ∈ WS := ws_t (List.mem_of_getElem? (i := 780) (by decide +kernel)) (by decide +kernel)
theorem nk_X_missing : NK y_X_missing 1 := by unfold NK; decide +kernel
theorem se_X_missing : Cond.selects R_X y_X_missing y_X_missing ∈ WS := ws_t (List.mem_of_getElem? (i := 782) (by decide +kernel)) (by decide +kernel)
theorem k_W_38 : VK R_W 38 R_X y_X_missing 1 := ⟨ml_W_38, wm_X_missing, se_X_missing, wi_X, rfl, nk_X_missing⟩
theorem ml_X_134 : Cond.methodLink R_X 134 y_T_missingPair ∈ WS := ws_t (List.mem_of_getElem? (i := 784) (by decide +kernel)) (by decide +kernel)
theorem nk_T_missingPair : NK y_T_missingPair 1 := by unfold NK; decide +kernel
theorem se_T_missingPair : Cond.selects R_T y_T_missingPair y_T_missingPair ∈ WS := ws_t (List.mem_of_getElem? (i := 786) (by decide +kernel)) (by decide +kernel)
theorem k_X_134 : VK R_X 134 R_T y_T_missingPair 1 := ⟨ml_X_134, wm_T_missingPair, se_T_missingPair, wi_T, rfl, nk_T_missingPair⟩
theorem ml_W_88 : Cond.methodLink R_W 88 y_W_reached ∈ WS := ws_t (List.mem_of_getElem? (i := 789) (by decide +kernel)) (by decide +kernel)
theorem nk_W_reached : NK y_W_reached 4 := by unfold NK; decide +kernel
theorem k_W_88 : SK R_W 88 y_W_reached 4 := ⟨ml_W_88, wm_W_reached, wi_W, nk_W_reached⟩
theorem ml_W_41 : Cond.methodLink R_W 41 y_X_reached ∈ WS := ws_t (List.mem_of_getElem? (i := 792) (by decide +kernel)) (by decide +kernel)
theorem nk_X_reached : NK y_X_reached 2 := by unfold NK; decide +kernel
theorem se_X_reached : Cond.selects R_X y_X_reached y_X_reached ∈ WS := ws_t (List.mem_of_getElem? (i := 794) (by decide +kernel)) (by decide +kernel)
theorem k_W_41 : VK R_W 41 R_X y_X_reached 2 := ⟨ml_W_41, wm_X_reached, se_X_reached, wi_X, rfl, nk_X_reached⟩
theorem ml_X_148 : Cond.methodLink R_X 148 y_T_isReached ∈ WS := ws_t (List.mem_of_getElem? (i := 797) (by decide +kernel)) (by decide +kernel)
theorem k_X_148 : VK R_X 148 R_T y_T_isReached 1 := ⟨ml_X_148, wm_T_isReached, se_T_isReached, wi_T, rfl, nk_T_isReached⟩
theorem ml_W_91 : Cond.methodLink R_W 91 y_W_message ∈ WS := ws_t (List.mem_of_getElem? (i := 798) (by decide +kernel)) (by decide +kernel)
theorem nk_W_message : NK y_W_message 3 := by unfold NK; decide +kernel
theorem k_W_91 : SK R_W 91 y_W_message 3 := ⟨ml_W_91, wm_W_message, wi_W, nk_W_message⟩
theorem ml_W_44 : Cond.methodLink R_W 44 y_X_message ∈ WS := ws_t (List.mem_of_getElem? (i := 801) (by decide +kernel)) (by decide +kernel)
theorem nk_X_message : NK y_X_message 1 := by unfold NK; decide +kernel
theorem se_X_message : Cond.selects R_X y_X_message y_X_message ∈ WS := ws_t (List.mem_of_getElem? (i := 803) (by decide +kernel)) (by decide +kernel)
theorem k_W_44 : VK R_W 44 R_X y_X_message 1 := ⟨ml_W_44, wm_X_message, se_X_message, wi_X, rfl, nk_X_message⟩
theorem ml_X_157 : Cond.methodLink R_X 157 y_T_isSent ∈ WS := ws_t (List.mem_of_getElem? (i := 806) (by decide +kernel)) (by decide +kernel)
theorem nk_T_isSent : NK y_T_isSent 1 := by unfold NK; decide +kernel
theorem se_T_isSent : Cond.selects R_T y_T_isSent y_T_isSent ∈ WS := ws_t (List.mem_of_getElem? (i := 808) (by decide +kernel)) (by decide +kernel)
theorem k_X_157 : VK R_X 157 R_T y_T_isSent 1 := ⟨ml_X_157, wm_T_isSent, se_T_isSent, wi_T, rfl, nk_T_isSent⟩
theorem ml_T_72 : Cond.methodLink R_T 72 y_T_sends ∈ WS := ws_t (List.mem_of_getElem? (i := 810) (by decide +kernel)) (by decide +kernel)
theorem nk_T_sends : NK y_T_sends 2 := by unfold NK; decide +kernel
theorem se_T_sends : Cond.selects R_T y_T_sends y_T_sends ∈ WS := ws_p (q := (y_T_sends, 7)) (List.mem_of_getElem? (i := 37) (by decide +kernel)) (by decide +kernel)
theorem k_T_72 : VK R_T 72 R_T y_T_sends 2 := ⟨ml_T_72, wm_T_sends, se_T_sends, wi_T, rfl, nk_T_sends⟩
theorem ml_X_160 : Cond.methodLink R_X 160 y_T_isAwaited ∈ WS := ws_t (List.mem_of_getElem? (i := 814) (by decide +kernel)) (by decide +kernel)
theorem nk_T_isAwaited : NK y_T_isAwaited 1 := by unfold NK; decide +kernel
theorem se_T_isAwaited : Cond.selects R_T y_T_isAwaited y_T_isAwaited ∈ WS := ws_t (List.mem_of_getElem? (i := 816) (by decide +kernel)) (by decide +kernel)
theorem k_X_160 : VK R_X 160 R_T y_T_isAwaited 1 := ⟨ml_X_160, wm_T_isAwaited, se_T_isAwaited, wi_T, rfl, nk_T_isAwaited⟩
theorem ml_W_102 : Cond.methodLink R_W 102 y_W_out ∈ WS := ws_t (List.mem_of_getElem? (i := 818) (by decide +kernel)) (by decide +kernel)
theorem nk_W_out : NK y_W_out 3 := by unfold NK; decide +kernel
theorem k_W_102 : SK R_W 102 y_W_out 3 := ⟨ml_W_102, wm_W_out, wi_W, nk_W_out⟩
theorem ml_W_47 : Cond.methodLink R_W 47 y_X_out ∈ WS := ws_t (List.mem_of_getElem? (i := 821) (by decide +kernel)) (by decide +kernel)
theorem nk_X_out : NK y_X_out 1 := by unfold NK; decide +kernel
theorem se_X_out : Cond.selects R_X y_X_out y_X_out ∈ WS := ws_t (List.mem_of_getElem? (i := 823) (by decide +kernel)) (by decide +kernel)
theorem k_W_47 : VK R_W 47 R_X y_X_out 1 := ⟨ml_W_47, wm_X_out, se_X_out, wi_X, rfl, nk_X_out⟩
theorem ml_W_105 : Cond.methodLink R_W 105 y_W_again ∈ WS := ws_t (List.mem_of_getElem? (i := 826) (by decide +kernel)) (by decide +kernel)
theorem nk_W_again : NK y_W_again 2 := by unfold NK; decide +kernel
theorem k_W_105 : SK R_W 105 y_W_again 2 := ⟨ml_W_105, wm_W_again, wi_W, nk_W_again⟩
theorem ml_W_50 : Cond.methodLink R_W 50 y_X_again ∈ WS := ws_t (List.mem_of_getElem? (i := 829) (by decide +kernel)) (by decide +kernel)
theorem nk_X_again : NK y_X_again 0 := by unfold NK; decide +kernel
theorem se_X_again : Cond.selects R_X y_X_again y_X_again ∈ WS := ws_t (List.mem_of_getElem? (i := 831) (by decide +kernel)) (by decide +kernel)
theorem k_W_50 : VK R_W 50 R_X y_X_again 0 := ⟨ml_W_50, wm_X_again, se_X_again, wi_X, rfl, nk_X_again⟩
theorem ml_W_56 : Cond.methodLink R_W 56 y_M_init ∈ WS := ws_t (List.mem_of_getElem? (i := 839) (by decide +kernel)) (by decide +kernel)
theorem nk_M_init : NK y_M_init 0 := by unfold NK; decide +kernel
theorem k_W_56 : IK R_W 56 y_M_init 0 := ⟨ml_W_56, wm_M_init, wi_M, nk_M_init, rfl⟩
theorem ml_M_1 : Cond.methodLink R_M 1 y_jO_init ∈ WS := ws_t (List.mem_of_getElem? (i := 842) (by decide +kernel)) (by decide +kernel)
theorem ml_M_52 : Cond.methodLink R_M 52 y_M_forget ∈ WS := ws_t (List.mem_of_getElem? (i := 843) (by decide +kernel)) (by decide +kernel)
theorem nk_M_forget : NK y_M_forget 0 := by unfold NK; decide +kernel
theorem se_M_forget : Cond.selects R_M y_M_forget y_M_forget ∈ WS := ws_p (q := (y_M_forget, 28)) (List.mem_of_getElem? (i := 38) (by decide +kernel)) (by decide +kernel)
theorem k_M_52 : VK R_M 52 R_M y_M_forget 0 := ⟨ml_M_52, wm_M_forget, se_M_forget, wi_M, rfl, nk_M_forget⟩
theorem ml_W_63 : Cond.methodLink R_W 63 y_M_thrown ∈ WS := ws_t (List.mem_of_getElem? (i := 932) (by decide +kernel)) (by decide +kernel)
theorem nk_M_thrown : NK y_M_thrown 0 := by unfold NK; decide +kernel
theorem se_M_thrown : Cond.selects R_M y_M_thrown y_M_thrown ∈ WS := ws_t (List.mem_of_getElem? (i := 934) (by decide +kernel)) (by decide +kernel)
theorem k_W_63 : VK R_W 63 R_M y_M_thrown 0 := ⟨ml_W_63, wm_M_thrown, se_M_thrown, wi_M, rfl, nk_M_thrown⟩
theorem ml_W_62 : Cond.methodLink R_W 62 y_M_feed ∈ WS := ws_t (List.mem_of_getElem? (i := 936) (by decide +kernel)) (by decide +kernel)
theorem nk_M_feed : NK y_M_feed 4 := by unfold NK; decide +kernel
theorem se_M_feed : Cond.selects R_M y_M_feed y_M_feed ∈ WS := ws_t (List.mem_of_getElem? (i := 938) (by decide +kernel)) (by decide +kernel)
theorem k_W_62 : VK R_W 62 R_M y_M_feed 4 := ⟨ml_W_62, wm_M_feed, se_M_feed, wi_M, rfl, nk_M_feed⟩
theorem ml_M_62 : Cond.methodLink R_M 62 y_M_fail ∈ WS := ws_t (List.mem_of_getElem? (i := 940) (by decide +kernel)) (by decide +kernel)
theorem nk_M_fail : NK y_M_fail 1 := by unfold NK; decide +kernel
theorem se_M_fail : Cond.selects R_M y_M_fail y_M_fail ∈ WS := ws_p (q := (y_M_fail, 28)) (List.mem_of_getElem? (i := 39) (by decide +kernel)) (by decide +kernel)
theorem k_M_62 : VK R_M 62 R_M y_M_fail 1 := ⟨ml_M_62, wm_M_fail, se_M_fail, wi_M, rfl, nk_M_fail⟩
theorem ml_W_69 : Cond.methodLink R_W 69 y_M_end ∈ WS := ws_t (List.mem_of_getElem? (i := 944) (by decide +kernel)) (by decide +kernel)
theorem nk_M_end : NK y_M_end 1 := by unfold NK; decide +kernel
theorem se_M_end : Cond.selects R_M y_M_end y_M_end ∈ WS := ws_t (List.mem_of_getElem? (i := 946) (by decide +kernel)) (by decide +kernel)
theorem k_W_69 : VK R_W 69 R_M y_M_end 1 := ⟨ml_W_69, wm_M_end, se_M_end, wi_M, rfl, nk_M_end⟩
theorem ml_M_66 : Cond.methodLink R_M 66 y_M_within ∈ WS := ws_t (List.mem_of_getElem? (i := 948) (by decide +kernel)) (by decide +kernel)
theorem nk_M_within : NK y_M_within 3 := by unfold NK; decide +kernel
theorem k_M_66 : SK R_M 66 y_M_within 3 := ⟨ml_M_66, wm_M_within, wi_M, nk_M_within⟩
theorem ml_W_73 : Cond.methodLink R_W 73 y_M_read ∈ WS := ws_t (List.mem_of_getElem? (i := 951) (by decide +kernel)) (by decide +kernel)
theorem nk_M_read : NK y_M_read 0 := by unfold NK; decide +kernel
theorem se_M_read : Cond.selects R_M y_M_read y_M_read ∈ WS := ws_t (List.mem_of_getElem? (i := 953) (by decide +kernel)) (by decide +kernel)
theorem k_W_73 : VK R_W 73 R_M y_M_read 0 := ⟨ml_W_73, wm_M_read, se_M_read, wi_M, rfl, nk_M_read⟩
theorem ml_M_112 : Cond.methodLink R_M 112 y_M_advance ∈ WS := ws_t (List.mem_of_getElem? (i := 955) (by decide +kernel)) (by decide +kernel)
theorem nk_M_advance : NK y_M_advance 0 := by unfold NK; decide +kernel
theorem se_M_advance : Cond.selects R_M y_M_advance y_M_advance ∈ WS := ws_p (q := (y_M_advance, 28)) (List.mem_of_getElem? (i := 40) (by decide +kernel)) (by decide +kernel)
theorem k_M_112 : VK R_M 112 R_M y_M_advance 0 := ⟨ml_M_112, wm_M_advance, se_M_advance, wi_M, rfl, nk_M_advance⟩
theorem ml_M_89 : Cond.methodLink R_M 89 y_M_passWhite ∈ WS := ws_t (List.mem_of_getElem? (i := 959) (by decide +kernel)) (by decide +kernel)
theorem nk_M_passWhite : NK y_M_passWhite 0 := by unfold NK; decide +kernel
theorem se_M_passWhite : Cond.selects R_M y_M_passWhite y_M_passWhite ∈ WS := ws_p (q := (y_M_passWhite, 28)) (List.mem_of_getElem? (i := 41) (by decide +kernel)) (by decide +kernel)
theorem k_M_89 : VK R_M 89 R_M y_M_passWhite 0 := ⟨ml_M_89, wm_M_passWhite, se_M_passWhite, wi_M, rfl, nk_M_passWhite⟩
theorem ml_M_82 : Cond.methodLink R_M 82 y_M_isWhite ∈ WS := ws_t (List.mem_of_getElem? (i := 963) (by decide +kernel)) (by decide +kernel)
theorem nk_M_isWhite : NK y_M_isWhite 1 := by unfold NK; decide +kernel
theorem k_M_82 : SK R_M 82 y_M_isWhite 1 := ⟨ml_M_82, wm_M_isWhite, wi_M, nk_M_isWhite⟩
theorem ml_M_95 : Cond.methodLink R_M 95 y_M_isSmall ∈ WS := ws_t (List.mem_of_getElem? (i := 966) (by decide +kernel)) (by decide +kernel)
theorem nk_M_isSmall : NK y_M_isSmall 1 := by unfold NK; decide +kernel
theorem k_M_95 : SK R_M 95 y_M_isSmall 1 := ⟨ml_M_95, wm_M_isSmall, wi_M, nk_M_isSmall⟩
theorem ml_M_98 : Cond.methodLink R_M 98 y_M_wordHere ∈ WS := ws_t (List.mem_of_getElem? (i := 969) (by decide +kernel)) (by decide +kernel)
theorem nk_M_wordHere : NK y_M_wordHere 0 := by unfold NK; decide +kernel
theorem se_M_wordHere : Cond.selects R_M y_M_wordHere y_M_wordHere ∈ WS := ws_p (q := (y_M_wordHere, 28)) (List.mem_of_getElem? (i := 42) (by decide +kernel)) (by decide +kernel)
theorem k_M_98 : VK R_M 98 R_M y_M_wordHere 0 := ⟨ml_M_98, wm_M_wordHere, se_M_wordHere, wi_M, rfl, nk_M_wordHere⟩
theorem ml_M_105 : Cond.methodLink R_M 105 y_M_tell ∈ WS := ws_t (List.mem_of_getElem? (i := 973) (by decide +kernel)) (by decide +kernel)
theorem nk_M_tell : NK y_M_tell 2 := by unfold NK; decide +kernel
theorem se_M_tell : Cond.selects R_M y_M_tell y_M_tell ∈ WS := ws_p (q := (y_M_tell, 28)) (List.mem_of_getElem? (i := 43) (by decide +kernel)) (by decide +kernel)
theorem k_M_105 : VK R_M 105 R_M y_M_tell 2 := ⟨ml_M_105, wm_M_tell, se_M_tell, wi_M, rfl, nk_M_tell⟩
theorem ml_M_169 : Cond.methodLink R_M 169 y_M_readStatement ∈ WS := ws_t (List.mem_of_getElem? (i := 977) (by decide +kernel)) (by decide +kernel)
theorem nk_M_readStatement : NK y_M_readStatement 0 := by unfold NK; decide +kernel
theorem se_M_readStatement : Cond.selects R_M y_M_readStatement y_M_readStatement ∈ WS := ws_p (q := (y_M_readStatement, 28)) (List.mem_of_getElem? (i := 44) (by decide +kernel)) (by decide +kernel)
theorem k_M_169 : VK R_M 169 R_M y_M_readStatement 0 := ⟨ml_M_169, wm_M_readStatement, se_M_readStatement, wi_M, rfl, nk_M_readStatement⟩
theorem ml_M_157 : Cond.methodLink R_M 157 y_M_readNames ∈ WS := ws_t (List.mem_of_getElem? (i := 981) (by decide +kernel)) (by decide +kernel)
theorem nk_M_readNames : NK y_M_readNames 1 := by unfold NK; decide +kernel
theorem se_M_readNames : Cond.selects R_M y_M_readNames y_M_readNames ∈ WS := ws_p (q := (y_M_readNames, 28)) (List.mem_of_getElem? (i := 45) (by decide +kernel)) (by decide +kernel)
theorem k_M_157 : VK R_M 157 R_M y_M_readNames 1 := ⟨ml_M_157, wm_M_readNames, se_M_readNames, wi_M, rfl, nk_M_readNames⟩
theorem ml_M_128 : Cond.methodLink R_M 128 y_M_newName ∈ WS := ws_t (List.mem_of_getElem? (i := 985) (by decide +kernel)) (by decide +kernel)
theorem nk_M_newName : NK y_M_newName 1 := by unfold NK; decide +kernel
theorem se_M_newName : Cond.selects R_M y_M_newName y_M_newName ∈ WS := ws_p (q := (y_M_newName, 28)) (List.mem_of_getElem? (i := 46) (by decide +kernel)) (by decide +kernel)
theorem k_M_128 : VK R_M 128 R_M y_M_newName 1 := ⟨ml_M_128, wm_M_newName, se_M_newName, wi_M, rfl, nk_M_newName⟩
theorem ml_M_121 : Cond.methodLink R_M 121 y_M_find ∈ WS := ws_t (List.mem_of_getElem? (i := 989) (by decide +kernel)) (by decide +kernel)
theorem nk_M_find : NK y_M_find 0 := by unfold NK; decide +kernel
theorem se_M_find : Cond.selects R_M y_M_find y_M_find ∈ WS := ws_p (q := (y_M_find, 28)) (List.mem_of_getElem? (i := 47) (by decide +kernel)) (by decide +kernel)
theorem k_M_121 : VK R_M 121 R_M y_M_find 0 := ⟨ml_M_121, wm_M_find, se_M_find, wi_M, rfl, nk_M_find⟩
theorem ml_M_118 : Cond.methodLink R_M 118 y_M_isAt ∈ WS := ws_t (List.mem_of_getElem? (i := 993) (by decide +kernel)) (by decide +kernel)
theorem nk_M_isAt : NK y_M_isAt 1 := by unfold NK; decide +kernel
theorem se_M_isAt : Cond.selects R_M y_M_isAt y_M_isAt ∈ WS := ws_p (q := (y_M_isAt, 28)) (List.mem_of_getElem? (i := 48) (by decide +kernel)) (by decide +kernel)
theorem k_M_118 : VK R_M 118 R_M y_M_isAt 1 := ⟨ml_M_118, wm_M_isAt, se_M_isAt, wi_M, rfl, nk_M_isAt⟩
theorem ml_M_132 : Cond.methodLink R_M 132 y_M_comma ∈ WS := ws_t (List.mem_of_getElem? (i := 997) (by decide +kernel)) (by decide +kernel)
theorem nk_M_comma : NK y_M_comma 0 := by unfold NK; decide +kernel
theorem se_M_comma : Cond.selects R_M y_M_comma y_M_comma ∈ WS := ws_p (q := (y_M_comma, 28)) (List.mem_of_getElem? (i := 49) (by decide +kernel)) (by decide +kernel)
theorem k_M_132 : VK R_M 132 R_M y_M_comma 0 := ⟨ml_M_132, wm_M_comma, se_M_comma, wi_M, rfl, nk_M_comma⟩
theorem ml_M_109 : Cond.methodLink R_M 109 y_M_isSign ∈ WS := ws_t (List.mem_of_getElem? (i := 1001) (by decide +kernel)) (by decide +kernel)
theorem nk_M_isSign : NK y_M_isSign 1 := by unfold NK; decide +kernel
theorem se_M_isSign : Cond.selects R_M y_M_isSign y_M_isSign ∈ WS := ws_p (q := (y_M_isSign, 28)) (List.mem_of_getElem? (i := 50) (by decide +kernel)) (by decide +kernel)
theorem k_M_109 : VK R_M 109 R_M y_M_isSign 1 := ⟨ml_M_109, wm_M_isSign, se_M_isSign, wi_M, rfl, nk_M_isSign⟩
theorem ml_M_160 : Cond.methodLink R_M 160 y_M_readRule ∈ WS := ws_t (List.mem_of_getElem? (i := 1005) (by decide +kernel)) (by decide +kernel)
theorem nk_M_readRule : NK y_M_readRule 0 := by unfold NK; decide +kernel
theorem se_M_readRule : Cond.selects R_M y_M_readRule y_M_readRule ∈ WS := ws_p (q := (y_M_readRule, 28)) (List.mem_of_getElem? (i := 51) (by decide +kernel)) (by decide +kernel)
theorem k_M_160 : VK R_M 160 R_M y_M_readRule 0 := ⟨ml_M_160, wm_M_readRule, se_M_readRule, wi_M, rfl, nk_M_readRule⟩
theorem ml_M_139 : Cond.methodLink R_M 139 y_M_takeState ∈ WS := ws_t (List.mem_of_getElem? (i := 1009) (by decide +kernel)) (by decide +kernel)
theorem nk_M_takeState : NK y_M_takeState 0 := by unfold NK; decide +kernel
theorem se_M_takeState : Cond.selects R_M y_M_takeState y_M_takeState ∈ WS := ws_p (q := (y_M_takeState, 28)) (List.mem_of_getElem? (i := 52) (by decide +kernel)) (by decide +kernel)
theorem k_M_139 : VK R_M 139 R_M y_M_takeState 0 := ⟨ml_M_139, wm_M_takeState, se_M_takeState, wi_M, rfl, nk_M_takeState⟩
theorem ml_M_124 : Cond.methodLink R_M 124 y_M_oldName ∈ WS := ws_t (List.mem_of_getElem? (i := 1013) (by decide +kernel)) (by decide +kernel)
theorem nk_M_oldName : NK y_M_oldName 2 := by unfold NK; decide +kernel
theorem se_M_oldName : Cond.selects R_M y_M_oldName y_M_oldName ∈ WS := ws_p (q := (y_M_oldName, 28)) (List.mem_of_getElem? (i := 53) (by decide +kernel)) (by decide +kernel)
theorem k_M_124 : VK R_M 124 R_M y_M_oldName 2 := ⟨ml_M_124, wm_M_oldName, se_M_oldName, wi_M, rfl, nk_M_oldName⟩
theorem ml_M_142 : Cond.methodLink R_M 142 y_M_takePair ∈ WS := ws_t (List.mem_of_getElem? (i := 1017) (by decide +kernel)) (by decide +kernel)
theorem nk_M_takePair : NK y_M_takePair 1 := by unfold NK; decide +kernel
theorem se_M_takePair : Cond.selects R_M y_M_takePair y_M_takePair ∈ WS := ws_p (q := (y_M_takePair, 28)) (List.mem_of_getElem? (i := 54) (by decide +kernel)) (by decide +kernel)
theorem k_M_142 : VK R_M 142 R_M y_M_takePair 1 := ⟨ml_M_142, wm_M_takePair, se_M_takePair, wi_M, rfl, nk_M_takePair⟩
theorem ml_M_145 : Cond.methodLink R_M 145 y_M_sign ∈ WS := ws_t (List.mem_of_getElem? (i := 1021) (by decide +kernel)) (by decide +kernel)
theorem nk_M_sign : NK y_M_sign 1 := by unfold NK; decide +kernel
theorem se_M_sign : Cond.selects R_M y_M_sign y_M_sign ∈ WS := ws_p (q := (y_M_sign, 28)) (List.mem_of_getElem? (i := 55) (by decide +kernel)) (by decide +kernel)
theorem k_M_145 : VK R_M 145 R_M y_M_sign 1 := ⟨ml_M_145, wm_M_sign, se_M_sign, wi_M, rfl, nk_M_sign⟩
theorem ml_M_148 : Cond.methodLink R_M 148 y_M_readActions ∈ WS := ws_t (List.mem_of_getElem? (i := 1025) (by decide +kernel)) (by decide +kernel)
theorem nk_M_readActions : NK y_M_readActions 1 := by unfold NK; decide +kernel
theorem se_M_readActions : Cond.selects R_M y_M_readActions y_M_readActions ∈ WS := ws_p (q := (y_M_readActions, 28)) (List.mem_of_getElem? (i := 56) (by decide +kernel)) (by decide +kernel)
theorem k_M_148 : VK R_M 148 R_M y_M_readActions 1 := ⟨ml_M_148, wm_M_readActions, se_M_readActions, wi_M, rfl, nk_M_readActions⟩
theorem ml_M_136 : Cond.methodLink R_M 136 y_M_isWord ∈ WS := ws_t (List.mem_of_getElem? (i := 1029) (by decide +kernel)) (by decide +kernel)
theorem nk_M_isWord : NK y_M_isWord 1 := by unfold NK; decide +kernel
theorem se_M_isWord : Cond.selects R_M y_M_isWord y_M_isWord ∈ WS := ws_p (q := (y_M_isWord, 28)) (List.mem_of_getElem? (i := 57) (by decide +kernel)) (by decide +kernel)
theorem k_M_136 : VK R_M 136 R_M y_M_isWord 1 := ⟨ml_M_136, wm_M_isWord, se_M_isWord, wi_M, rfl, nk_M_isWord⟩
theorem ml_M_163 : Cond.methodLink R_M 163 y_M_readNever ∈ WS := ws_t (List.mem_of_getElem? (i := 1033) (by decide +kernel)) (by decide +kernel)
theorem nk_M_readNever : NK y_M_readNever 0 := by unfold NK; decide +kernel
theorem se_M_readNever : Cond.selects R_M y_M_readNever y_M_readNever ∈ WS := ws_p (q := (y_M_readNever, 28)) (List.mem_of_getElem? (i := 58) (by decide +kernel)) (by decide +kernel)
theorem k_M_163 : VK R_M 163 R_M y_M_readNever 0 := ⟨ml_M_163, wm_M_readNever, se_M_readNever, wi_M, rfl, nk_M_readNever⟩
theorem ml_W_76 : Cond.methodLink R_W 76 y_M_fault ∈ WS := ws_t (List.mem_of_getElem? (i := 1037) (by decide +kernel)) (by decide +kernel)
theorem nk_M_fault : NK y_M_fault 1 := by unfold NK; decide +kernel
theorem se_M_fault : Cond.selects R_M y_M_fault y_M_fault ∈ WS := ws_t (List.mem_of_getElem? (i := 1039) (by decide +kernel)) (by decide +kernel)
theorem k_W_76 : VK R_W 76 R_M y_M_fault 1 := ⟨ml_W_76, wm_M_fault, se_M_fault, wi_M, rfl, nk_M_fault⟩
theorem ml_W_80 : Cond.methodLink R_W 80 y_M_next ∈ WS := ws_t (List.mem_of_getElem? (i := 1041) (by decide +kernel)) (by decide +kernel)
theorem nk_M_next : NK y_M_next 2 := by unfold NK; decide +kernel
theorem se_M_next : Cond.selects R_M y_M_next y_M_next ∈ WS := ws_t (List.mem_of_getElem? (i := 1043) (by decide +kernel)) (by decide +kernel)
theorem k_W_80 : VK R_W 80 R_M y_M_next 2 := ⟨ml_W_80, wm_M_next, se_M_next, wi_M, rfl, nk_M_next⟩
theorem ml_M_178 : Cond.methodLink R_M 178 y_M_isPair ∈ WS := ws_t (List.mem_of_getElem? (i := 1045) (by decide +kernel)) (by decide +kernel)
theorem nk_M_isPair : NK y_M_isPair 2 := by unfold NK; decide +kernel
theorem se_M_isPair : Cond.selects R_M y_M_isPair y_M_isPair ∈ WS := ws_p (q := (y_M_isPair, 28)) (List.mem_of_getElem? (i := 59) (by decide +kernel)) (by decide +kernel)
theorem k_M_178 : VK R_M 178 R_M y_M_isPair 2 := ⟨ml_M_178, wm_M_isPair, se_M_isPair, wi_M, rfl, nk_M_isPair⟩
theorem ml_M_172 : Cond.methodLink R_M 172 y_M_events ∈ WS := ws_t (List.mem_of_getElem? (i := 1049) (by decide +kernel)) (by decide +kernel)
theorem nk_M_events : NK y_M_events 0 := by unfold NK; decide +kernel
theorem se_M_events : Cond.selects R_M y_M_events y_M_events ∈ WS := ws_p (q := (y_M_events, 28)) (List.mem_of_getElem? (i := 60) (by decide +kernel)) (by decide +kernel)
theorem k_M_172 : VK R_M 172 R_M y_M_events 0 := ⟨ml_M_172, wm_M_events, se_M_events, wi_M, rfl, nk_M_events⟩
theorem ml_M_182 : Cond.methodLink R_M 182 y_M_at ∈ WS := ws_t (List.mem_of_getElem? (i := 1053) (by decide +kernel)) (by decide +kernel)
theorem nk_M_at : NK y_M_at 2 := by unfold NK; decide +kernel
theorem se_M_at : Cond.selects R_M y_M_at y_M_at ∈ WS := ws_p (q := (y_M_at, 28)) (List.mem_of_getElem? (i := 61) (by decide +kernel)) (by decide +kernel)
theorem k_M_182 : VK R_M 182 R_M y_M_at 2 := ⟨ml_M_182, wm_M_at, se_M_at, wi_M, rfl, nk_M_at⟩
theorem ml_M_175 : Cond.methodLink R_M 175 y_M_slotOf ∈ WS := ws_t (List.mem_of_getElem? (i := 1057) (by decide +kernel)) (by decide +kernel)
theorem nk_M_slotOf : NK y_M_slotOf 1 := by unfold NK; decide +kernel
theorem se_M_slotOf : Cond.selects R_M y_M_slotOf y_M_slotOf ∈ WS := ws_p (q := (y_M_slotOf, 28)) (List.mem_of_getElem? (i := 62) (by decide +kernel)) (by decide +kernel)
theorem k_M_175 : VK R_M 175 R_M y_M_slotOf 1 := ⟨ml_M_175, wm_M_slotOf, se_M_slotOf, wi_M, rfl, nk_M_slotOf⟩
theorem ml_W_84 : Cond.methodLink R_W 84 y_M_action ∈ WS := ws_t (List.mem_of_getElem? (i := 1061) (by decide +kernel)) (by decide +kernel)
theorem nk_M_action : NK y_M_action 3 := by unfold NK; decide +kernel
theorem se_M_action : Cond.selects R_M y_M_action y_M_action ∈ WS := ws_t (List.mem_of_getElem? (i := 1063) (by decide +kernel)) (by decide +kernel)
theorem k_W_84 : VK R_W 84 R_M y_M_action 3 := ⟨ml_W_84, wm_M_action, se_M_action, wi_M, rfl, nk_M_action⟩
theorem ml_W_87 : Cond.methodLink R_W 87 y_M_missing ∈ WS := ws_t (List.mem_of_getElem? (i := 1065) (by decide +kernel)) (by decide +kernel)
theorem nk_M_missing : NK y_M_missing 1 := by unfold NK; decide +kernel
theorem se_M_missing : Cond.selects R_M y_M_missing y_M_missing ∈ WS := ws_t (List.mem_of_getElem? (i := 1067) (by decide +kernel)) (by decide +kernel)
theorem k_W_87 : VK R_W 87 R_M y_M_missing 1 := ⟨ml_W_87, wm_M_missing, se_M_missing, wi_M, rfl, nk_M_missing⟩
theorem ml_W_90 : Cond.methodLink R_W 90 y_M_reached ∈ WS := ws_t (List.mem_of_getElem? (i := 1069) (by decide +kernel)) (by decide +kernel)
theorem nk_M_reached : NK y_M_reached 2 := by unfold NK; decide +kernel
theorem se_M_reached : Cond.selects R_M y_M_reached y_M_reached ∈ WS := ws_t (List.mem_of_getElem? (i := 1071) (by decide +kernel)) (by decide +kernel)
theorem k_W_90 : VK R_W 90 R_M y_M_reached 2 := ⟨ml_W_90, wm_M_reached, se_M_reached, wi_M, rfl, nk_M_reached⟩
theorem ml_M_185 : Cond.methodLink R_M 185 y_M_reach ∈ WS := ws_t (List.mem_of_getElem? (i := 1073) (by decide +kernel)) (by decide +kernel)
theorem nk_M_reach : NK y_M_reach 0 := by unfold NK; decide +kernel
theorem se_M_reach : Cond.selects R_M y_M_reach y_M_reach ∈ WS := ws_p (q := (y_M_reach, 28)) (List.mem_of_getElem? (i := 63) (by decide +kernel)) (by decide +kernel)
theorem k_M_185 : VK R_M 185 R_M y_M_reach 0 := ⟨ml_M_185, wm_M_reach, se_M_reach, wi_M, rfl, nk_M_reach⟩
theorem ml_W_93 : Cond.methodLink R_W 93 y_M_message ∈ WS := ws_t (List.mem_of_getElem? (i := 1077) (by decide +kernel)) (by decide +kernel)
theorem nk_M_message : NK y_M_message 1 := by unfold NK; decide +kernel
theorem se_M_message : Cond.selects R_M y_M_message y_M_message ∈ WS := ws_t (List.mem_of_getElem? (i := 1079) (by decide +kernel)) (by decide +kernel)
theorem k_W_93 : VK R_W 93 R_M y_M_message 1 := ⟨ml_W_93, wm_M_message, se_M_message, wi_M, rfl, nk_M_message⟩
theorem ml_M_188 : Cond.methodLink R_M 188 y_M_sends ∈ WS := ws_t (List.mem_of_getElem? (i := 1081) (by decide +kernel)) (by decide +kernel)
theorem nk_M_sends : NK y_M_sends 2 := by unfold NK; decide +kernel
theorem se_M_sends : Cond.selects R_M y_M_sends y_M_sends ∈ WS := ws_p (q := (y_M_sends, 28)) (List.mem_of_getElem? (i := 64) (by decide +kernel)) (by decide +kernel)
theorem k_M_188 : VK R_M 188 R_M y_M_sends 2 := ⟨ml_M_188, wm_M_sends, se_M_sends, wi_M, rfl, nk_M_sends⟩
theorem ml_W_97 : Cond.methodLink R_W 97 y_M_print ∈ WS := ws_t (List.mem_of_getElem? (i := 1085) (by decide +kernel)) (by decide +kernel)
theorem nk_M_print : NK y_M_print 0 := by unfold NK; decide +kernel
theorem se_M_print : Cond.selects R_M y_M_print y_M_print ∈ WS := ws_t (List.mem_of_getElem? (i := 1087) (by decide +kernel)) (by decide +kernel)
theorem k_W_97 : VK R_W 97 R_M y_M_print 0 := ⟨ml_W_97, wm_M_print, se_M_print, wi_M, rfl, nk_M_print⟩
theorem ml_M_212 : Cond.methodLink R_M 212 y_M_printNames ∈ WS := ws_t (List.mem_of_getElem? (i := 1089) (by decide +kernel)) (by decide +kernel)
theorem nk_M_printNames : NK y_M_printNames 1 := by unfold NK; decide +kernel
theorem se_M_printNames : Cond.selects R_M y_M_printNames y_M_printNames ∈ WS := ws_p (q := (y_M_printNames, 28)) (List.mem_of_getElem? (i := 65) (by decide +kernel)) (by decide +kernel)
theorem k_M_212 : VK R_M 212 R_M y_M_printNames 1 := ⟨ml_M_212, wm_M_printNames, se_M_printNames, wi_M, rfl, nk_M_printNames⟩
theorem ml_M_200 : Cond.methodLink R_M 200 y_M_sayWord ∈ WS := ws_t (List.mem_of_getElem? (i := 1093) (by decide +kernel)) (by decide +kernel)
theorem nk_M_sayWord : NK y_M_sayWord 1 := by unfold NK; decide +kernel
theorem se_M_sayWord : Cond.selects R_M y_M_sayWord y_M_sayWord ∈ WS := ws_p (q := (y_M_sayWord, 28)) (List.mem_of_getElem? (i := 66) (by decide +kernel)) (by decide +kernel)
theorem k_M_200 : VK R_M 200 R_M y_M_sayWord 1 := ⟨ml_M_200, wm_M_sayWord, se_M_sayWord, wi_M, rfl, nk_M_sayWord⟩
theorem ml_M_194 : Cond.methodLink R_M 194 y_M_say ∈ WS := ws_t (List.mem_of_getElem? (i := 1097) (by decide +kernel)) (by decide +kernel)
theorem nk_M_say : NK y_M_say 1 := by unfold NK; decide +kernel
theorem se_M_say : Cond.selects R_M y_M_say y_M_say ∈ WS := ws_p (q := (y_M_say, 28)) (List.mem_of_getElem? (i := 67) (by decide +kernel)) (by decide +kernel)
theorem k_M_194 : VK R_M 194 R_M y_M_say 1 := ⟨ml_M_194, wm_M_say, se_M_say, wi_M, rfl, nk_M_say⟩
theorem ml_M_197 : Cond.methodLink R_M 197 y_M_sayName ∈ WS := ws_t (List.mem_of_getElem? (i := 1101) (by decide +kernel)) (by decide +kernel)
theorem nk_M_sayName : NK y_M_sayName 2 := by unfold NK; decide +kernel
theorem se_M_sayName : Cond.selects R_M y_M_sayName y_M_sayName ∈ WS := ws_p (q := (y_M_sayName, 28)) (List.mem_of_getElem? (i := 68) (by decide +kernel)) (by decide +kernel)
theorem k_M_197 : VK R_M 197 R_M y_M_sayName 2 := ⟨ml_M_197, wm_M_sayName, se_M_sayName, wi_M, rfl, nk_M_sayName⟩
theorem ml_M_203 : Cond.methodLink R_M 203 y_M_endLine ∈ WS := ws_t (List.mem_of_getElem? (i := 1105) (by decide +kernel)) (by decide +kernel)
theorem nk_M_endLine : NK y_M_endLine 0 := by unfold NK; decide +kernel
theorem se_M_endLine : Cond.selects R_M y_M_endLine y_M_endLine ∈ WS := ws_p (q := (y_M_endLine, 28)) (List.mem_of_getElem? (i := 69) (by decide +kernel)) (by decide +kernel)
theorem k_M_203 : VK R_M 203 R_M y_M_endLine 0 := ⟨ml_M_203, wm_M_endLine, se_M_endLine, wi_M, rfl, nk_M_endLine⟩
theorem ml_M_215 : Cond.methodLink R_M 215 y_M_printPair ∈ WS := ws_t (List.mem_of_getElem? (i := 1109) (by decide +kernel)) (by decide +kernel)
theorem nk_M_printPair : NK y_M_printPair 2 := by unfold NK; decide +kernel
theorem se_M_printPair : Cond.selects R_M y_M_printPair y_M_printPair ∈ WS := ws_p (q := (y_M_printPair, 28)) (List.mem_of_getElem? (i := 70) (by decide +kernel)) (by decide +kernel)
theorem k_M_215 : VK R_M 215 R_M y_M_printPair 2 := ⟨ml_M_215, wm_M_printPair, se_M_printPair, wi_M, rfl, nk_M_printPair⟩
theorem ml_M_206 : Cond.methodLink R_M 206 y_M_sayEvent ∈ WS := ws_t (List.mem_of_getElem? (i := 1113) (by decide +kernel)) (by decide +kernel)
theorem nk_M_sayEvent : NK y_M_sayEvent 1 := by unfold NK; decide +kernel
theorem se_M_sayEvent : Cond.selects R_M y_M_sayEvent y_M_sayEvent ∈ WS := ws_p (q := (y_M_sayEvent, 28)) (List.mem_of_getElem? (i := 71) (by decide +kernel)) (by decide +kernel)
theorem k_M_206 : VK R_M 206 R_M y_M_sayEvent 1 := ⟨ml_M_206, wm_M_sayEvent, se_M_sayEvent, wi_M, rfl, nk_M_sayEvent⟩
theorem ml_M_209 : Cond.methodLink R_M 209 y_M_printActions ∈ WS := ws_t (List.mem_of_getElem? (i := 1117) (by decide +kernel)) (by decide +kernel)
theorem nk_M_printActions : NK y_M_printActions 1 := by unfold NK; decide +kernel
theorem se_M_printActions : Cond.selects R_M y_M_printActions y_M_printActions ∈ WS := ws_p (q := (y_M_printActions, 28)) (List.mem_of_getElem? (i := 72) (by decide +kernel)) (by decide +kernel)
theorem k_M_209 : VK R_M 209 R_M y_M_printActions 1 := ⟨ml_M_209, wm_M_printActions, se_M_printActions, wi_M, rfl, nk_M_printActions⟩
theorem ml_W_101 : Cond.methodLink R_W 101 y_M_draw ∈ WS := ws_t (List.mem_of_getElem? (i := 1121) (by decide +kernel)) (by decide +kernel)
theorem nk_M_draw : NK y_M_draw 0 := by unfold NK; decide +kernel
theorem se_M_draw : Cond.selects R_M y_M_draw y_M_draw ∈ WS := ws_t (List.mem_of_getElem? (i := 1123) (by decide +kernel)) (by decide +kernel)
theorem k_W_101 : VK R_W 101 R_M y_M_draw 0 := ⟨ml_W_101, wm_M_draw, se_M_draw, wi_M, rfl, nk_M_draw⟩
theorem ml_M_218 : Cond.methodLink R_M 218 y_M_lengthOf ∈ WS := ws_t (List.mem_of_getElem? (i := 1125) (by decide +kernel)) (by decide +kernel)
theorem nk_M_lengthOf : NK y_M_lengthOf 2 := by unfold NK; decide +kernel
theorem se_M_lengthOf : Cond.selects R_M y_M_lengthOf y_M_lengthOf ∈ WS := ws_p (q := (y_M_lengthOf, 28)) (List.mem_of_getElem? (i := 73) (by decide +kernel)) (by decide +kernel)
theorem k_M_218 : VK R_M 218 R_M y_M_lengthOf 2 := ⟨ml_M_218, wm_M_lengthOf, se_M_lengthOf, wi_M, rfl, nk_M_lengthOf⟩
theorem ml_M_224 : Cond.methodLink R_M 224 y_M_fill ∈ WS := ws_t (List.mem_of_getElem? (i := 1129) (by decide +kernel)) (by decide +kernel)
theorem nk_M_fill : NK y_M_fill 1 := by unfold NK; decide +kernel
theorem se_M_fill : Cond.selects R_M y_M_fill y_M_fill ∈ WS := ws_p (q := (y_M_fill, 28)) (List.mem_of_getElem? (i := 74) (by decide +kernel)) (by decide +kernel)
theorem k_M_224 : VK R_M 224 R_M y_M_fill 1 := ⟨ml_M_224, wm_M_fill, se_M_fill, wi_M, rfl, nk_M_fill⟩
theorem ml_M_227 : Cond.methodLink R_M 227 y_M_drawCell ∈ WS := ws_t (List.mem_of_getElem? (i := 1133) (by decide +kernel)) (by decide +kernel)
theorem nk_M_drawCell : NK y_M_drawCell 2 := by unfold NK; decide +kernel
theorem se_M_drawCell : Cond.selects R_M y_M_drawCell y_M_drawCell ∈ WS := ws_p (q := (y_M_drawCell, 28)) (List.mem_of_getElem? (i := 75) (by decide +kernel)) (by decide +kernel)
theorem k_M_227 : VK R_M 227 R_M y_M_drawCell 2 := ⟨ml_M_227, wm_M_drawCell, se_M_drawCell, wi_M, rfl, nk_M_drawCell⟩
theorem ml_M_221 : Cond.methodLink R_M 221 y_M_widthOf ∈ WS := ws_t (List.mem_of_getElem? (i := 1137) (by decide +kernel)) (by decide +kernel)
theorem nk_M_widthOf : NK y_M_widthOf 1 := by unfold NK; decide +kernel
theorem se_M_widthOf : Cond.selects R_M y_M_widthOf y_M_widthOf ∈ WS := ws_p (q := (y_M_widthOf, 28)) (List.mem_of_getElem? (i := 76) (by decide +kernel)) (by decide +kernel)
theorem k_M_221 : VK R_M 221 R_M y_M_widthOf 1 := ⟨ml_M_221, wm_M_widthOf, se_M_widthOf, wi_M, rfl, nk_M_widthOf⟩
theorem ml_M_230 : Cond.methodLink R_M 230 y_M_endDrawn ∈ WS := ws_t (List.mem_of_getElem? (i := 1141) (by decide +kernel)) (by decide +kernel)
theorem nk_M_endDrawn : NK y_M_endDrawn 1 := by unfold NK; decide +kernel
theorem se_M_endDrawn : Cond.selects R_M y_M_endDrawn y_M_endDrawn ∈ WS := ws_p (q := (y_M_endDrawn, 28)) (List.mem_of_getElem? (i := 77) (by decide +kernel)) (by decide +kernel)
theorem k_M_230 : VK R_M 230 R_M y_M_endDrawn 1 := ⟨ml_M_230, wm_M_endDrawn, se_M_endDrawn, wi_M, rfl, nk_M_endDrawn⟩
theorem ml_W_104 : Cond.methodLink R_W 104 y_M_out ∈ WS := ws_t (List.mem_of_getElem? (i := 1145) (by decide +kernel)) (by decide +kernel)
theorem nk_M_out : NK y_M_out 1 := by unfold NK; decide +kernel
theorem se_M_out : Cond.selects R_M y_M_out y_M_out ∈ WS := ws_t (List.mem_of_getElem? (i := 1147) (by decide +kernel)) (by decide +kernel)
theorem k_W_104 : VK R_W 104 R_M y_M_out 1 := ⟨ml_W_104, wm_M_out, se_M_out, wi_M, rfl, nk_M_out⟩
theorem ml_W_107 : Cond.methodLink R_W 107 y_M_again ∈ WS := ws_t (List.mem_of_getElem? (i := 1149) (by decide +kernel)) (by decide +kernel)
theorem nk_M_again : NK y_M_again 0 := by unfold NK; decide +kernel
theorem se_M_again : Cond.selects R_M y_M_again y_M_again ∈ WS := ws_t (List.mem_of_getElem? (i := 1151) (by decide +kernel)) (by decide +kernel)
theorem k_W_107 : VK R_W 107 R_M y_M_again 0 := ⟨ml_W_107, wm_M_again, se_M_again, wi_M, rfl, nk_M_again⟩
theorem ml_W_111 : Cond.methodLink R_W 111 y_M_count ∈ WS := ws_t (List.mem_of_getElem? (i := 1153) (by decide +kernel)) (by decide +kernel)
theorem nk_M_count : NK y_M_count 1 := by unfold NK; decide +kernel
theorem se_M_count : Cond.selects R_M y_M_count y_M_count ∈ WS := ws_t (List.mem_of_getElem? (i := 1155) (by decide +kernel)) (by decide +kernel)
theorem k_W_111 : VK R_W 111 R_M y_M_count 1 := ⟨ml_W_111, wm_M_count, se_M_count, wi_M, rfl, nk_M_count⟩
theorem ml_M_233 : Cond.methodLink R_M 233 y_M_missingOf ∈ WS := ws_t (List.mem_of_getElem? (i := 1157) (by decide +kernel)) (by decide +kernel)
theorem nk_M_missingOf : NK y_M_missingOf 1 := by unfold NK; decide +kernel
theorem se_M_missingOf : Cond.selects R_M y_M_missingOf y_M_missingOf ∈ WS := ws_p (q := (y_M_missingOf, 28)) (List.mem_of_getElem? (i := 78) (by decide +kernel)) (by decide +kernel)
theorem k_M_233 : VK R_M 233 R_M y_M_missingOf 1 := ⟨ml_M_233, wm_M_missingOf, se_M_missingOf, wi_M, rfl, nk_M_missingOf⟩
