/-! Names: classes, their fields, methods, what each instruction decodes to (written by wip/whole/gen/names.py) -/
def R_NW : String := "NearWords"
def F_NW : u_T := fun k => match k with
  | 0 => ("NearWords", "input", "LNearWords$Row;", false)
  | 1 => ("NearWords", "taken", "LNearWords$Row;", false)
  | 2 => ("NearWords", "words", "LNearWords$WordList;", true)
  | 3 => ("NearWords", "result", "LNearWords$Result;", true)
  | 4 => ("NearWords", "pattern", "LNearWords$Pattern;", true)
  | 5 => ("NearWords", "meter", "LNearWords$Meter;", true)
  | _ => ("NearWords", "nearest", "LNearWords$Nearest;", true)
def t_NW : Nat → FieldType := fun k => match k with
  | 0 => (.object "NearWords$Row")
  | 1 => (.object "NearWords$Row")
  | 2 => (.object "NearWords$WordList")
  | 3 => (.object "NearWords$Result")
  | 4 => (.object "NearWords$Pattern")
  | 5 => (.object "NearWords$Meter")
  | _ => (.object "NearWords$Nearest")
theorem n_NW : ∀ a, a < 7 → ∀ b, b < 7 → a ≠ b → (F_NW a).2.1 ≠ (F_NW b).2.1 := by decide +kernel
theorem t_NW_ok : ∀ k, k < 7 → parseFieldDescriptor (F_NW k).2.2.1 = some (t_NW k) := by decide +kernel
def R_Mod : String := "NearWordsModel"
def F_Mod : u_T := fun k => match k with
  | 0 => ("NearWordsModel", "input", "[B", true)
  | 1 => ("NearWordsModel", "word", "[B", true)
  | 2 => ("NearWordsModel", "result", "[B", true)
  | 3 => ("NearWordsModel", "length", "[I", true)
  | 4 => ("NearWordsModel", "resultLength", "[I", true)
  | 5 => ("NearWordsModel", "resultDistance", "[I", true)
  | 6 => ("NearWordsModel", "chosen", "[I", true)
  | 7 => ("NearWordsModel", "far", "[I", true)
  | 8 => ("NearWordsModel", "step", "[I", true)
  | 9 => ("NearWordsModel", "now", "[Z", true)
  | 10 => ("NearWordsModel", "next", "[Z", true)
  | 11 => ("NearWordsModel", "inputSize", "I", false)
  | 12 => ("NearWordsModel", "words", "I", false)
  | 13 => ("NearWordsModel", "characters", "I", false)
  | 14 => ("NearWordsModel", "results", "I", false)
  | _ => ("NearWordsModel", "thrown", "I", false)
def t_Mod : Nat → FieldType := fun k => match k with
  | 0 => (.array .byte)
  | 1 => (.array .byte)
  | 2 => (.array .byte)
  | 3 => (.array .int)
  | 4 => (.array .int)
  | 5 => (.array .int)
  | 6 => (.array .int)
  | 7 => (.array .int)
  | 8 => (.array .int)
  | 9 => (.array .boolean)
  | 10 => (.array .boolean)
  | 11 => .int
  | 12 => .int
  | 13 => .int
  | 14 => .int
  | _ => .int
theorem n_Mod : ∀ a, a < 16 → ∀ b, b < 16 → a ≠ b → (F_Mod a).2.1 ≠ (F_Mod b).2.1 := by decide +kernel
theorem t_Mod_ok : ∀ k, k < 16 → parseFieldDescriptor (F_Mod k).2.2.1 = some (t_Mod k) := by decide +kernel
def R_Met : String := "NearWords$Meter"
def F_Met : u_T := fun k => match k with
  | 0 => ("NearWords$Meter", "placesOf", "[J", true)
  | 1 => ("NearWords$Meter", "reach", "[[J", true)
  | _ => ("NearWords$Meter", "aimLength", "I", false)
def t_Met : Nat → FieldType := fun k => match k with
  | 0 => (.array .long)
  | 1 => (.array (.array .long))
  | _ => .int
theorem n_Met : ∀ a, a < 3 → ∀ b, b < 3 → a ≠ b → (F_Met a).2.1 ≠ (F_Met b).2.1 := by decide +kernel
theorem t_Met_ok : ∀ k, k < 3 → parseFieldDescriptor (F_Met k).2.2.1 = some (t_Met k) := by decide +kernel
def R_Near : String := "NearWords$Nearest"
def F_Near : u_T := fun k => match k with
  | 0 => ("NearWords$Nearest", "steps", "[B", true)
  | _ => ("NearWords$Nearest", "withSteps", "[I", true)
def t_Near : Nat → FieldType := fun k => match k with
  | 0 => (.array .byte)
  | _ => (.array .int)
theorem n_Near : ∀ a, a < 2 → ∀ b, b < 2 → a ≠ b → (F_Near a).2.1 ≠ (F_Near b).2.1 := by decide +kernel
theorem t_Near_ok : ∀ k, k < 2 → parseFieldDescriptor (F_Near k).2.2.1 = some (t_Near k) := by decide +kernel
def R_Pat : String := "NearWords$Pattern"
def F_Pat : u_T := fun k => match k with
  | 0 => ("NearWords$Pattern", "placesOf", "[J", true)
  | 1 => ("NearWords$Pattern", "anyRow", "J", false)
  | 2 => ("NearWords$Pattern", "anyOne", "J", false)
  | _ => ("NearWords$Pattern", "length", "I", false)
def t_Pat : Nat → FieldType := fun k => match k with
  | 0 => (.array .long)
  | 1 => .long
  | 2 => .long
  | _ => .int
theorem n_Pat : ∀ a, a < 4 → ∀ b, b < 4 → a ≠ b → (F_Pat a).2.1 ≠ (F_Pat b).2.1 := by decide +kernel
theorem t_Pat_ok : ∀ k, k < 4 → parseFieldDescriptor (F_Pat k).2.2.1 = some (t_Pat k) := by decide +kernel
def R_Res : String := "NearWords$Result"
def F_Res : u_T := fun k => match k with
  | 0 => ("NearWords$Result", "characters", "[[B", true)
  | 1 => ("NearWords$Result", "lengths", "[I", true)
  | 2 => ("NearWords$Result", "steps", "[I", true)
  | _ => ("NearWords$Result", "size", "I", false)
def t_Res : Nat → FieldType := fun k => match k with
  | 0 => (.array (.array .byte))
  | 1 => (.array .int)
  | 2 => (.array .int)
  | _ => .int
theorem n_Res : ∀ a, a < 4 → ∀ b, b < 4 → a ≠ b → (F_Res a).2.1 ≠ (F_Res b).2.1 := by decide +kernel
theorem t_Res_ok : ∀ k, k < 4 → parseFieldDescriptor (F_Res k).2.2.1 = some (t_Res k) := by decide +kernel
def R_Row : String := "NearWords$Row"
def F_Row : u_T := fun k => match k with
  | 0 => ("NearWords$Row", "characters", "[B", true)
  | _ => ("NearWords$Row", "length", "I", false)
def t_Row : Nat → FieldType := fun k => match k with
  | 0 => (.array .byte)
  | _ => .int
theorem n_Row : ∀ a, a < 2 → ∀ b, b < 2 → a ≠ b → (F_Row a).2.1 ≠ (F_Row b).2.1 := by decide +kernel
theorem t_Row_ok : ∀ k, k < 2 → parseFieldDescriptor (F_Row k).2.2.1 = some (t_Row k) := by decide +kernel
def R_WL : String := "NearWords$WordList"
def F_WL : u_T := fun k => match k with
  | 0 => ("NearWords$WordList", "characters", "[B", true)
  | 1 => ("NearWords$WordList", "starts", "[I", true)
  | _ => ("NearWords$WordList", "size", "I", false)
def t_WL : Nat → FieldType := fun k => match k with
  | 0 => (.array .byte)
  | 1 => (.array .int)
  | _ => .int
theorem n_WL : ∀ a, a < 3 → ∀ b, b < 3 → a ≠ b → (F_WL a).2.1 ≠ (F_WL b).2.1 := by decide +kernel
theorem t_WL_ok : ∀ k, k < 3 → parseFieldDescriptor (F_WL k).2.2.1 = some (t_WL k) := by decide +kernel
def R_Law : String := "NearWordsLaw"
def R_Arr : String := "java/util/Arrays"
abbrev nw_cls : List vw_C := [(R_NW, F_NW, 7), (R_Mod, F_Mod, 16), (R_Met, F_Met, 3), (R_Near, F_Near, 2), (R_Pat, F_Pat, 4), (R_Res, F_Res, 4), (R_Row, F_Row, 2), (R_WL, F_WL, 3)]
abbrev b_Row_length : ByteArray := prog_6_method_2_code
def y_Row_length : MethodName := ⟨R_Row, "length", "()I"⟩
abbrev b_Row_isEmpty : ByteArray := prog_6_method_3_code
def y_Row_isEmpty : MethodName := ⟨R_Row, "isEmpty", "()Z"⟩
abbrev b_Row_at : ByteArray := prog_6_method_4_code
def y_Row_at : MethodName := ⟨R_Row, "at", "(I)I"⟩
abbrev b_Row_clear : ByteArray := prog_6_method_5_code
def y_Row_clear : MethodName := ⟨R_Row, "clear", "()V"⟩
abbrev b_Row_append : ByteArray := prog_6_method_6_code
def y_Row_append : MethodName := ⟨R_Row, "append", "(I)V"⟩
abbrev b_Row_copyTo : ByteArray := prog_6_method_7_code
def y_Row_copyTo : MethodName := ⟨R_Row, "copyTo", "([BI)V"⟩
abbrev b_WL_size : ByteArray := prog_7_method_2_code
def y_WL_size : MethodName := ⟨R_WL, "size", "()I"⟩
abbrev b_WL_characters : ByteArray := prog_7_method_3_code
def y_WL_characters : MethodName := ⟨R_WL, "characters", "()I"⟩
abbrev b_WL_lengthOf : ByteArray := prog_7_method_4_code
def y_WL_lengthOf : MethodName := ⟨R_WL, "lengthOf", "(I)I"⟩
abbrev b_WL_at : ByteArray := prog_7_method_5_code
def y_WL_at : MethodName := ⟨R_WL, "at", "(II)I"⟩
abbrev b_WL_longest : ByteArray := prog_7_method_6_code
def y_WL_longest : MethodName := ⟨R_WL, "longest", "()I"⟩
abbrev b_WL_compare : ByteArray := prog_7_method_13_code
def y_WL_compare : MethodName := ⟨R_WL, "compare", "(ILNearWords$Row;)I"⟩
abbrev b_WL_placeOf : ByteArray := prog_7_method_7_code
def y_WL_placeOf : MethodName := ⟨R_WL, "placeOf", "(LNearWords$Row;)I"⟩
abbrev b_WL_isAt : ByteArray := prog_7_method_8_code
def y_WL_isAt : MethodName := ⟨R_WL, "isAt", "(ILNearWords$Row;)Z"⟩
abbrev b_WL_hasRoomFor : ByteArray := prog_7_method_9_code
def y_WL_hasRoomFor : MethodName := ⟨R_WL, "hasRoomFor", "(LNearWords$Row;)Z"⟩
abbrev b_WL_insertAt : ByteArray := prog_7_method_10_code
def y_WL_insertAt : MethodName := ⟨R_WL, "insertAt", "(ILNearWords$Row;)V"⟩
abbrev b_WL_deleteAt : ByteArray := prog_7_method_11_code
def y_WL_deleteAt : MethodName := ⟨R_WL, "deleteAt", "(I)V"⟩
abbrev b_Arr_fillJ : ByteArray := prog_17_method_101_code
def y_Arr_fillJ : MethodName := ⟨R_Arr, "fill", "([JJ)V"⟩
abbrev b_Arr_fillI : ByteArray := prog_17_method_103_code
def y_Arr_fillI : MethodName := ⟨R_Arr, "fill", "([II)V"⟩
abbrev b_Row_init : ByteArray := prog_6_method_1_code
def y_Row_init : MethodName := ⟨R_Row, "<init>", "()V"⟩
abbrev b_WL_init : ByteArray := prog_7_method_1_code
def y_WL_init : MethodName := ⟨R_WL, "<init>", "()V"⟩
abbrev b_Pat_init : ByteArray := prog_4_method_1_code
def y_Pat_init : MethodName := ⟨R_Pat, "<init>", "()V"⟩
abbrev b_Near_init : ByteArray := prog_3_method_1_code
def y_Near_init : MethodName := ⟨R_Near, "<init>", "()V"⟩
abbrev b_Mod_thrown : ByteArray := prog_9_method_2_code
def y_Mod_thrown : MethodName := ⟨R_Mod, "thrown", "()I"⟩
abbrev b_Mod_least : ByteArray := prog_9_method_4_code
def y_Mod_least : MethodName := ⟨R_Mod, "least", "(II)I"⟩
abbrev b_Mod_take : ByteArray := prog_9_method_5_code
def y_Mod_take : MethodName := ⟨R_Mod, "take", "()I"⟩
abbrev b_Mod_order : ByteArray := prog_9_method_6_code
def y_Mod_order : MethodName := ⟨R_Mod, "order", "(II)I"⟩
abbrev b_Mod_standing : ByteArray := prog_9_method_7_code
def y_Mod_standing : MethodName := ⟨R_Mod, "standing", "(I)I"⟩
abbrev b_Mod_before : ByteArray := prog_9_method_16_code
def y_Mod_before : MethodName := ⟨R_Mod, "before", "()I"⟩
abbrev b_Mod_count : ByteArray := prog_9_method_19_code
def y_Mod_count : MethodName := ⟨R_Mod, "count", "(I)I"⟩
abbrev b_Mod_letter : ByteArray := prog_9_method_17_code
def y_Mod_letter : MethodName := ⟨R_Mod, "letter", "(II)I"⟩
abbrev b_Mod_distance : ByteArray := prog_9_method_18_code
def y_Mod_distance : MethodName := ⟨R_Mod, "distance", "(I)I"⟩
abbrev b_Mod_shift : ByteArray := prog_9_method_8_code
def y_Mod_shift : MethodName := ⟨R_Mod, "shift", "(III)V"⟩
abbrev b_Mod_keep : ByteArray := prog_9_method_12_code
def y_Mod_keep : MethodName := ⟨R_Mod, "keep", "(III)V"⟩
abbrev b_Mod_steps : ByteArray := prog_9_method_11_code
def y_Mod_steps : MethodName := ⟨R_Mod, "steps", "(II)I"⟩
abbrev b_Mod_fits : ByteArray := prog_9_method_14_code
def y_Mod_fits : MethodName := ⟨R_Mod, "fits", "(II)Z"⟩
abbrev b_Mod_add : ByteArray := prog_9_method_9_code
def y_Mod_add : MethodName := ⟨R_Mod, "add", "()I"⟩
abbrev b_Mod_remove : ByteArray := prog_9_method_10_code
def y_Mod_remove : MethodName := ⟨R_Mod, "remove", "()I"⟩
abbrev b_Mod_like : ByteArray := prog_9_method_15_code
def y_Mod_like : MethodName := ⟨R_Mod, "like", "()I"⟩
abbrev b_Mod_near : ByteArray := prog_9_method_13_code
def y_Mod_near : MethodName := ⟨R_Mod, "near", "(I)I"⟩
abbrev b_Mod_type : ByteArray := prog_9_method_3_code
def y_Mod_type : MethodName := ⟨R_Mod, "type", "(JJ)I"⟩
abbrev b_Mod_init : ByteArray := prog_9_method_1_code
def y_Mod_init : MethodName := ⟨R_Mod, "<init>", "()V"⟩
