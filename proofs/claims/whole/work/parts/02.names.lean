/-! names: classes, fields, word lists, methods (printed by wip/gen/names.py) -/
abbrev RX0 : String := "CopyHeap$Half"
def TX0 : u_T := fun k => match k with
  | 0 => ("CopyHeap$Half", "words", "[I", true)
  | 1 => ("CopyHeap$Half", "used", "I", false)
  | _ => ("CopyHeap$Half", "objects", "I", false)
def tyX0 : Nat → FieldType := fun k => match k with
  | 0 => .array .int
  | 1 => .int
  | _ => .int
theorem nmX0 : ∀ a, a < 3 → ∀ b, b < 3 → a ≠ b → (TX0 a).2.1 ≠ (TX0 b).2.1 := by decide +kernel
theorem tkX0 : ∀ k, k < 3 → parseFieldDescriptor (TX0 k).2.2.1 = some (tyX0 k) := by decide +kernel
abbrev RX1 : String := "CopyHeap"
def TX1 : u_T := fun k => match k with
  | 0 => ("CopyHeap", "registers", "[I", true)
  | 1 => ("CopyHeap", "inUse", "LCopyHeap$Half;", false)
  | 2 => ("CopyHeap", "spare", "LCopyHeap$Half;", false)
  | 3 => ("CopyHeap", "collections", "I", false)
  | _ => ("CopyHeap", "movedWords", "I", false)
def tyX1 : Nat → FieldType := fun k => match k with
  | 0 => .array .int
  | 1 => .object "CopyHeap$Half"
  | 2 => .object "CopyHeap$Half"
  | 3 => .int
  | _ => .int
theorem nmX1 : ∀ a, a < 5 → ∀ b, b < 5 → a ≠ b → (TX1 a).2.1 ≠ (TX1 b).2.1 := by decide +kernel
theorem tkX1 : ∀ k, k < 5 → parseFieldDescriptor (TX1 k).2.2.1 = some (tyX1 k) := by decide +kernel
abbrev RX2 : String := "CopyHeapModel"
def TX2 : u_T := fun k => match k with
  | 0 => ("CopyHeapModel", "thrown", "I", false)
  | 1 => ("CopyHeapModel", "half", "I", true)
  | 2 => ("CopyHeapModel", "used", "I", false)
  | 3 => ("CopyHeapModel", "collections", "I", false)
  | 4 => ("CopyHeapModel", "moved", "I", false)
  | 5 => ("CopyHeapModel", "sort", "[I", true)
  | 6 => ("CopyHeapModel", "value", "[I", true)
  | 7 => ("CopyHeapModel", "newSort", "[I", true)
  | 8 => ("CopyHeapModel", "newValue", "[I", true)
  | 9 => ("CopyHeapModel", "registerSort", "[I", true)
  | 10 => ("CopyHeapModel", "registerValue", "[I", true)
  | 11 => ("CopyHeapModel", "stays", "I", false)
  | 12 => ("CopyHeapModel", "stay", "[I", true)
  | _ => ("CopyHeapModel", "goes", "[I", true)
def tyX2 : Nat → FieldType := fun k => match k with
  | 0 => .int
  | 1 => .int
  | 2 => .int
  | 3 => .int
  | 4 => .int
  | 5 => .array .int
  | 6 => .array .int
  | 7 => .array .int
  | 8 => .array .int
  | 9 => .array .int
  | 10 => .array .int
  | 11 => .int
  | 12 => .array .int
  | _ => .array .int
theorem nmX2 : ∀ a, a < 14 → ∀ b, b < 14 → a ≠ b → (TX2 a).2.1 ≠ (TX2 b).2.1 := by decide +kernel
theorem tkX2 : ∀ k, k < 14 → parseFieldDescriptor (TX2 k).2.2.1 = some (tyX2 k) := by decide +kernel
abbrev RL : String := "CopyHeapLaw"
abbrev vwCl : List vw_C := [(RX0, TX0, 3), (RX1, TX1, 5), (RX2, TX2, 14)]
/-- the good words of the tables: every method's words are its own code and these -/
def gT : List Cond := lw_tbl.filter goodWord
theorem gT_good {ws : List Cond} (h : ∀ w ∈ ws, w ∈ gT) : GoodIn gT ws := fun w hw => ⟨h w hw, good_of_word (List.mem_filter.mp (h w hw)).2⟩
theorem gT_tbl {args : Array Value} {s : State} (h : ∀ w ∈ lw_tbl, w.before args s = true) : ∀ w ∈ gT, w.before args s = true := fun w hw => h w (List.mem_filter.mp hw).1
theorem iX0 : ∀ w ∈ u_ws RX0 TX0 3, w ∈ gT := by decide +kernel
theorem iX1 : ∀ w ∈ u_ws RX1 TX1 5, w ∈ gT := by decide +kernel
theorem iX2 : ∀ w ∈ u_ws RX2 TX2 14, w ∈ gT := by decide +kernel
theorem g_0 : (.initialized "CopyHeapLaw" : Cond) ∈ gT := List.mem_filter.mpr ⟨List.mem_append_right _ (List.mem_of_getElem? (i := 0) (by decide +kernel)), by decide +kernel⟩
theorem g_1 : (.initialized "CopyHeap" : Cond) ∈ gT := List.mem_filter.mpr ⟨List.mem_append_right _ (List.mem_of_getElem? (i := 1) (by decide +kernel)), by decide +kernel⟩
theorem g_2 : (.initialized "CopyHeap$Half" : Cond) ∈ gT := List.mem_filter.mpr ⟨List.mem_append_right _ (List.mem_of_getElem? (i := 2) (by decide +kernel)), by decide +kernel⟩
theorem g_3 : (.initialized "CopyHeapModel" : Cond) ∈ gT := List.mem_filter.mpr ⟨List.mem_append_right _ (List.mem_of_getElem? (i := 3) (by decide +kernel)), by decide +kernel⟩
theorem g_4 : (.initialized "java/lang/Throwable" : Cond) ∈ gT := List.mem_filter.mpr ⟨List.mem_append_right _ (List.mem_of_getElem? (i := 4) (by decide +kernel)), by decide +kernel⟩
theorem g_5 : (.initialized "java/lang/Exception" : Cond) ∈ gT := List.mem_filter.mpr ⟨List.mem_append_right _ (List.mem_of_getElem? (i := 5) (by decide +kernel)), by decide +kernel⟩
theorem g_6 : (.initialized "java/lang/RuntimeException" : Cond) ∈ gT := List.mem_filter.mpr ⟨List.mem_append_right _ (List.mem_of_getElem? (i := 6) (by decide +kernel)), by decide +kernel⟩
theorem g_7 : (.initialized "java/lang/IllegalArgumentException" : Cond) ∈ gT := List.mem_filter.mpr ⟨List.mem_append_right _ (List.mem_of_getElem? (i := 7) (by decide +kernel)), by decide +kernel⟩
theorem g_8 : (.initialized "java/lang/IllegalStateException" : Cond) ∈ gT := List.mem_filter.mpr ⟨List.mem_append_right _ (List.mem_of_getElem? (i := 8) (by decide +kernel)), by decide +kernel⟩
theorem g_9 : (.initialized "java/lang/IndexOutOfBoundsException" : Cond) ∈ gT := List.mem_filter.mpr ⟨List.mem_append_right _ (List.mem_of_getElem? (i := 9) (by decide +kernel)), by decide +kernel⟩
theorem g_10 : (.classLink "CopyHeapLaw" 8 "CopyHeap" : Cond) ∈ gT := List.mem_filter.mpr ⟨List.mem_append_right _ (List.mem_of_getElem? (i := 10) (by decide +kernel)), by decide +kernel⟩
theorem g_11 : (.instantiable "CopyHeap" 5 : Cond) ∈ gT := List.mem_filter.mpr ⟨List.mem_append_right _ (List.mem_of_getElem? (i := 11) (by decide +kernel)), by decide +kernel⟩
theorem g_12 : (.methodLink "CopyHeapLaw" 54 ⟨"CopyHeap", "<init>", "(I)V"⟩ : Cond) ∈ gT := List.mem_filter.mpr ⟨List.mem_append_right _ (List.mem_of_getElem? (i := 12) (by decide +kernel)), by decide +kernel⟩
theorem g_13 : (.instanceMethod ⟨"CopyHeap", "<init>", "(I)V"⟩ : Cond) ∈ gT := List.mem_filter.mpr ⟨List.mem_append_right _ (List.mem_of_getElem? (i := 13) (by decide +kernel)), by decide +kernel⟩
theorem g_14 : (.code ⟨"CopyHeap", "<init>", "(I)V"⟩ prog_1_method_1_code 2 (none) : Cond) ∈ gT := List.mem_filter.mpr ⟨List.mem_append_right _ (List.mem_of_getElem? (i := 14) (by decide +kernel)), by decide +kernel⟩
theorem g_15 : (.methodLink "CopyHeap" 1 ⟨"java/lang/Object", "<init>", "()V"⟩ : Cond) ∈ gT := List.mem_filter.mpr ⟨List.mem_append_right _ (List.mem_of_getElem? (i := 15) (by decide +kernel)), by decide +kernel⟩
theorem g_16 : (.instanceMethod ⟨"java/lang/Object", "<init>", "()V"⟩ : Cond) ∈ gT := List.mem_filter.mpr ⟨List.mem_append_right _ (List.mem_of_getElem? (i := 16) (by decide +kernel)), by decide +kernel⟩
theorem g_17 : (.code ⟨"java/lang/Object", "<init>", "()V"⟩ object_method_1_code 1 (none) : Cond) ∈ gT := List.mem_filter.mpr ⟨List.mem_append_right _ (List.mem_of_getElem? (i := 17) (by decide +kernel)), by decide +kernel⟩
theorem g_18 : (.classLink "CopyHeap" 13 "CopyHeap$Half" : Cond) ∈ gT := List.mem_filter.mpr ⟨List.mem_append_right _ (List.mem_of_getElem? (i := 18) (by decide +kernel)), by decide +kernel⟩
theorem g_19 : (.instantiable "CopyHeap$Half" 3 : Cond) ∈ gT := List.mem_filter.mpr ⟨List.mem_append_right _ (List.mem_of_getElem? (i := 19) (by decide +kernel)), by decide +kernel⟩
theorem g_20 : (.methodLink "CopyHeap" 15 ⟨"CopyHeap$Half", "<init>", "(I)V"⟩ : Cond) ∈ gT := List.mem_filter.mpr ⟨List.mem_append_right _ (List.mem_of_getElem? (i := 20) (by decide +kernel)), by decide +kernel⟩
theorem g_21 : (.instanceMethod ⟨"CopyHeap$Half", "<init>", "(I)V"⟩ : Cond) ∈ gT := List.mem_filter.mpr ⟨List.mem_append_right _ (List.mem_of_getElem? (i := 21) (by decide +kernel)), by decide +kernel⟩
theorem g_22 : (.code ⟨"CopyHeap$Half", "<init>", "(I)V"⟩ prog_2_method_1_code 2 (none) : Cond) ∈ gT := List.mem_filter.mpr ⟨List.mem_append_right _ (List.mem_of_getElem? (i := 22) (by decide +kernel)), by decide +kernel⟩
theorem g_23 : (.methodLink "CopyHeap$Half" 3 ⟨"java/lang/Object", "<init>", "()V"⟩ : Cond) ∈ gT := List.mem_filter.mpr ⟨List.mem_append_right _ (List.mem_of_getElem? (i := 23) (by decide +kernel)), by decide +kernel⟩
theorem g_24 : (.fieldLink "CopyHeap$Half" 11 "CopyHeap$Half" "words" "[I" : Cond) ∈ gT := List.mem_filter.mpr ⟨List.mem_append_right _ (List.mem_of_getElem? (i := 24) (by decide +kernel)), by decide +kernel⟩
theorem g_26 : (.fieldLink "CopyHeap$Half" 15 "CopyHeap$Half" "used" "I" : Cond) ∈ gT := List.mem_filter.mpr ⟨List.mem_append_right _ (List.mem_of_getElem? (i := 26) (by decide +kernel)), by decide +kernel⟩
theorem g_28 : (.fieldLink "CopyHeap$Half" 19 "CopyHeap$Half" "objects" "I" : Cond) ∈ gT := List.mem_filter.mpr ⟨List.mem_append_right _ (List.mem_of_getElem? (i := 28) (by decide +kernel)), by decide +kernel⟩
theorem g_30 : (.laysFinal "CopyHeap$Half" "CopyHeap$Half" "words" "[I" : Cond) ∈ gT := List.mem_filter.mpr ⟨List.mem_append_right _ (List.mem_of_getElem? (i := 30) (by decide +kernel)), by decide +kernel⟩
theorem g_31 : (.soleField "CopyHeap$Half" "words" : Cond) ∈ gT := List.mem_filter.mpr ⟨List.mem_append_right _ (List.mem_of_getElem? (i := 31) (by decide +kernel)), by decide +kernel⟩
theorem g_32 : (.lays "CopyHeap$Half" "CopyHeap$Half" "used" "I" : Cond) ∈ gT := List.mem_filter.mpr ⟨List.mem_append_right _ (List.mem_of_getElem? (i := 32) (by decide +kernel)), by decide +kernel⟩
theorem g_33 : (.soleField "CopyHeap$Half" "used" : Cond) ∈ gT := List.mem_filter.mpr ⟨List.mem_append_right _ (List.mem_of_getElem? (i := 33) (by decide +kernel)), by decide +kernel⟩
theorem g_34 : (.lays "CopyHeap$Half" "CopyHeap$Half" "objects" "I" : Cond) ∈ gT := List.mem_filter.mpr ⟨List.mem_append_right _ (List.mem_of_getElem? (i := 34) (by decide +kernel)), by decide +kernel⟩
theorem g_35 : (.soleField "CopyHeap$Half" "objects" : Cond) ∈ gT := List.mem_filter.mpr ⟨List.mem_append_right _ (List.mem_of_getElem? (i := 35) (by decide +kernel)), by decide +kernel⟩
theorem g_36 : (.superclass "CopyHeap$Half" "java/lang/Object" : Cond) ∈ gT := List.mem_filter.mpr ⟨List.mem_append_right _ (List.mem_of_getElem? (i := 36) (by decide +kernel)), by decide +kernel⟩
theorem g_37 : (.arrayClass .int : Cond) ∈ gT := List.mem_filter.mpr ⟨List.mem_append_right _ (List.mem_of_getElem? (i := 37) (by decide +kernel)), by decide +kernel⟩
theorem g_38 : (.fieldLink "CopyHeap" 9 "CopyHeap" "registers" "[I" : Cond) ∈ gT := List.mem_filter.mpr ⟨List.mem_append_right _ (List.mem_of_getElem? (i := 38) (by decide +kernel)), by decide +kernel⟩
theorem g_39 : (.fieldLink "CopyHeap" 18 "CopyHeap" "inUse" "LCopyHeap$Half;" : Cond) ∈ gT := List.mem_filter.mpr ⟨List.mem_append_right _ (List.mem_of_getElem? (i := 39) (by decide +kernel)), by decide +kernel⟩
theorem g_40 : (.fieldLink "CopyHeap" 22 "CopyHeap" "spare" "LCopyHeap$Half;" : Cond) ∈ gT := List.mem_filter.mpr ⟨List.mem_append_right _ (List.mem_of_getElem? (i := 40) (by decide +kernel)), by decide +kernel⟩
theorem g_41 : (.fieldLink "CopyHeap" 109 "CopyHeap" "collections" "I" : Cond) ∈ gT := List.mem_filter.mpr ⟨List.mem_append_right _ (List.mem_of_getElem? (i := 41) (by decide +kernel)), by decide +kernel⟩
theorem g_42 : (.fieldLink "CopyHeap" 112 "CopyHeap" "movedWords" "I" : Cond) ∈ gT := List.mem_filter.mpr ⟨List.mem_append_right _ (List.mem_of_getElem? (i := 42) (by decide +kernel)), by decide +kernel⟩
theorem g_43 : (.laysFinal "CopyHeap" "CopyHeap" "registers" "[I" : Cond) ∈ gT := List.mem_filter.mpr ⟨List.mem_append_right _ (List.mem_of_getElem? (i := 43) (by decide +kernel)), by decide +kernel⟩
theorem g_44 : (.soleField "CopyHeap" "registers" : Cond) ∈ gT := List.mem_filter.mpr ⟨List.mem_append_right _ (List.mem_of_getElem? (i := 44) (by decide +kernel)), by decide +kernel⟩
theorem g_45 : (.lays "CopyHeap" "CopyHeap" "inUse" "LCopyHeap$Half;" : Cond) ∈ gT := List.mem_filter.mpr ⟨List.mem_append_right _ (List.mem_of_getElem? (i := 45) (by decide +kernel)), by decide +kernel⟩
theorem g_46 : (.soleField "CopyHeap" "inUse" : Cond) ∈ gT := List.mem_filter.mpr ⟨List.mem_append_right _ (List.mem_of_getElem? (i := 46) (by decide +kernel)), by decide +kernel⟩
theorem g_47 : (.lays "CopyHeap" "CopyHeap" "spare" "LCopyHeap$Half;" : Cond) ∈ gT := List.mem_filter.mpr ⟨List.mem_append_right _ (List.mem_of_getElem? (i := 47) (by decide +kernel)), by decide +kernel⟩
theorem g_48 : (.soleField "CopyHeap" "spare" : Cond) ∈ gT := List.mem_filter.mpr ⟨List.mem_append_right _ (List.mem_of_getElem? (i := 48) (by decide +kernel)), by decide +kernel⟩
theorem g_49 : (.lays "CopyHeap" "CopyHeap" "collections" "I" : Cond) ∈ gT := List.mem_filter.mpr ⟨List.mem_append_right _ (List.mem_of_getElem? (i := 49) (by decide +kernel)), by decide +kernel⟩
theorem g_50 : (.soleField "CopyHeap" "collections" : Cond) ∈ gT := List.mem_filter.mpr ⟨List.mem_append_right _ (List.mem_of_getElem? (i := 50) (by decide +kernel)), by decide +kernel⟩
theorem g_51 : (.lays "CopyHeap" "CopyHeap" "movedWords" "I" : Cond) ∈ gT := List.mem_filter.mpr ⟨List.mem_append_right _ (List.mem_of_getElem? (i := 51) (by decide +kernel)), by decide +kernel⟩
theorem g_52 : (.soleField "CopyHeap" "movedWords" : Cond) ∈ gT := List.mem_filter.mpr ⟨List.mem_append_right _ (List.mem_of_getElem? (i := 52) (by decide +kernel)), by decide +kernel⟩
theorem g_53 : (.superclass "CopyHeap" "java/lang/Object" : Cond) ∈ gT := List.mem_filter.mpr ⟨List.mem_append_right _ (List.mem_of_getElem? (i := 53) (by decide +kernel)), by decide +kernel⟩
theorem g_54 : (.methodLink "CopyHeapLaw" 85 ⟨"CopyHeap", "collect", "()I"⟩ : Cond) ∈ gT := List.mem_filter.mpr ⟨List.mem_append_right _ (List.mem_of_getElem? (i := 54) (by decide +kernel)), by decide +kernel⟩
theorem g_55 : (.instanceMethod ⟨"CopyHeap", "collect", "()I"⟩ : Cond) ∈ gT := List.mem_filter.mpr ⟨List.mem_append_right _ (List.mem_of_getElem? (i := 55) (by decide +kernel)), by decide +kernel⟩
theorem g_56 : (.selects "CopyHeap" ⟨"CopyHeap", "collect", "()I"⟩ ⟨"CopyHeap", "collect", "()I"⟩ : Cond) ∈ gT := List.mem_filter.mpr ⟨List.mem_append_right _ (List.mem_of_getElem? (i := 56) (by decide +kernel)), by decide +kernel⟩
theorem g_57 : (.code ⟨"CopyHeap", "collect", "()I"⟩ prog_1_method_8_code 1 (some .int) : Cond) ∈ gT := List.mem_filter.mpr ⟨List.mem_append_right _ (List.mem_of_getElem? (i := 57) (by decide +kernel)), by decide +kernel⟩
theorem g_58 : (.methodLink "CopyHeap" 39 ⟨"CopyHeap", "moveToSpare", "()V"⟩ : Cond) ∈ gT := List.mem_filter.mpr ⟨List.mem_append_right _ (List.mem_of_getElem? (i := 58) (by decide +kernel)), by decide +kernel⟩
theorem g_60 : (.instanceMethod ⟨"CopyHeap", "moveToSpare", "()V"⟩ : Cond) ∈ gT := List.mem_filter.mpr ⟨List.mem_append_right _ (List.mem_of_getElem? (i := 60) (by decide +kernel)), by decide +kernel⟩
theorem g_61 : (.code ⟨"CopyHeap", "moveToSpare", "()V"⟩ prog_1_method_19_code 4 (none) : Cond) ∈ gT := List.mem_filter.mpr ⟨List.mem_append_right _ (List.mem_of_getElem? (i := 61) (by decide +kernel)), by decide +kernel⟩
theorem g_62 : (.methodLink "CopyHeap" 126 ⟨"CopyHeap$Half", "empty", "()V"⟩ : Cond) ∈ gT := List.mem_filter.mpr ⟨List.mem_append_right _ (List.mem_of_getElem? (i := 62) (by decide +kernel)), by decide +kernel⟩
theorem g_63 : (.instanceMethod ⟨"CopyHeap$Half", "empty", "()V"⟩ : Cond) ∈ gT := List.mem_filter.mpr ⟨List.mem_append_right _ (List.mem_of_getElem? (i := 63) (by decide +kernel)), by decide +kernel⟩
theorem g_64 : (.selects "CopyHeap$Half" ⟨"CopyHeap$Half", "empty", "()V"⟩ ⟨"CopyHeap$Half", "empty", "()V"⟩ : Cond) ∈ gT := List.mem_filter.mpr ⟨List.mem_append_right _ (List.mem_of_getElem? (i := 64) (by decide +kernel)), by decide +kernel⟩
theorem g_65 : (.code ⟨"CopyHeap$Half", "empty", "()V"⟩ prog_2_method_2_code 1 (none) : Cond) ∈ gT := List.mem_filter.mpr ⟨List.mem_append_right _ (List.mem_of_getElem? (i := 65) (by decide +kernel)), by decide +kernel⟩
theorem g_66 : (.methodLink "CopyHeap" 129 ⟨"CopyHeap$Half", "movedValue", "(ILCopyHeap$Half;)I"⟩ : Cond) ∈ gT := List.mem_filter.mpr ⟨List.mem_append_right _ (List.mem_of_getElem? (i := 66) (by decide +kernel)), by decide +kernel⟩
theorem g_67 : (.instanceMethod ⟨"CopyHeap$Half", "movedValue", "(ILCopyHeap$Half;)I"⟩ : Cond) ∈ gT := List.mem_filter.mpr ⟨List.mem_append_right _ (List.mem_of_getElem? (i := 67) (by decide +kernel)), by decide +kernel⟩
theorem g_68 : (.selects "CopyHeap$Half" ⟨"CopyHeap$Half", "movedValue", "(ILCopyHeap$Half;)I"⟩ ⟨"CopyHeap$Half", "movedValue", "(ILCopyHeap$Half;)I"⟩ : Cond) ∈ gT := List.mem_filter.mpr ⟨List.mem_append_right _ (List.mem_of_getElem? (i := 68) (by decide +kernel)), by decide +kernel⟩
theorem g_69 : (.code ⟨"CopyHeap$Half", "movedValue", "(ILCopyHeap$Half;)I"⟩ prog_2_method_12_code 4 (some .int) : Cond) ∈ gT := List.mem_filter.mpr ⟨List.mem_append_right _ (List.mem_of_getElem? (i := 69) (by decide +kernel)), by decide +kernel⟩
theorem g_71 : (.static ⟨"CopyHeap", "isReference", "(I)Z"⟩ : Cond) ∈ gT := List.mem_filter.mpr ⟨List.mem_append_right _ (List.mem_of_getElem? (i := 71) (by decide +kernel)), by decide +kernel⟩
theorem g_72 : (.code ⟨"CopyHeap", "isReference", "(I)Z"⟩ prog_1_method_14_code 1 (some .boolean) : Cond) ∈ gT := List.mem_filter.mpr ⟨List.mem_append_right _ (List.mem_of_getElem? (i := 72) (by decide +kernel)), by decide +kernel⟩
theorem g_74 : (.static ⟨"CopyHeap", "content", "(I)I"⟩ : Cond) ∈ gT := List.mem_filter.mpr ⟨List.mem_append_right _ (List.mem_of_getElem? (i := 74) (by decide +kernel)), by decide +kernel⟩
theorem g_75 : (.code ⟨"CopyHeap", "content", "(I)I"⟩ prog_1_method_15_code 1 (some .int) : Cond) ∈ gT := List.mem_filter.mpr ⟨List.mem_append_right _ (List.mem_of_getElem? (i := 75) (by decide +kernel)), by decide +kernel⟩
theorem g_76 : (.methodLink "CopyHeap$Half" 22 ⟨"CopyHeap$Half", "wordAt", "(I)I"⟩ : Cond) ∈ gT := List.mem_filter.mpr ⟨List.mem_append_right _ (List.mem_of_getElem? (i := 76) (by decide +kernel)), by decide +kernel⟩
theorem g_77 : (.instanceMethod ⟨"CopyHeap$Half", "wordAt", "(I)I"⟩ : Cond) ∈ gT := List.mem_filter.mpr ⟨List.mem_append_right _ (List.mem_of_getElem? (i := 77) (by decide +kernel)), by decide +kernel⟩
theorem g_78 : (.selects "CopyHeap$Half" ⟨"CopyHeap$Half", "wordAt", "(I)I"⟩ ⟨"CopyHeap$Half", "wordAt", "(I)I"⟩ : Cond) ∈ gT := List.mem_filter.mpr ⟨List.mem_append_right _ (List.mem_of_getElem? (i := 78) (by decide +kernel)), by decide +kernel⟩
theorem g_79 : (.code ⟨"CopyHeap$Half", "wordAt", "(I)I"⟩ prog_2_method_5_code 2 (some .int) : Cond) ∈ gT := List.mem_filter.mpr ⟨List.mem_append_right _ (List.mem_of_getElem? (i := 79) (by decide +kernel)), by decide +kernel⟩
theorem g_80 : (.methodLink "CopyHeap$Half" 47 ⟨"CopyHeap$Half", "moveObject", "(ILCopyHeap$Half;)I"⟩ : Cond) ∈ gT := List.mem_filter.mpr ⟨List.mem_append_right _ (List.mem_of_getElem? (i := 80) (by decide +kernel)), by decide +kernel⟩
theorem g_82 : (.instanceMethod ⟨"CopyHeap$Half", "moveObject", "(ILCopyHeap$Half;)I"⟩ : Cond) ∈ gT := List.mem_filter.mpr ⟨List.mem_append_right _ (List.mem_of_getElem? (i := 82) (by decide +kernel)), by decide +kernel⟩
theorem g_83 : (.code ⟨"CopyHeap$Half", "moveObject", "(ILCopyHeap$Half;)I"⟩ prog_2_method_13_code 6 (some .int) : Cond) ∈ gT := List.mem_filter.mpr ⟨List.mem_append_right _ (List.mem_of_getElem? (i := 83) (by decide +kernel)), by decide +kernel⟩
theorem g_84 : (.methodLink "CopyHeap$Half" 26 ⟨"CopyHeap$Half", "fieldsAt", "(I)I"⟩ : Cond) ∈ gT := List.mem_filter.mpr ⟨List.mem_append_right _ (List.mem_of_getElem? (i := 84) (by decide +kernel)), by decide +kernel⟩
theorem g_85 : (.instanceMethod ⟨"CopyHeap$Half", "fieldsAt", "(I)I"⟩ : Cond) ∈ gT := List.mem_filter.mpr ⟨List.mem_append_right _ (List.mem_of_getElem? (i := 85) (by decide +kernel)), by decide +kernel⟩
theorem g_86 : (.selects "CopyHeap$Half" ⟨"CopyHeap$Half", "fieldsAt", "(I)I"⟩ ⟨"CopyHeap$Half", "fieldsAt", "(I)I"⟩ : Cond) ∈ gT := List.mem_filter.mpr ⟨List.mem_append_right _ (List.mem_of_getElem? (i := 86) (by decide +kernel)), by decide +kernel⟩
theorem g_87 : (.code ⟨"CopyHeap$Half", "fieldsAt", "(I)I"⟩ prog_2_method_8_code 2 (some .int) : Cond) ∈ gT := List.mem_filter.mpr ⟨List.mem_append_right _ (List.mem_of_getElem? (i := 87) (by decide +kernel)), by decide +kernel⟩
theorem g_88 : (.methodLink "CopyHeap$Half" 36 ⟨"CopyHeap$Half", "addWord", "(I)V"⟩ : Cond) ∈ gT := List.mem_filter.mpr ⟨List.mem_append_right _ (List.mem_of_getElem? (i := 88) (by decide +kernel)), by decide +kernel⟩
theorem g_90 : (.instanceMethod ⟨"CopyHeap$Half", "addWord", "(I)V"⟩ : Cond) ∈ gT := List.mem_filter.mpr ⟨List.mem_append_right _ (List.mem_of_getElem? (i := 90) (by decide +kernel)), by decide +kernel⟩
theorem g_91 : (.code ⟨"CopyHeap$Half", "addWord", "(I)V"⟩ prog_2_method_11_code 2 (none) : Cond) ∈ gT := List.mem_filter.mpr ⟨List.mem_append_right _ (List.mem_of_getElem? (i := 91) (by decide +kernel)), by decide +kernel⟩
theorem g_92 : (.methodLink "CopyHeap$Half" 40 ⟨"CopyHeap$Half", "setWord", "(II)V"⟩ : Cond) ∈ gT := List.mem_filter.mpr ⟨List.mem_append_right _ (List.mem_of_getElem? (i := 92) (by decide +kernel)), by decide +kernel⟩
theorem g_93 : (.instanceMethod ⟨"CopyHeap$Half", "setWord", "(II)V"⟩ : Cond) ∈ gT := List.mem_filter.mpr ⟨List.mem_append_right _ (List.mem_of_getElem? (i := 93) (by decide +kernel)), by decide +kernel⟩
theorem g_94 : (.selects "CopyHeap$Half" ⟨"CopyHeap$Half", "setWord", "(II)V"⟩ ⟨"CopyHeap$Half", "setWord", "(II)V"⟩ : Cond) ∈ gT := List.mem_filter.mpr ⟨List.mem_append_right _ (List.mem_of_getElem? (i := 94) (by decide +kernel)), by decide +kernel⟩
theorem g_95 : (.code ⟨"CopyHeap$Half", "setWord", "(II)V"⟩ prog_2_method_6_code 3 (none) : Cond) ∈ gT := List.mem_filter.mpr ⟨List.mem_append_right _ (List.mem_of_getElem? (i := 95) (by decide +kernel)), by decide +kernel⟩
theorem g_97 : (.static ⟨"CopyHeap", "asReference", "(I)I"⟩ : Cond) ∈ gT := List.mem_filter.mpr ⟨List.mem_append_right _ (List.mem_of_getElem? (i := 97) (by decide +kernel)), by decide +kernel⟩
theorem g_98 : (.code ⟨"CopyHeap", "asReference", "(I)I"⟩ prog_1_method_13_code 1 (some .int) : Cond) ∈ gT := List.mem_filter.mpr ⟨List.mem_append_right _ (List.mem_of_getElem? (i := 98) (by decide +kernel)), by decide +kernel⟩
theorem g_99 : (.methodLink "CopyHeap" 133 ⟨"CopyHeap", "moveWhatFieldsReferTo", "(LCopyHeap$Half;LCopyHeap$Half;)V"⟩ : Cond) ∈ gT := List.mem_filter.mpr ⟨List.mem_append_right _ (List.mem_of_getElem? (i := 99) (by decide +kernel)), by decide +kernel⟩
theorem g_100 : (.static ⟨"CopyHeap", "moveWhatFieldsReferTo", "(LCopyHeap$Half;LCopyHeap$Half;)V"⟩ : Cond) ∈ gT := List.mem_filter.mpr ⟨List.mem_append_right _ (List.mem_of_getElem? (i := 100) (by decide +kernel)), by decide +kernel⟩
theorem g_101 : (.code ⟨"CopyHeap", "moveWhatFieldsReferTo", "(LCopyHeap$Half;LCopyHeap$Half;)V"⟩ prog_1_method_20_code 5 (none) : Cond) ∈ gT := List.mem_filter.mpr ⟨List.mem_append_right _ (List.mem_of_getElem? (i := 101) (by decide +kernel)), by decide +kernel⟩
theorem g_102 : (.methodLink "CopyHeap" 67 ⟨"CopyHeap$Half", "kindAt", "(I)I"⟩ : Cond) ∈ gT := List.mem_filter.mpr ⟨List.mem_append_right _ (List.mem_of_getElem? (i := 102) (by decide +kernel)), by decide +kernel⟩
theorem g_103 : (.instanceMethod ⟨"CopyHeap$Half", "kindAt", "(I)I"⟩ : Cond) ∈ gT := List.mem_filter.mpr ⟨List.mem_append_right _ (List.mem_of_getElem? (i := 103) (by decide +kernel)), by decide +kernel⟩
theorem g_104 : (.selects "CopyHeap$Half" ⟨"CopyHeap$Half", "kindAt", "(I)I"⟩ ⟨"CopyHeap$Half", "kindAt", "(I)I"⟩ : Cond) ∈ gT := List.mem_filter.mpr ⟨List.mem_append_right _ (List.mem_of_getElem? (i := 104) (by decide +kernel)), by decide +kernel⟩
theorem g_105 : (.code ⟨"CopyHeap$Half", "kindAt", "(I)I"⟩ prog_2_method_7_code 2 (some .int) : Cond) ∈ gT := List.mem_filter.mpr ⟨List.mem_append_right _ (List.mem_of_getElem? (i := 105) (by decide +kernel)), by decide +kernel⟩
theorem g_106 : (.methodLink "CopyHeap" 88 ⟨"CopyHeap$Half", "fieldsAt", "(I)I"⟩ : Cond) ∈ gT := List.mem_filter.mpr ⟨List.mem_append_right _ (List.mem_of_getElem? (i := 106) (by decide +kernel)), by decide +kernel⟩
theorem g_107 : (.methodLink "CopyHeap" 81 ⟨"CopyHeap$Half", "wordAt", "(I)I"⟩ : Cond) ∈ gT := List.mem_filter.mpr ⟨List.mem_append_right _ (List.mem_of_getElem? (i := 107) (by decide +kernel)), by decide +kernel⟩
theorem g_108 : (.methodLink "CopyHeap" 76 ⟨"CopyHeap$Half", "setWord", "(II)V"⟩ : Cond) ∈ gT := List.mem_filter.mpr ⟨List.mem_append_right _ (List.mem_of_getElem? (i := 108) (by decide +kernel)), by decide +kernel⟩
theorem g_109 : (.methodLink "CopyHeapLaw" 48 ⟨"CopyHeapLaw", "cell", "([II)I"⟩ : Cond) ∈ gT := List.mem_filter.mpr ⟨List.mem_append_right _ (List.mem_of_getElem? (i := 109) (by decide +kernel)), by decide +kernel⟩
theorem g_110 : (.static ⟨"CopyHeapLaw", "cell", "([II)I"⟩ : Cond) ∈ gT := List.mem_filter.mpr ⟨List.mem_append_right _ (List.mem_of_getElem? (i := 110) (by decide +kernel)), by decide +kernel⟩
theorem g_111 : (.code ⟨"CopyHeapLaw", "cell", "([II)I"⟩ method_2_code 2 (some .int) : Cond) ∈ gT := List.mem_filter.mpr ⟨List.mem_append_right _ (List.mem_of_getElem? (i := 111) (by decide +kernel)), by decide +kernel⟩
theorem g_112 : (.methodLink "CopyHeapLaw" 60 ⟨"CopyHeapLaw", "make", "(LCopyHeap;III[J)I"⟩ : Cond) ∈ gT := List.mem_filter.mpr ⟨List.mem_append_right _ (List.mem_of_getElem? (i := 112) (by decide +kernel)), by decide +kernel⟩
theorem g_113 : (.static ⟨"CopyHeapLaw", "make", "(LCopyHeap;III[J)I"⟩ : Cond) ∈ gT := List.mem_filter.mpr ⟨List.mem_append_right _ (List.mem_of_getElem? (i := 113) (by decide +kernel)), by decide +kernel⟩
theorem g_114 : (.codeWith ⟨"CopyHeapLaw", "make", "(LCopyHeap;III[J)I"⟩ method_3_code 6 (some .int) [(0, 12, 15, 13), (0, 12, 19, 15)] : Cond) ∈ gT := List.mem_filter.mpr ⟨List.mem_append_right _ (List.mem_of_getElem? (i := 114) (by decide +kernel)), by decide +kernel⟩
theorem g_115 : (.classLink "CopyHeapLaw" 13 "java/lang/IllegalArgumentException" : Cond) ∈ gT := List.mem_filter.mpr ⟨List.mem_append_right _ (List.mem_of_getElem? (i := 115) (by decide +kernel)), by decide +kernel⟩
theorem g_116 : (.classLink "CopyHeapLaw" 15 "java/lang/IllegalStateException" : Cond) ∈ gT := List.mem_filter.mpr ⟨List.mem_append_right _ (List.mem_of_getElem? (i := 116) (by decide +kernel)), by decide +kernel⟩
theorem g_117 : (.methodLink "CopyHeapLaw" 7 ⟨"CopyHeap", "make", "(III)I"⟩ : Cond) ∈ gT := List.mem_filter.mpr ⟨List.mem_append_right _ (List.mem_of_getElem? (i := 117) (by decide +kernel)), by decide +kernel⟩
theorem g_118 : (.instanceMethod ⟨"CopyHeap", "make", "(III)I"⟩ : Cond) ∈ gT := List.mem_filter.mpr ⟨List.mem_append_right _ (List.mem_of_getElem? (i := 118) (by decide +kernel)), by decide +kernel⟩
theorem g_119 : (.selects "CopyHeap" ⟨"CopyHeap", "make", "(III)I"⟩ ⟨"CopyHeap", "make", "(III)I"⟩ : Cond) ∈ gT := List.mem_filter.mpr ⟨List.mem_append_right _ (List.mem_of_getElem? (i := 119) (by decide +kernel)), by decide +kernel⟩
theorem g_120 : (.code ⟨"CopyHeap", "make", "(III)I"⟩ prog_1_method_2_code 5 (some .int) : Cond) ∈ gT := List.mem_filter.mpr ⟨List.mem_append_right _ (List.mem_of_getElem? (i := 120) (by decide +kernel)), by decide +kernel⟩
theorem g_121 : (.methodLink "CopyHeap" 25 ⟨"CopyHeap", "requireRegister", "(I)V"⟩ : Cond) ∈ gT := List.mem_filter.mpr ⟨List.mem_append_right _ (List.mem_of_getElem? (i := 121) (by decide +kernel)), by decide +kernel⟩
theorem g_122 : (.static ⟨"CopyHeap", "requireRegister", "(I)V"⟩ : Cond) ∈ gT := List.mem_filter.mpr ⟨List.mem_append_right _ (List.mem_of_getElem? (i := 122) (by decide +kernel)), by decide +kernel⟩
theorem g_123 : (.code ⟨"CopyHeap", "requireRegister", "(I)V"⟩ prog_1_method_16_code 1 (none) : Cond) ∈ gT := List.mem_filter.mpr ⟨List.mem_append_right _ (List.mem_of_getElem? (i := 123) (by decide +kernel)), by decide +kernel⟩
theorem g_124 : (.classLink "CopyHeap" 28 "java/lang/IllegalArgumentException" : Cond) ∈ gT := List.mem_filter.mpr ⟨List.mem_append_right _ (List.mem_of_getElem? (i := 124) (by decide +kernel)), by decide +kernel⟩
theorem g_125 : (.instantiable "java/lang/IllegalArgumentException" 6 : Cond) ∈ gT := List.mem_filter.mpr ⟨List.mem_append_right _ (List.mem_of_getElem? (i := 125) (by decide +kernel)), by decide +kernel⟩
theorem g_133 : (.selects "java/lang/IllegalArgumentException" ⟨"java/lang/Throwable", "fillInStackTrace", "(I)Ljava/lang/Throwable;"⟩ ⟨"java/lang/Throwable", "fillInStackTrace", "(I)Ljava/lang/Throwable;"⟩ : Cond) ∈ gT := List.mem_filter.mpr ⟨List.mem_append_right _ (List.mem_of_getElem? (i := 133) (by decide +kernel)), by decide +kernel⟩
theorem g_134 : (.selects "java/lang/IllegalArgumentException" ⟨"java/lang/Throwable", "fillInStackTrace", "()Ljava/lang/Throwable;"⟩ ⟨"java/lang/Throwable", "fillInStackTrace", "()Ljava/lang/Throwable;"⟩ : Cond) ∈ gT := List.mem_filter.mpr ⟨List.mem_append_right _ (List.mem_of_getElem? (i := 134) (by decide +kernel)), by decide +kernel⟩
theorem g_135 : (.lays "java/lang/IllegalArgumentException" "java/lang/Throwable" "cause" "Ljava/lang/Throwable;" : Cond) ∈ gT := List.mem_filter.mpr ⟨List.mem_append_right _ (List.mem_of_getElem? (i := 135) (by decide +kernel)), by decide +kernel⟩
theorem g_136 : (.lays "java/lang/Throwable" "java/lang/Throwable" "cause" "Ljava/lang/Throwable;" : Cond) ∈ gT := List.mem_filter.mpr ⟨List.mem_append_right _ (List.mem_of_getElem? (i := 136) (by decide +kernel)), by decide +kernel⟩
theorem g_137 : (.lays "java/lang/IllegalArgumentException" "java/lang/Throwable" "stackTrace" "[Ljava/lang/StackTraceElement;" : Cond) ∈ gT := List.mem_filter.mpr ⟨List.mem_append_right _ (List.mem_of_getElem? (i := 137) (by decide +kernel)), by decide +kernel⟩
theorem g_138 : (.lays "java/lang/Throwable" "java/lang/Throwable" "stackTrace" "[Ljava/lang/StackTraceElement;" : Cond) ∈ gT := List.mem_filter.mpr ⟨List.mem_append_right _ (List.mem_of_getElem? (i := 138) (by decide +kernel)), by decide +kernel⟩
theorem g_139 : (.lays "java/lang/IllegalArgumentException" "java/lang/Throwable" "suppressedExceptions" "Ljava/util/List;" : Cond) ∈ gT := List.mem_filter.mpr ⟨List.mem_append_right _ (List.mem_of_getElem? (i := 139) (by decide +kernel)), by decide +kernel⟩
theorem g_140 : (.lays "java/lang/Throwable" "java/lang/Throwable" "suppressedExceptions" "Ljava/util/List;" : Cond) ∈ gT := List.mem_filter.mpr ⟨List.mem_append_right _ (List.mem_of_getElem? (i := 140) (by decide +kernel)), by decide +kernel⟩
theorem g_141 : (.lays "java/lang/IllegalArgumentException" "java/lang/Throwable" "detailMessage" "Ljava/lang/String;" : Cond) ∈ gT := List.mem_filter.mpr ⟨List.mem_append_right _ (List.mem_of_getElem? (i := 141) (by decide +kernel)), by decide +kernel⟩
theorem g_142 : (.lays "java/lang/Throwable" "java/lang/Throwable" "detailMessage" "Ljava/lang/String;" : Cond) ∈ gT := List.mem_filter.mpr ⟨List.mem_append_right _ (List.mem_of_getElem? (i := 142) (by decide +kernel)), by decide +kernel⟩
theorem g_143 : (.lays "java/lang/IllegalArgumentException" "java/lang/Throwable" "backtrace" "Ljava/lang/Object;" : Cond) ∈ gT := List.mem_filter.mpr ⟨List.mem_append_right _ (List.mem_of_getElem? (i := 143) (by decide +kernel)), by decide +kernel⟩
theorem g_144 : (.lays "java/lang/Throwable" "java/lang/Throwable" "backtrace" "Ljava/lang/Object;" : Cond) ∈ gT := List.mem_filter.mpr ⟨List.mem_append_right _ (List.mem_of_getElem? (i := 144) (by decide +kernel)), by decide +kernel⟩
theorem g_145 : (.fieldLink "java/lang/Throwable" 198 "java/lang/Throwable" "backtrace" "Ljava/lang/Object;" : Cond) ∈ gT := List.mem_filter.mpr ⟨List.mem_append_right _ (List.mem_of_getElem? (i := 145) (by decide +kernel)), by decide +kernel⟩
theorem g_146 : (.superclass "java/lang/Throwable" "java/lang/Object" : Cond) ∈ gT := List.mem_filter.mpr ⟨List.mem_append_right _ (List.mem_of_getElem? (i := 146) (by decide +kernel)), by decide +kernel⟩
theorem g_147 : (.instanceMethod ⟨"java/lang/Throwable", "<init>", "()V"⟩ : Cond) ∈ gT := List.mem_filter.mpr ⟨List.mem_append_right _ (List.mem_of_getElem? (i := 147) (by decide +kernel)), by decide +kernel⟩
theorem g_148 : (.code ⟨"java/lang/Throwable", "<init>", "()V"⟩ prog_11_method_1_code 1 (none) : Cond) ∈ gT := List.mem_filter.mpr ⟨List.mem_append_right _ (List.mem_of_getElem? (i := 148) (by decide +kernel)), by decide +kernel⟩
theorem g_149 : (.methodLink "java/lang/Throwable" 1 ⟨"java/lang/Object", "<init>", "()V"⟩ : Cond) ∈ gT := List.mem_filter.mpr ⟨List.mem_append_right _ (List.mem_of_getElem? (i := 149) (by decide +kernel)), by decide +kernel⟩
theorem g_150 : (.fieldLink "java/lang/Throwable" 13 "java/lang/Throwable" "UNASSIGNED_STACK" "[Ljava/lang/StackTraceElement;" : Cond) ∈ gT := List.mem_filter.mpr ⟨List.mem_append_right _ (List.mem_of_getElem? (i := 150) (by decide +kernel)), by decide +kernel⟩
theorem g_152 : (.fieldLink "java/lang/Throwable" 20 "java/lang/Throwable" "SUPPRESSED_SENTINEL" "Ljava/util/List;" : Cond) ∈ gT := List.mem_filter.mpr ⟨List.mem_append_right _ (List.mem_of_getElem? (i := 152) (by decide +kernel)), by decide +kernel⟩
theorem g_154 : (.methodLink "java/lang/Throwable" 27 ⟨"java/lang/Throwable", "fillInStackTrace", "()Ljava/lang/Throwable;"⟩ : Cond) ∈ gT := List.mem_filter.mpr ⟨List.mem_append_right _ (List.mem_of_getElem? (i := 154) (by decide +kernel)), by decide +kernel⟩
theorem g_155 : (.instanceMethod ⟨"java/lang/Throwable", "fillInStackTrace", "()Ljava/lang/Throwable;"⟩ : Cond) ∈ gT := List.mem_filter.mpr ⟨List.mem_append_right _ (List.mem_of_getElem? (i := 155) (by decide +kernel)), by decide +kernel⟩
theorem g_156 : (.sameMethod "java/lang/Throwable" "java/lang/Throwable" "fillInStackTrace" "()Ljava/lang/Throwable;" : Cond) ∈ gT := List.mem_filter.mpr ⟨List.mem_append_right _ (List.mem_of_getElem? (i := 156) (by decide +kernel)), by decide +kernel⟩
theorem g_157 : (.selects "java/lang/IllegalStateException" ⟨"java/lang/Throwable", "fillInStackTrace", "()Ljava/lang/Throwable;"⟩ ⟨"java/lang/Throwable", "fillInStackTrace", "()Ljava/lang/Throwable;"⟩ : Cond) ∈ gT := List.mem_filter.mpr ⟨List.mem_append_right _ (List.mem_of_getElem? (i := 157) (by decide +kernel)), by decide +kernel⟩
theorem g_158 : (.selects "java/lang/IndexOutOfBoundsException" ⟨"java/lang/Throwable", "fillInStackTrace", "()Ljava/lang/Throwable;"⟩ ⟨"java/lang/Throwable", "fillInStackTrace", "()Ljava/lang/Throwable;"⟩ : Cond) ∈ gT := List.mem_filter.mpr ⟨List.mem_append_right _ (List.mem_of_getElem? (i := 158) (by decide +kernel)), by decide +kernel⟩
theorem g_159 : (.codeSync ⟨"java/lang/Throwable", "fillInStackTrace", "()Ljava/lang/Throwable;"⟩ prog_11_method_18_code 1 (some (.object "java/lang/Throwable")) : Cond) ∈ gT := List.mem_filter.mpr ⟨List.mem_append_right _ (List.mem_of_getElem? (i := 159) (by decide +kernel)), by decide +kernel⟩
theorem g_160 : (.methodLink "java/lang/Throwable" 202 ⟨"java/lang/Throwable", "fillInStackTrace", "(I)Ljava/lang/Throwable;"⟩ : Cond) ∈ gT := List.mem_filter.mpr ⟨List.mem_append_right _ (List.mem_of_getElem? (i := 160) (by decide +kernel)), by decide +kernel⟩
theorem g_162 : (.instanceMethod ⟨"java/lang/Throwable", "fillInStackTrace", "(I)Ljava/lang/Throwable;"⟩ : Cond) ∈ gT := List.mem_filter.mpr ⟨List.mem_append_right _ (List.mem_of_getElem? (i := 162) (by decide +kernel)), by decide +kernel⟩
theorem g_163 : (.instantiable "java/lang/Throwable" 6 : Cond) ∈ gT := List.mem_filter.mpr ⟨List.mem_append_right _ (List.mem_of_getElem? (i := 163) (by decide +kernel)), by decide +kernel⟩
theorem g_164 : (.native ⟨"java/lang/Throwable", "fillInStackTrace", "(I)Ljava/lang/Throwable;"⟩ : Cond) ∈ gT := List.mem_filter.mpr ⟨List.mem_append_right _ (List.mem_of_getElem? (i := 164) (by decide +kernel)), by decide +kernel⟩
theorem g_166 : (.methodLink "CopyHeap" 32 ⟨"java/lang/IllegalArgumentException", "<init>", "(Ljava/lang/String;)V"⟩ : Cond) ∈ gT := List.mem_filter.mpr ⟨List.mem_append_right _ (List.mem_of_getElem? (i := 166) (by decide +kernel)), by decide +kernel⟩
theorem g_167 : (.instanceMethod ⟨"java/lang/IllegalArgumentException", "<init>", "(Ljava/lang/String;)V"⟩ : Cond) ∈ gT := List.mem_filter.mpr ⟨List.mem_append_right _ (List.mem_of_getElem? (i := 167) (by decide +kernel)), by decide +kernel⟩
theorem g_168 : (.code ⟨"java/lang/IllegalArgumentException", "<init>", "(Ljava/lang/String;)V"⟩ prog_6_method_2_code 2 (none) : Cond) ∈ gT := List.mem_filter.mpr ⟨List.mem_append_right _ (List.mem_of_getElem? (i := 168) (by decide +kernel)), by decide +kernel⟩
theorem g_169 : (.methodLink "java/lang/IllegalArgumentException" 7 ⟨"java/lang/RuntimeException", "<init>", "(Ljava/lang/String;)V"⟩ : Cond) ∈ gT := List.mem_filter.mpr ⟨List.mem_append_right _ (List.mem_of_getElem? (i := 169) (by decide +kernel)), by decide +kernel⟩
theorem g_170 : (.instanceMethod ⟨"java/lang/RuntimeException", "<init>", "(Ljava/lang/String;)V"⟩ : Cond) ∈ gT := List.mem_filter.mpr ⟨List.mem_append_right _ (List.mem_of_getElem? (i := 170) (by decide +kernel)), by decide +kernel⟩
theorem g_171 : (.code ⟨"java/lang/RuntimeException", "<init>", "(Ljava/lang/String;)V"⟩ prog_9_method_2_code 2 (none) : Cond) ∈ gT := List.mem_filter.mpr ⟨List.mem_append_right _ (List.mem_of_getElem? (i := 171) (by decide +kernel)), by decide +kernel⟩
theorem g_172 : (.methodLink "java/lang/RuntimeException" 7 ⟨"java/lang/Exception", "<init>", "(Ljava/lang/String;)V"⟩ : Cond) ∈ gT := List.mem_filter.mpr ⟨List.mem_append_right _ (List.mem_of_getElem? (i := 172) (by decide +kernel)), by decide +kernel⟩
theorem g_173 : (.instanceMethod ⟨"java/lang/Exception", "<init>", "(Ljava/lang/String;)V"⟩ : Cond) ∈ gT := List.mem_filter.mpr ⟨List.mem_append_right _ (List.mem_of_getElem? (i := 173) (by decide +kernel)), by decide +kernel⟩
theorem g_174 : (.code ⟨"java/lang/Exception", "<init>", "(Ljava/lang/String;)V"⟩ prog_5_method_2_code 2 (none) : Cond) ∈ gT := List.mem_filter.mpr ⟨List.mem_append_right _ (List.mem_of_getElem? (i := 174) (by decide +kernel)), by decide +kernel⟩
theorem g_175 : (.methodLink "java/lang/Exception" 7 ⟨"java/lang/Throwable", "<init>", "(Ljava/lang/String;)V"⟩ : Cond) ∈ gT := List.mem_filter.mpr ⟨List.mem_append_right _ (List.mem_of_getElem? (i := 175) (by decide +kernel)), by decide +kernel⟩
theorem g_176 : (.instanceMethod ⟨"java/lang/Throwable", "<init>", "(Ljava/lang/String;)V"⟩ : Cond) ∈ gT := List.mem_filter.mpr ⟨List.mem_append_right _ (List.mem_of_getElem? (i := 176) (by decide +kernel)), by decide +kernel⟩
theorem g_177 : (.code ⟨"java/lang/Throwable", "<init>", "(Ljava/lang/String;)V"⟩ prog_11_method_2_code 2 (none) : Cond) ∈ gT := List.mem_filter.mpr ⟨List.mem_append_right _ (List.mem_of_getElem? (i := 177) (by decide +kernel)), by decide +kernel⟩
theorem g_178 : (.fieldLink "java/lang/Throwable" 198 "java/lang/Throwable" "backtrace" "Ljava/lang/Object;" : Cond) ∈ gT := List.mem_filter.mpr ⟨List.mem_append_right _ (List.mem_of_getElem? (i := 178) (by decide +kernel)), by decide +kernel⟩
theorem g_179 : (.fieldLink "java/lang/Throwable" 31 "java/lang/Throwable" "detailMessage" "Ljava/lang/String;" : Cond) ∈ gT := List.mem_filter.mpr ⟨List.mem_append_right _ (List.mem_of_getElem? (i := 179) (by decide +kernel)), by decide +kernel⟩
theorem g_180 : (.fieldLink "java/lang/Throwable" 7 "java/lang/Throwable" "cause" "Ljava/lang/Throwable;" : Cond) ∈ gT := List.mem_filter.mpr ⟨List.mem_append_right _ (List.mem_of_getElem? (i := 180) (by decide +kernel)), by decide +kernel⟩
theorem g_181 : (.fieldLink "java/lang/Throwable" 17 "java/lang/Throwable" "stackTrace" "[Ljava/lang/StackTraceElement;" : Cond) ∈ gT := List.mem_filter.mpr ⟨List.mem_append_right _ (List.mem_of_getElem? (i := 181) (by decide +kernel)), by decide +kernel⟩
theorem g_182 : (.fieldLink "java/lang/Throwable" 24 "java/lang/Throwable" "suppressedExceptions" "Ljava/util/List;" : Cond) ∈ gT := List.mem_filter.mpr ⟨List.mem_append_right _ (List.mem_of_getElem? (i := 182) (by decide +kernel)), by decide +kernel⟩
theorem g_183 : (.soleField "java/lang/Throwable" "backtrace" : Cond) ∈ gT := List.mem_filter.mpr ⟨List.mem_append_right _ (List.mem_of_getElem? (i := 183) (by decide +kernel)), by decide +kernel⟩
theorem g_184 : (.soleField "java/lang/Throwable" "detailMessage" : Cond) ∈ gT := List.mem_filter.mpr ⟨List.mem_append_right _ (List.mem_of_getElem? (i := 184) (by decide +kernel)), by decide +kernel⟩
theorem g_185 : (.soleField "java/lang/Throwable" "cause" : Cond) ∈ gT := List.mem_filter.mpr ⟨List.mem_append_right _ (List.mem_of_getElem? (i := 185) (by decide +kernel)), by decide +kernel⟩
theorem g_186 : (.soleField "java/lang/Throwable" "stackTrace" : Cond) ∈ gT := List.mem_filter.mpr ⟨List.mem_append_right _ (List.mem_of_getElem? (i := 186) (by decide +kernel)), by decide +kernel⟩
theorem g_187 : (.lays "java/lang/IllegalArgumentException" "java/lang/Throwable" "depth" "I" : Cond) ∈ gT := List.mem_filter.mpr ⟨List.mem_append_right _ (List.mem_of_getElem? (i := 187) (by decide +kernel)), by decide +kernel⟩
theorem g_188 : (.soleField "java/lang/Throwable" "depth" : Cond) ∈ gT := List.mem_filter.mpr ⟨List.mem_append_right _ (List.mem_of_getElem? (i := 188) (by decide +kernel)), by decide +kernel⟩
theorem g_189 : (.soleField "java/lang/Throwable" "suppressedExceptions" : Cond) ∈ gT := List.mem_filter.mpr ⟨List.mem_append_right _ (List.mem_of_getElem? (i := 189) (by decide +kernel)), by decide +kernel⟩
theorem g_190 : (.superclass "java/lang/IllegalArgumentException" "java/lang/RuntimeException" : Cond) ∈ gT := List.mem_filter.mpr ⟨List.mem_append_right _ (List.mem_of_getElem? (i := 190) (by decide +kernel)), by decide +kernel⟩
theorem g_191 : (.arrayClass .byte : Cond) ∈ gT := List.mem_filter.mpr ⟨List.mem_append_right _ (List.mem_of_getElem? (i := 191) (by decide +kernel)), by decide +kernel⟩
theorem g_193 : (.methodLink "CopyHeap" 35 ⟨"CopyHeap$Half", "hasRoomFor", "(I)Z"⟩ : Cond) ∈ gT := List.mem_filter.mpr ⟨List.mem_append_right _ (List.mem_of_getElem? (i := 193) (by decide +kernel)), by decide +kernel⟩
theorem g_194 : (.instanceMethod ⟨"CopyHeap$Half", "hasRoomFor", "(I)Z"⟩ : Cond) ∈ gT := List.mem_filter.mpr ⟨List.mem_append_right _ (List.mem_of_getElem? (i := 194) (by decide +kernel)), by decide +kernel⟩
theorem g_195 : (.selects "CopyHeap$Half" ⟨"CopyHeap$Half", "hasRoomFor", "(I)Z"⟩ ⟨"CopyHeap$Half", "hasRoomFor", "(I)Z"⟩ : Cond) ∈ gT := List.mem_filter.mpr ⟨List.mem_append_right _ (List.mem_of_getElem? (i := 195) (by decide +kernel)), by decide +kernel⟩
theorem g_196 : (.code ⟨"CopyHeap$Half", "hasRoomFor", "(I)Z"⟩ prog_2_method_3_code 2 (some .boolean) : Cond) ∈ gT := List.mem_filter.mpr ⟨List.mem_append_right _ (List.mem_of_getElem? (i := 196) (by decide +kernel)), by decide +kernel⟩
theorem g_197 : (.classLink "CopyHeap" 42 "java/lang/IllegalStateException" : Cond) ∈ gT := List.mem_filter.mpr ⟨List.mem_append_right _ (List.mem_of_getElem? (i := 197) (by decide +kernel)), by decide +kernel⟩
theorem g_198 : (.instantiable "java/lang/IllegalStateException" 6 : Cond) ∈ gT := List.mem_filter.mpr ⟨List.mem_append_right _ (List.mem_of_getElem? (i := 198) (by decide +kernel)), by decide +kernel⟩
theorem g_200 : (.selects "java/lang/IllegalStateException" ⟨"java/lang/Throwable", "fillInStackTrace", "(I)Ljava/lang/Throwable;"⟩ ⟨"java/lang/Throwable", "fillInStackTrace", "(I)Ljava/lang/Throwable;"⟩ : Cond) ∈ gT := List.mem_filter.mpr ⟨List.mem_append_right _ (List.mem_of_getElem? (i := 200) (by decide +kernel)), by decide +kernel⟩
theorem g_201 : (.lays "java/lang/IllegalStateException" "java/lang/Throwable" "cause" "Ljava/lang/Throwable;" : Cond) ∈ gT := List.mem_filter.mpr ⟨List.mem_append_right _ (List.mem_of_getElem? (i := 201) (by decide +kernel)), by decide +kernel⟩
theorem g_202 : (.lays "java/lang/IllegalStateException" "java/lang/Throwable" "stackTrace" "[Ljava/lang/StackTraceElement;" : Cond) ∈ gT := List.mem_filter.mpr ⟨List.mem_append_right _ (List.mem_of_getElem? (i := 202) (by decide +kernel)), by decide +kernel⟩
theorem g_203 : (.lays "java/lang/IllegalStateException" "java/lang/Throwable" "suppressedExceptions" "Ljava/util/List;" : Cond) ∈ gT := List.mem_filter.mpr ⟨List.mem_append_right _ (List.mem_of_getElem? (i := 203) (by decide +kernel)), by decide +kernel⟩
theorem g_204 : (.lays "java/lang/IllegalStateException" "java/lang/Throwable" "detailMessage" "Ljava/lang/String;" : Cond) ∈ gT := List.mem_filter.mpr ⟨List.mem_append_right _ (List.mem_of_getElem? (i := 204) (by decide +kernel)), by decide +kernel⟩
theorem g_205 : (.lays "java/lang/IllegalStateException" "java/lang/Throwable" "backtrace" "Ljava/lang/Object;" : Cond) ∈ gT := List.mem_filter.mpr ⟨List.mem_append_right _ (List.mem_of_getElem? (i := 205) (by decide +kernel)), by decide +kernel⟩
theorem g_207 : (.methodLink "CopyHeap" 46 ⟨"java/lang/IllegalStateException", "<init>", "(Ljava/lang/String;)V"⟩ : Cond) ∈ gT := List.mem_filter.mpr ⟨List.mem_append_right _ (List.mem_of_getElem? (i := 207) (by decide +kernel)), by decide +kernel⟩
theorem g_208 : (.instanceMethod ⟨"java/lang/IllegalStateException", "<init>", "(Ljava/lang/String;)V"⟩ : Cond) ∈ gT := List.mem_filter.mpr ⟨List.mem_append_right _ (List.mem_of_getElem? (i := 208) (by decide +kernel)), by decide +kernel⟩
theorem g_209 : (.code ⟨"java/lang/IllegalStateException", "<init>", "(Ljava/lang/String;)V"⟩ prog_7_method_2_code 2 (none) : Cond) ∈ gT := List.mem_filter.mpr ⟨List.mem_append_right _ (List.mem_of_getElem? (i := 209) (by decide +kernel)), by decide +kernel⟩
theorem g_210 : (.methodLink "java/lang/IllegalStateException" 7 ⟨"java/lang/RuntimeException", "<init>", "(Ljava/lang/String;)V"⟩ : Cond) ∈ gT := List.mem_filter.mpr ⟨List.mem_append_right _ (List.mem_of_getElem? (i := 210) (by decide +kernel)), by decide +kernel⟩
theorem g_211 : (.lays "java/lang/IllegalStateException" "java/lang/Throwable" "depth" "I" : Cond) ∈ gT := List.mem_filter.mpr ⟨List.mem_append_right _ (List.mem_of_getElem? (i := 211) (by decide +kernel)), by decide +kernel⟩
theorem g_212 : (.superclass "java/lang/IllegalStateException" "java/lang/RuntimeException" : Cond) ∈ gT := List.mem_filter.mpr ⟨List.mem_append_right _ (List.mem_of_getElem? (i := 212) (by decide +kernel)), by decide +kernel⟩
theorem g_213 : (.methodLink "CopyHeap" 47 ⟨"CopyHeap$Half", "addObject", "(II)I"⟩ : Cond) ∈ gT := List.mem_filter.mpr ⟨List.mem_append_right _ (List.mem_of_getElem? (i := 213) (by decide +kernel)), by decide +kernel⟩
theorem g_214 : (.instanceMethod ⟨"CopyHeap$Half", "addObject", "(II)I"⟩ : Cond) ∈ gT := List.mem_filter.mpr ⟨List.mem_append_right _ (List.mem_of_getElem? (i := 214) (by decide +kernel)), by decide +kernel⟩
theorem g_215 : (.selects "CopyHeap$Half" ⟨"CopyHeap$Half", "addObject", "(II)I"⟩ ⟨"CopyHeap$Half", "addObject", "(II)I"⟩ : Cond) ∈ gT := List.mem_filter.mpr ⟨List.mem_append_right _ (List.mem_of_getElem? (i := 215) (by decide +kernel)), by decide +kernel⟩
theorem g_216 : (.code ⟨"CopyHeap$Half", "addObject", "(II)I"⟩ prog_2_method_10_code 5 (some .int) : Cond) ∈ gT := List.mem_filter.mpr ⟨List.mem_append_right _ (List.mem_of_getElem? (i := 216) (by decide +kernel)), by decide +kernel⟩
theorem g_217 : (.methodLink "CopyHeap" 51 ⟨"CopyHeap", "asReference", "(I)I"⟩ : Cond) ∈ gT := List.mem_filter.mpr ⟨List.mem_append_right _ (List.mem_of_getElem? (i := 217) (by decide +kernel)), by decide +kernel⟩
theorem g_218 : (.methodLink "CopyHeapLaw" 68 ⟨"CopyHeapLaw", "number", "(LCopyHeap;II[J)I"⟩ : Cond) ∈ gT := List.mem_filter.mpr ⟨List.mem_append_right _ (List.mem_of_getElem? (i := 218) (by decide +kernel)), by decide +kernel⟩
theorem g_219 : (.static ⟨"CopyHeapLaw", "number", "(LCopyHeap;II[J)I"⟩ : Cond) ∈ gT := List.mem_filter.mpr ⟨List.mem_append_right _ (List.mem_of_getElem? (i := 219) (by decide +kernel)), by decide +kernel⟩
theorem g_220 : (.codeWith ⟨"CopyHeapLaw", "number", "(LCopyHeap;II[J)I"⟩ method_4_code 5 (some .int) [(0, 10, 13, 13)] : Cond) ∈ gT := List.mem_filter.mpr ⟨List.mem_append_right _ (List.mem_of_getElem? (i := 220) (by decide +kernel)), by decide +kernel⟩
theorem g_221 : (.methodLink "CopyHeapLaw" 17 ⟨"CopyHeap", "number", "(II)I"⟩ : Cond) ∈ gT := List.mem_filter.mpr ⟨List.mem_append_right _ (List.mem_of_getElem? (i := 221) (by decide +kernel)), by decide +kernel⟩
theorem g_222 : (.instanceMethod ⟨"CopyHeap", "number", "(II)I"⟩ : Cond) ∈ gT := List.mem_filter.mpr ⟨List.mem_append_right _ (List.mem_of_getElem? (i := 222) (by decide +kernel)), by decide +kernel⟩
theorem g_223 : (.selects "CopyHeap" ⟨"CopyHeap", "number", "(II)I"⟩ ⟨"CopyHeap", "number", "(II)I"⟩ : Cond) ∈ gT := List.mem_filter.mpr ⟨List.mem_append_right _ (List.mem_of_getElem? (i := 223) (by decide +kernel)), by decide +kernel⟩
theorem g_224 : (.code ⟨"CopyHeap", "number", "(II)I"⟩ prog_1_method_3_code 3 (some .int) : Cond) ∈ gT := List.mem_filter.mpr ⟨List.mem_append_right _ (List.mem_of_getElem? (i := 224) (by decide +kernel)), by decide +kernel⟩
theorem g_225 : (.methodLink "CopyHeap" 55 ⟨"CopyHeap", "asNumber", "(I)I"⟩ : Cond) ∈ gT := List.mem_filter.mpr ⟨List.mem_append_right _ (List.mem_of_getElem? (i := 225) (by decide +kernel)), by decide +kernel⟩
theorem g_226 : (.static ⟨"CopyHeap", "asNumber", "(I)I"⟩ : Cond) ∈ gT := List.mem_filter.mpr ⟨List.mem_append_right _ (List.mem_of_getElem? (i := 226) (by decide +kernel)), by decide +kernel⟩
theorem g_227 : (.code ⟨"CopyHeap", "asNumber", "(I)I"⟩ prog_1_method_12_code 1 (some .int) : Cond) ∈ gT := List.mem_filter.mpr ⟨List.mem_append_right _ (List.mem_of_getElem? (i := 227) (by decide +kernel)), by decide +kernel⟩
theorem g_228 : (.methodLink "CopyHeap" 58 ⟨"CopyHeap", "content", "(I)I"⟩ : Cond) ∈ gT := List.mem_filter.mpr ⟨List.mem_append_right _ (List.mem_of_getElem? (i := 228) (by decide +kernel)), by decide +kernel⟩
theorem g_229 : (.methodLink "CopyHeapLaw" 72 ⟨"CopyHeapLaw", "copy", "(LCopyHeap;II[J)I"⟩ : Cond) ∈ gT := List.mem_filter.mpr ⟨List.mem_append_right _ (List.mem_of_getElem? (i := 229) (by decide +kernel)), by decide +kernel⟩
theorem g_230 : (.static ⟨"CopyHeapLaw", "copy", "(LCopyHeap;II[J)I"⟩ : Cond) ∈ gT := List.mem_filter.mpr ⟨List.mem_append_right _ (List.mem_of_getElem? (i := 230) (by decide +kernel)), by decide +kernel⟩
theorem g_231 : (.codeWith ⟨"CopyHeapLaw", "copy", "(LCopyHeap;II[J)I"⟩ method_5_code 5 (some .int) [(0, 17, 20, 13)] : Cond) ∈ gT := List.mem_filter.mpr ⟨List.mem_append_right _ (List.mem_of_getElem? (i := 231) (by decide +kernel)), by decide +kernel⟩
theorem g_232 : (.methodLink "CopyHeapLaw" 21 ⟨"CopyHeap", "copy", "(II)Z"⟩ : Cond) ∈ gT := List.mem_filter.mpr ⟨List.mem_append_right _ (List.mem_of_getElem? (i := 232) (by decide +kernel)), by decide +kernel⟩
theorem g_233 : (.instanceMethod ⟨"CopyHeap", "copy", "(II)Z"⟩ : Cond) ∈ gT := List.mem_filter.mpr ⟨List.mem_append_right _ (List.mem_of_getElem? (i := 233) (by decide +kernel)), by decide +kernel⟩
theorem g_234 : (.selects "CopyHeap" ⟨"CopyHeap", "copy", "(II)Z"⟩ ⟨"CopyHeap", "copy", "(II)Z"⟩ : Cond) ∈ gT := List.mem_filter.mpr ⟨List.mem_append_right _ (List.mem_of_getElem? (i := 234) (by decide +kernel)), by decide +kernel⟩
theorem g_235 : (.code ⟨"CopyHeap", "copy", "(II)Z"⟩ prog_1_method_4_code 3 (some .boolean) : Cond) ∈ gT := List.mem_filter.mpr ⟨List.mem_append_right _ (List.mem_of_getElem? (i := 235) (by decide +kernel)), by decide +kernel⟩
theorem g_236 : (.methodLink "CopyHeap" 61 ⟨"CopyHeap", "isReference", "(I)Z"⟩ : Cond) ∈ gT := List.mem_filter.mpr ⟨List.mem_append_right _ (List.mem_of_getElem? (i := 236) (by decide +kernel)), by decide +kernel⟩
theorem g_237 : (.methodLink "CopyHeapLaw" 75 ⟨"CopyHeapLaw", "put", "(LCopyHeap;III)I"⟩ : Cond) ∈ gT := List.mem_filter.mpr ⟨List.mem_append_right _ (List.mem_of_getElem? (i := 237) (by decide +kernel)), by decide +kernel⟩
theorem g_238 : (.static ⟨"CopyHeapLaw", "put", "(LCopyHeap;III)I"⟩ : Cond) ∈ gT := List.mem_filter.mpr ⟨List.mem_append_right _ (List.mem_of_getElem? (i := 238) (by decide +kernel)), by decide +kernel⟩
theorem g_239 : (.codeWith ⟨"CopyHeapLaw", "put", "(LCopyHeap;III)I"⟩ method_6_code 5 (some .int) [(0, 7, 10, 13), (0, 7, 14, 15), (0, 7, 18, 29)] : Cond) ∈ gT := List.mem_filter.mpr ⟨List.mem_append_right _ (List.mem_of_getElem? (i := 239) (by decide +kernel)), by decide +kernel⟩
theorem g_240 : (.classLink "CopyHeapLaw" 29 "java/lang/IndexOutOfBoundsException" : Cond) ∈ gT := List.mem_filter.mpr ⟨List.mem_append_right _ (List.mem_of_getElem? (i := 240) (by decide +kernel)), by decide +kernel⟩
theorem g_241 : (.methodLink "CopyHeapLaw" 25 ⟨"CopyHeap", "put", "(III)V"⟩ : Cond) ∈ gT := List.mem_filter.mpr ⟨List.mem_append_right _ (List.mem_of_getElem? (i := 241) (by decide +kernel)), by decide +kernel⟩
theorem g_242 : (.instanceMethod ⟨"CopyHeap", "put", "(III)V"⟩ : Cond) ∈ gT := List.mem_filter.mpr ⟨List.mem_append_right _ (List.mem_of_getElem? (i := 242) (by decide +kernel)), by decide +kernel⟩
theorem g_243 : (.selects "CopyHeap" ⟨"CopyHeap", "put", "(III)V"⟩ ⟨"CopyHeap", "put", "(III)V"⟩ : Cond) ∈ gT := List.mem_filter.mpr ⟨List.mem_append_right _ (List.mem_of_getElem? (i := 243) (by decide +kernel)), by decide +kernel⟩
theorem g_244 : (.code ⟨"CopyHeap", "put", "(III)V"⟩ prog_1_method_5_code 7 (none) : Cond) ∈ gT := List.mem_filter.mpr ⟨List.mem_append_right _ (List.mem_of_getElem? (i := 244) (by decide +kernel)), by decide +kernel⟩
theorem g_245 : (.methodLink "CopyHeap" 64 ⟨"CopyHeap", "objectOf", "(I)I"⟩ : Cond) ∈ gT := List.mem_filter.mpr ⟨List.mem_append_right _ (List.mem_of_getElem? (i := 245) (by decide +kernel)), by decide +kernel⟩
theorem g_247 : (.instanceMethod ⟨"CopyHeap", "objectOf", "(I)I"⟩ : Cond) ∈ gT := List.mem_filter.mpr ⟨List.mem_append_right _ (List.mem_of_getElem? (i := 247) (by decide +kernel)), by decide +kernel⟩
theorem g_248 : (.code ⟨"CopyHeap", "objectOf", "(I)I"⟩ prog_1_method_18_code 3 (some .int) : Cond) ∈ gT := List.mem_filter.mpr ⟨List.mem_append_right _ (List.mem_of_getElem? (i := 248) (by decide +kernel)), by decide +kernel⟩
theorem g_251 : (.methodLink "CopyHeap" 72 ⟨"CopyHeap", "requireField", "(II)V"⟩ : Cond) ∈ gT := List.mem_filter.mpr ⟨List.mem_append_right _ (List.mem_of_getElem? (i := 251) (by decide +kernel)), by decide +kernel⟩
theorem g_253 : (.instanceMethod ⟨"CopyHeap", "requireField", "(II)V"⟩ : Cond) ∈ gT := List.mem_filter.mpr ⟨List.mem_append_right _ (List.mem_of_getElem? (i := 253) (by decide +kernel)), by decide +kernel⟩
theorem g_254 : (.code ⟨"CopyHeap", "requireField", "(II)V"⟩ prog_1_method_17_code 3 (none) : Cond) ∈ gT := List.mem_filter.mpr ⟨List.mem_append_right _ (List.mem_of_getElem? (i := 254) (by decide +kernel)), by decide +kernel⟩
theorem g_255 : (.classLink "CopyHeap" 91 "java/lang/IndexOutOfBoundsException" : Cond) ∈ gT := List.mem_filter.mpr ⟨List.mem_append_right _ (List.mem_of_getElem? (i := 255) (by decide +kernel)), by decide +kernel⟩
theorem g_256 : (.instantiable "java/lang/IndexOutOfBoundsException" 6 : Cond) ∈ gT := List.mem_filter.mpr ⟨List.mem_append_right _ (List.mem_of_getElem? (i := 256) (by decide +kernel)), by decide +kernel⟩
theorem g_258 : (.selects "java/lang/IndexOutOfBoundsException" ⟨"java/lang/Throwable", "fillInStackTrace", "(I)Ljava/lang/Throwable;"⟩ ⟨"java/lang/Throwable", "fillInStackTrace", "(I)Ljava/lang/Throwable;"⟩ : Cond) ∈ gT := List.mem_filter.mpr ⟨List.mem_append_right _ (List.mem_of_getElem? (i := 258) (by decide +kernel)), by decide +kernel⟩
theorem g_259 : (.lays "java/lang/IndexOutOfBoundsException" "java/lang/Throwable" "cause" "Ljava/lang/Throwable;" : Cond) ∈ gT := List.mem_filter.mpr ⟨List.mem_append_right _ (List.mem_of_getElem? (i := 259) (by decide +kernel)), by decide +kernel⟩
theorem g_260 : (.lays "java/lang/IndexOutOfBoundsException" "java/lang/Throwable" "stackTrace" "[Ljava/lang/StackTraceElement;" : Cond) ∈ gT := List.mem_filter.mpr ⟨List.mem_append_right _ (List.mem_of_getElem? (i := 260) (by decide +kernel)), by decide +kernel⟩
theorem g_261 : (.lays "java/lang/IndexOutOfBoundsException" "java/lang/Throwable" "suppressedExceptions" "Ljava/util/List;" : Cond) ∈ gT := List.mem_filter.mpr ⟨List.mem_append_right _ (List.mem_of_getElem? (i := 261) (by decide +kernel)), by decide +kernel⟩
theorem g_262 : (.lays "java/lang/IndexOutOfBoundsException" "java/lang/Throwable" "detailMessage" "Ljava/lang/String;" : Cond) ∈ gT := List.mem_filter.mpr ⟨List.mem_append_right _ (List.mem_of_getElem? (i := 262) (by decide +kernel)), by decide +kernel⟩
theorem g_263 : (.lays "java/lang/IndexOutOfBoundsException" "java/lang/Throwable" "backtrace" "Ljava/lang/Object;" : Cond) ∈ gT := List.mem_filter.mpr ⟨List.mem_append_right _ (List.mem_of_getElem? (i := 263) (by decide +kernel)), by decide +kernel⟩
theorem g_265 : (.methodLink "CopyHeap" 95 ⟨"java/lang/IndexOutOfBoundsException", "<init>", "(Ljava/lang/String;)V"⟩ : Cond) ∈ gT := List.mem_filter.mpr ⟨List.mem_append_right _ (List.mem_of_getElem? (i := 265) (by decide +kernel)), by decide +kernel⟩
theorem g_266 : (.instanceMethod ⟨"java/lang/IndexOutOfBoundsException", "<init>", "(Ljava/lang/String;)V"⟩ : Cond) ∈ gT := List.mem_filter.mpr ⟨List.mem_append_right _ (List.mem_of_getElem? (i := 266) (by decide +kernel)), by decide +kernel⟩
theorem g_267 : (.code ⟨"java/lang/IndexOutOfBoundsException", "<init>", "(Ljava/lang/String;)V"⟩ prog_8_method_2_code 2 (none) : Cond) ∈ gT := List.mem_filter.mpr ⟨List.mem_append_right _ (List.mem_of_getElem? (i := 267) (by decide +kernel)), by decide +kernel⟩
theorem g_268 : (.methodLink "java/lang/IndexOutOfBoundsException" 7 ⟨"java/lang/RuntimeException", "<init>", "(Ljava/lang/String;)V"⟩ : Cond) ∈ gT := List.mem_filter.mpr ⟨List.mem_append_right _ (List.mem_of_getElem? (i := 268) (by decide +kernel)), by decide +kernel⟩
theorem g_269 : (.lays "java/lang/IndexOutOfBoundsException" "java/lang/Throwable" "depth" "I" : Cond) ∈ gT := List.mem_filter.mpr ⟨List.mem_append_right _ (List.mem_of_getElem? (i := 269) (by decide +kernel)), by decide +kernel⟩
theorem g_270 : (.superclass "java/lang/IndexOutOfBoundsException" "java/lang/RuntimeException" : Cond) ∈ gT := List.mem_filter.mpr ⟨List.mem_append_right _ (List.mem_of_getElem? (i := 270) (by decide +kernel)), by decide +kernel⟩
theorem g_271 : (.methodLink "CopyHeapLaw" 79 ⟨"CopyHeapLaw", "raw", "(LCopyHeap;III[J)I"⟩ : Cond) ∈ gT := List.mem_filter.mpr ⟨List.mem_append_right _ (List.mem_of_getElem? (i := 271) (by decide +kernel)), by decide +kernel⟩
theorem g_272 : (.static ⟨"CopyHeapLaw", "raw", "(LCopyHeap;III[J)I"⟩ : Cond) ∈ gT := List.mem_filter.mpr ⟨List.mem_append_right _ (List.mem_of_getElem? (i := 272) (by decide +kernel)), by decide +kernel⟩
theorem g_273 : (.codeWith ⟨"CopyHeapLaw", "raw", "(LCopyHeap;III[J)I"⟩ method_7_code 6 (some .int) [(0, 12, 15, 13), (0, 12, 19, 15), (0, 12, 23, 29)] : Cond) ∈ gT := List.mem_filter.mpr ⟨List.mem_append_right _ (List.mem_of_getElem? (i := 273) (by decide +kernel)), by decide +kernel⟩
theorem g_274 : (.methodLink "CopyHeapLaw" 31 ⟨"CopyHeap", "raw", "(III)I"⟩ : Cond) ∈ gT := List.mem_filter.mpr ⟨List.mem_append_right _ (List.mem_of_getElem? (i := 274) (by decide +kernel)), by decide +kernel⟩
theorem g_275 : (.instanceMethod ⟨"CopyHeap", "raw", "(III)I"⟩ : Cond) ∈ gT := List.mem_filter.mpr ⟨List.mem_append_right _ (List.mem_of_getElem? (i := 275) (by decide +kernel)), by decide +kernel⟩
theorem g_276 : (.selects "CopyHeap" ⟨"CopyHeap", "raw", "(III)I"⟩ ⟨"CopyHeap", "raw", "(III)I"⟩ : Cond) ∈ gT := List.mem_filter.mpr ⟨List.mem_append_right _ (List.mem_of_getElem? (i := 276) (by decide +kernel)), by decide +kernel⟩
theorem g_277 : (.code ⟨"CopyHeap", "raw", "(III)I"⟩ prog_1_method_6_code 6 (some .int) : Cond) ∈ gT := List.mem_filter.mpr ⟨List.mem_append_right _ (List.mem_of_getElem? (i := 277) (by decide +kernel)), by decide +kernel⟩
theorem g_279 : (.methodLink "CopyHeapLaw" 82 ⟨"CopyHeapLaw", "get", "(LCopyHeap;III[J)I"⟩ : Cond) ∈ gT := List.mem_filter.mpr ⟨List.mem_append_right _ (List.mem_of_getElem? (i := 279) (by decide +kernel)), by decide +kernel⟩
theorem g_280 : (.static ⟨"CopyHeapLaw", "get", "(LCopyHeap;III[J)I"⟩ : Cond) ∈ gT := List.mem_filter.mpr ⟨List.mem_append_right _ (List.mem_of_getElem? (i := 280) (by decide +kernel)), by decide +kernel⟩
theorem g_281 : (.codeWith ⟨"CopyHeapLaw", "get", "(LCopyHeap;III[J)I"⟩ method_8_code 6 (some .int) [(0, 19, 22, 13), (0, 19, 26, 15), (0, 19, 30, 29)] : Cond) ∈ gT := List.mem_filter.mpr ⟨List.mem_append_right _ (List.mem_of_getElem? (i := 281) (by decide +kernel)), by decide +kernel⟩
theorem g_282 : (.methodLink "CopyHeapLaw" 34 ⟨"CopyHeap", "get", "(III)Z"⟩ : Cond) ∈ gT := List.mem_filter.mpr ⟨List.mem_append_right _ (List.mem_of_getElem? (i := 282) (by decide +kernel)), by decide +kernel⟩
theorem g_283 : (.instanceMethod ⟨"CopyHeap", "get", "(III)Z"⟩ : Cond) ∈ gT := List.mem_filter.mpr ⟨List.mem_append_right _ (List.mem_of_getElem? (i := 283) (by decide +kernel)), by decide +kernel⟩
theorem g_284 : (.selects "CopyHeap" ⟨"CopyHeap", "get", "(III)Z"⟩ ⟨"CopyHeap", "get", "(III)Z"⟩ : Cond) ∈ gT := List.mem_filter.mpr ⟨List.mem_append_right _ (List.mem_of_getElem? (i := 284) (by decide +kernel)), by decide +kernel⟩
theorem g_285 : (.code ⟨"CopyHeap", "get", "(III)Z"⟩ prog_1_method_7_code 6 (some .boolean) : Cond) ∈ gT := List.mem_filter.mpr ⟨List.mem_append_right _ (List.mem_of_getElem? (i := 285) (by decide +kernel)), by decide +kernel⟩
theorem g_286 : (.methodLink "CopyHeapLaw" 89 ⟨"CopyHeapLaw", "about", "(LCopyHeap;II[J)I"⟩ : Cond) ∈ gT := List.mem_filter.mpr ⟨List.mem_append_right _ (List.mem_of_getElem? (i := 286) (by decide +kernel)), by decide +kernel⟩
theorem g_287 : (.static ⟨"CopyHeapLaw", "about", "(LCopyHeap;II[J)I"⟩ : Cond) ∈ gT := List.mem_filter.mpr ⟨List.mem_append_right _ (List.mem_of_getElem? (i := 287) (by decide +kernel)), by decide +kernel⟩
theorem g_288 : (.codeWith ⟨"CopyHeapLaw", "about", "(LCopyHeap;II[J)I"⟩ method_9_code 5 (some .int) [(0, 10, 13, 13), (0, 10, 17, 29)] : Cond) ∈ gT := List.mem_filter.mpr ⟨List.mem_append_right _ (List.mem_of_getElem? (i := 288) (by decide +kernel)), by decide +kernel⟩
theorem g_289 : (.methodLink "CopyHeapLaw" 38 ⟨"CopyHeap", "about", "(II)I"⟩ : Cond) ∈ gT := List.mem_filter.mpr ⟨List.mem_append_right _ (List.mem_of_getElem? (i := 289) (by decide +kernel)), by decide +kernel⟩
theorem g_290 : (.instanceMethod ⟨"CopyHeap", "about", "(II)I"⟩ : Cond) ∈ gT := List.mem_filter.mpr ⟨List.mem_append_right _ (List.mem_of_getElem? (i := 290) (by decide +kernel)), by decide +kernel⟩
theorem g_291 : (.selects "CopyHeap" ⟨"CopyHeap", "about", "(II)I"⟩ ⟨"CopyHeap", "about", "(II)I"⟩ : Cond) ∈ gT := List.mem_filter.mpr ⟨List.mem_append_right _ (List.mem_of_getElem? (i := 291) (by decide +kernel)), by decide +kernel⟩
theorem g_292 : (.code ⟨"CopyHeap", "about", "(II)I"⟩ prog_1_method_9_code 6 (some .int) : Cond) ∈ gT := List.mem_filter.mpr ⟨List.mem_append_right _ (List.mem_of_getElem? (i := 292) (by decide +kernel)), by decide +kernel⟩
theorem g_294 : (.methodLink "CopyHeapLaw" 92 ⟨"CopyHeapLaw", "look", "(LCopyHeap;II[J)I"⟩ : Cond) ∈ gT := List.mem_filter.mpr ⟨List.mem_append_right _ (List.mem_of_getElem? (i := 294) (by decide +kernel)), by decide +kernel⟩
theorem g_295 : (.static ⟨"CopyHeapLaw", "look", "(LCopyHeap;II[J)I"⟩ : Cond) ∈ gT := List.mem_filter.mpr ⟨List.mem_append_right _ (List.mem_of_getElem? (i := 295) (by decide +kernel)), by decide +kernel⟩
theorem g_296 : (.codeWith ⟨"CopyHeapLaw", "look", "(LCopyHeap;II[J)I"⟩ method_10_code 5 (some .int) [(0, 10, 13, 29)] : Cond) ∈ gT := List.mem_filter.mpr ⟨List.mem_append_right _ (List.mem_of_getElem? (i := 296) (by decide +kernel)), by decide +kernel⟩
theorem g_297 : (.methodLink "CopyHeapLaw" 41 ⟨"CopyHeap", "look", "(II)I"⟩ : Cond) ∈ gT := List.mem_filter.mpr ⟨List.mem_append_right _ (List.mem_of_getElem? (i := 297) (by decide +kernel)), by decide +kernel⟩
theorem g_298 : (.instanceMethod ⟨"CopyHeap", "look", "(II)I"⟩ : Cond) ∈ gT := List.mem_filter.mpr ⟨List.mem_append_right _ (List.mem_of_getElem? (i := 298) (by decide +kernel)), by decide +kernel⟩
theorem g_299 : (.selects "CopyHeap" ⟨"CopyHeap", "look", "(II)I"⟩ ⟨"CopyHeap", "look", "(II)I"⟩ : Cond) ∈ gT := List.mem_filter.mpr ⟨List.mem_append_right _ (List.mem_of_getElem? (i := 299) (by decide +kernel)), by decide +kernel⟩
theorem g_300 : (.code ⟨"CopyHeap", "look", "(II)I"⟩ prog_1_method_10_code 5 (some .int) : Cond) ∈ gT := List.mem_filter.mpr ⟨List.mem_append_right _ (List.mem_of_getElem? (i := 300) (by decide +kernel)), by decide +kernel⟩
theorem g_301 : (.methodLink "CopyHeap" 96 ⟨"CopyHeap$Half", "holds", "(I)Z"⟩ : Cond) ∈ gT := List.mem_filter.mpr ⟨List.mem_append_right _ (List.mem_of_getElem? (i := 301) (by decide +kernel)), by decide +kernel⟩
theorem g_302 : (.instanceMethod ⟨"CopyHeap$Half", "holds", "(I)Z"⟩ : Cond) ∈ gT := List.mem_filter.mpr ⟨List.mem_append_right _ (List.mem_of_getElem? (i := 302) (by decide +kernel)), by decide +kernel⟩
theorem g_303 : (.selects "CopyHeap$Half" ⟨"CopyHeap$Half", "holds", "(I)Z"⟩ ⟨"CopyHeap$Half", "holds", "(I)Z"⟩ : Cond) ∈ gT := List.mem_filter.mpr ⟨List.mem_append_right _ (List.mem_of_getElem? (i := 303) (by decide +kernel)), by decide +kernel⟩
theorem g_304 : (.code ⟨"CopyHeap$Half", "holds", "(I)Z"⟩ prog_2_method_4_code 2 (some .boolean) : Cond) ∈ gT := List.mem_filter.mpr ⟨List.mem_append_right _ (List.mem_of_getElem? (i := 304) (by decide +kernel)), by decide +kernel⟩
theorem g_306 : (.methodLink "CopyHeap" 101 ⟨"CopyHeap$Half", "sortAt", "(I)I"⟩ : Cond) ∈ gT := List.mem_filter.mpr ⟨List.mem_append_right _ (List.mem_of_getElem? (i := 306) (by decide +kernel)), by decide +kernel⟩
theorem g_307 : (.instanceMethod ⟨"CopyHeap$Half", "sortAt", "(I)I"⟩ : Cond) ∈ gT := List.mem_filter.mpr ⟨List.mem_append_right _ (List.mem_of_getElem? (i := 307) (by decide +kernel)), by decide +kernel⟩
theorem g_308 : (.selects "CopyHeap$Half" ⟨"CopyHeap$Half", "sortAt", "(I)I"⟩ ⟨"CopyHeap$Half", "sortAt", "(I)I"⟩ : Cond) ∈ gT := List.mem_filter.mpr ⟨List.mem_append_right _ (List.mem_of_getElem? (i := 308) (by decide +kernel)), by decide +kernel⟩
theorem g_309 : (.code ⟨"CopyHeap$Half", "sortAt", "(I)I"⟩ prog_2_method_9_code 5 (some .int) : Cond) ∈ gT := List.mem_filter.mpr ⟨List.mem_append_right _ (List.mem_of_getElem? (i := 309) (by decide +kernel)), by decide +kernel⟩
theorem g_310 : (.methodLink "CopyHeap$Half" 29 ⟨"CopyHeap$Half", "kindAt", "(I)I"⟩ : Cond) ∈ gT := List.mem_filter.mpr ⟨List.mem_append_right _ (List.mem_of_getElem? (i := 310) (by decide +kernel)), by decide +kernel⟩
theorem g_312 : (.methodLink "CopyHeapLaw" 95 ⟨"CopyHeapLaw", "count", "(LCopyHeap;I[J)I"⟩ : Cond) ∈ gT := List.mem_filter.mpr ⟨List.mem_append_right _ (List.mem_of_getElem? (i := 312) (by decide +kernel)), by decide +kernel⟩
theorem g_313 : (.static ⟨"CopyHeapLaw", "count", "(LCopyHeap;I[J)I"⟩ : Cond) ∈ gT := List.mem_filter.mpr ⟨List.mem_append_right _ (List.mem_of_getElem? (i := 313) (by decide +kernel)), by decide +kernel⟩
theorem g_314 : (.codeWith ⟨"CopyHeapLaw", "count", "(LCopyHeap;I[J)I"⟩ method_11_code 4 (some .int) [(0, 9, 12, 29)] : Cond) ∈ gT := List.mem_filter.mpr ⟨List.mem_append_right _ (List.mem_of_getElem? (i := 314) (by decide +kernel)), by decide +kernel⟩
theorem g_315 : (.methodLink "CopyHeapLaw" 44 ⟨"CopyHeap", "count", "(I)I"⟩ : Cond) ∈ gT := List.mem_filter.mpr ⟨List.mem_append_right _ (List.mem_of_getElem? (i := 315) (by decide +kernel)), by decide +kernel⟩
theorem g_316 : (.instanceMethod ⟨"CopyHeap", "count", "(I)I"⟩ : Cond) ∈ gT := List.mem_filter.mpr ⟨List.mem_append_right _ (List.mem_of_getElem? (i := 316) (by decide +kernel)), by decide +kernel⟩
theorem g_317 : (.selects "CopyHeap" ⟨"CopyHeap", "count", "(I)I"⟩ ⟨"CopyHeap", "count", "(I)I"⟩ : Cond) ∈ gT := List.mem_filter.mpr ⟨List.mem_append_right _ (List.mem_of_getElem? (i := 317) (by decide +kernel)), by decide +kernel⟩
theorem g_318 : (.code ⟨"CopyHeap", "count", "(I)I"⟩ prog_1_method_11_code 2 (some .int) : Cond) ∈ gT := List.mem_filter.mpr ⟨List.mem_append_right _ (List.mem_of_getElem? (i := 318) (by decide +kernel)), by decide +kernel⟩
theorem g_320 : (.classLink "CopyHeapLaw" 57 "CopyHeapModel" : Cond) ∈ gT := List.mem_filter.mpr ⟨List.mem_append_right _ (List.mem_of_getElem? (i := 320) (by decide +kernel)), by decide +kernel⟩
theorem g_321 : (.instantiable "CopyHeapModel" 14 : Cond) ∈ gT := List.mem_filter.mpr ⟨List.mem_append_right _ (List.mem_of_getElem? (i := 321) (by decide +kernel)), by decide +kernel⟩
theorem g_322 : (.methodLink "CopyHeapLaw" 59 ⟨"CopyHeapModel", "<init>", "(I)V"⟩ : Cond) ∈ gT := List.mem_filter.mpr ⟨List.mem_append_right _ (List.mem_of_getElem? (i := 322) (by decide +kernel)), by decide +kernel⟩
theorem g_323 : (.instanceMethod ⟨"CopyHeapModel", "<init>", "(I)V"⟩ : Cond) ∈ gT := List.mem_filter.mpr ⟨List.mem_append_right _ (List.mem_of_getElem? (i := 323) (by decide +kernel)), by decide +kernel⟩
theorem g_324 : (.code ⟨"CopyHeapModel", "<init>", "(I)V"⟩ prog_4_method_1_code 3 (none) : Cond) ∈ gT := List.mem_filter.mpr ⟨List.mem_append_right _ (List.mem_of_getElem? (i := 324) (by decide +kernel)), by decide +kernel⟩
theorem g_325 : (.methodLink "CopyHeapModel" 1 ⟨"java/lang/Object", "<init>", "()V"⟩ : Cond) ∈ gT := List.mem_filter.mpr ⟨List.mem_append_right _ (List.mem_of_getElem? (i := 325) (by decide +kernel)), by decide +kernel⟩
theorem g_326 : (.fieldLink "CopyHeapModel" 38 "CopyHeapModel" "thrown" "I" : Cond) ∈ gT := List.mem_filter.mpr ⟨List.mem_append_right _ (List.mem_of_getElem? (i := 326) (by decide +kernel)), by decide +kernel⟩
theorem g_327 : (.fieldLink "CopyHeapModel" 34 "CopyHeapModel" "half" "I" : Cond) ∈ gT := List.mem_filter.mpr ⟨List.mem_append_right _ (List.mem_of_getElem? (i := 327) (by decide +kernel)), by decide +kernel⟩
theorem g_328 : (.fieldLink "CopyHeapModel" 48 "CopyHeapModel" "used" "I" : Cond) ∈ gT := List.mem_filter.mpr ⟨List.mem_append_right _ (List.mem_of_getElem? (i := 328) (by decide +kernel)), by decide +kernel⟩
theorem g_329 : (.fieldLink "CopyHeapModel" 55 "CopyHeapModel" "collections" "I" : Cond) ∈ gT := List.mem_filter.mpr ⟨List.mem_append_right _ (List.mem_of_getElem? (i := 329) (by decide +kernel)), by decide +kernel⟩
theorem g_330 : (.fieldLink "CopyHeapModel" 58 "CopyHeapModel" "moved" "I" : Cond) ∈ gT := List.mem_filter.mpr ⟨List.mem_append_right _ (List.mem_of_getElem? (i := 330) (by decide +kernel)), by decide +kernel⟩
theorem g_331 : (.fieldLink "CopyHeapModel" 7 "CopyHeapModel" "sort" "[I" : Cond) ∈ gT := List.mem_filter.mpr ⟨List.mem_append_right _ (List.mem_of_getElem? (i := 331) (by decide +kernel)), by decide +kernel⟩
theorem g_332 : (.fieldLink "CopyHeapModel" 13 "CopyHeapModel" "value" "[I" : Cond) ∈ gT := List.mem_filter.mpr ⟨List.mem_append_right _ (List.mem_of_getElem? (i := 332) (by decide +kernel)), by decide +kernel⟩
theorem g_333 : (.fieldLink "CopyHeapModel" 16 "CopyHeapModel" "newSort" "[I" : Cond) ∈ gT := List.mem_filter.mpr ⟨List.mem_append_right _ (List.mem_of_getElem? (i := 333) (by decide +kernel)), by decide +kernel⟩
theorem g_334 : (.fieldLink "CopyHeapModel" 19 "CopyHeapModel" "newValue" "[I" : Cond) ∈ gT := List.mem_filter.mpr ⟨List.mem_append_right _ (List.mem_of_getElem? (i := 334) (by decide +kernel)), by decide +kernel⟩
theorem g_335 : (.fieldLink "CopyHeapModel" 22 "CopyHeapModel" "registerSort" "[I" : Cond) ∈ gT := List.mem_filter.mpr ⟨List.mem_append_right _ (List.mem_of_getElem? (i := 335) (by decide +kernel)), by decide +kernel⟩
theorem g_336 : (.fieldLink "CopyHeapModel" 25 "CopyHeapModel" "registerValue" "[I" : Cond) ∈ gT := List.mem_filter.mpr ⟨List.mem_append_right _ (List.mem_of_getElem? (i := 336) (by decide +kernel)), by decide +kernel⟩
theorem g_337 : (.fieldLink "CopyHeapModel" 41 "CopyHeapModel" "stays" "I" : Cond) ∈ gT := List.mem_filter.mpr ⟨List.mem_append_right _ (List.mem_of_getElem? (i := 337) (by decide +kernel)), by decide +kernel⟩
theorem g_338 : (.fieldLink "CopyHeapModel" 28 "CopyHeapModel" "stay" "[I" : Cond) ∈ gT := List.mem_filter.mpr ⟨List.mem_append_right _ (List.mem_of_getElem? (i := 338) (by decide +kernel)), by decide +kernel⟩
theorem g_339 : (.fieldLink "CopyHeapModel" 31 "CopyHeapModel" "goes" "[I" : Cond) ∈ gT := List.mem_filter.mpr ⟨List.mem_append_right _ (List.mem_of_getElem? (i := 339) (by decide +kernel)), by decide +kernel⟩
theorem g_340 : (.lays "CopyHeapModel" "CopyHeapModel" "thrown" "I" : Cond) ∈ gT := List.mem_filter.mpr ⟨List.mem_append_right _ (List.mem_of_getElem? (i := 340) (by decide +kernel)), by decide +kernel⟩
theorem g_341 : (.soleField "CopyHeapModel" "thrown" : Cond) ∈ gT := List.mem_filter.mpr ⟨List.mem_append_right _ (List.mem_of_getElem? (i := 341) (by decide +kernel)), by decide +kernel⟩
theorem g_342 : (.laysFinal "CopyHeapModel" "CopyHeapModel" "half" "I" : Cond) ∈ gT := List.mem_filter.mpr ⟨List.mem_append_right _ (List.mem_of_getElem? (i := 342) (by decide +kernel)), by decide +kernel⟩
theorem g_343 : (.soleField "CopyHeapModel" "half" : Cond) ∈ gT := List.mem_filter.mpr ⟨List.mem_append_right _ (List.mem_of_getElem? (i := 343) (by decide +kernel)), by decide +kernel⟩
theorem g_344 : (.lays "CopyHeapModel" "CopyHeapModel" "used" "I" : Cond) ∈ gT := List.mem_filter.mpr ⟨List.mem_append_right _ (List.mem_of_getElem? (i := 344) (by decide +kernel)), by decide +kernel⟩
theorem g_345 : (.soleField "CopyHeapModel" "used" : Cond) ∈ gT := List.mem_filter.mpr ⟨List.mem_append_right _ (List.mem_of_getElem? (i := 345) (by decide +kernel)), by decide +kernel⟩
theorem g_346 : (.lays "CopyHeapModel" "CopyHeapModel" "collections" "I" : Cond) ∈ gT := List.mem_filter.mpr ⟨List.mem_append_right _ (List.mem_of_getElem? (i := 346) (by decide +kernel)), by decide +kernel⟩
theorem g_347 : (.soleField "CopyHeapModel" "collections" : Cond) ∈ gT := List.mem_filter.mpr ⟨List.mem_append_right _ (List.mem_of_getElem? (i := 347) (by decide +kernel)), by decide +kernel⟩
theorem g_348 : (.lays "CopyHeapModel" "CopyHeapModel" "moved" "I" : Cond) ∈ gT := List.mem_filter.mpr ⟨List.mem_append_right _ (List.mem_of_getElem? (i := 348) (by decide +kernel)), by decide +kernel⟩
theorem g_349 : (.soleField "CopyHeapModel" "moved" : Cond) ∈ gT := List.mem_filter.mpr ⟨List.mem_append_right _ (List.mem_of_getElem? (i := 349) (by decide +kernel)), by decide +kernel⟩
theorem g_350 : (.laysFinal "CopyHeapModel" "CopyHeapModel" "sort" "[I" : Cond) ∈ gT := List.mem_filter.mpr ⟨List.mem_append_right _ (List.mem_of_getElem? (i := 350) (by decide +kernel)), by decide +kernel⟩
theorem g_351 : (.soleField "CopyHeapModel" "sort" : Cond) ∈ gT := List.mem_filter.mpr ⟨List.mem_append_right _ (List.mem_of_getElem? (i := 351) (by decide +kernel)), by decide +kernel⟩
theorem g_352 : (.laysFinal "CopyHeapModel" "CopyHeapModel" "value" "[I" : Cond) ∈ gT := List.mem_filter.mpr ⟨List.mem_append_right _ (List.mem_of_getElem? (i := 352) (by decide +kernel)), by decide +kernel⟩
theorem g_353 : (.soleField "CopyHeapModel" "value" : Cond) ∈ gT := List.mem_filter.mpr ⟨List.mem_append_right _ (List.mem_of_getElem? (i := 353) (by decide +kernel)), by decide +kernel⟩
theorem g_354 : (.laysFinal "CopyHeapModel" "CopyHeapModel" "newSort" "[I" : Cond) ∈ gT := List.mem_filter.mpr ⟨List.mem_append_right _ (List.mem_of_getElem? (i := 354) (by decide +kernel)), by decide +kernel⟩
theorem g_355 : (.soleField "CopyHeapModel" "newSort" : Cond) ∈ gT := List.mem_filter.mpr ⟨List.mem_append_right _ (List.mem_of_getElem? (i := 355) (by decide +kernel)), by decide +kernel⟩
theorem g_356 : (.laysFinal "CopyHeapModel" "CopyHeapModel" "newValue" "[I" : Cond) ∈ gT := List.mem_filter.mpr ⟨List.mem_append_right _ (List.mem_of_getElem? (i := 356) (by decide +kernel)), by decide +kernel⟩
theorem g_357 : (.soleField "CopyHeapModel" "newValue" : Cond) ∈ gT := List.mem_filter.mpr ⟨List.mem_append_right _ (List.mem_of_getElem? (i := 357) (by decide +kernel)), by decide +kernel⟩
theorem g_358 : (.laysFinal "CopyHeapModel" "CopyHeapModel" "registerSort" "[I" : Cond) ∈ gT := List.mem_filter.mpr ⟨List.mem_append_right _ (List.mem_of_getElem? (i := 358) (by decide +kernel)), by decide +kernel⟩
theorem g_359 : (.soleField "CopyHeapModel" "registerSort" : Cond) ∈ gT := List.mem_filter.mpr ⟨List.mem_append_right _ (List.mem_of_getElem? (i := 359) (by decide +kernel)), by decide +kernel⟩
theorem g_360 : (.laysFinal "CopyHeapModel" "CopyHeapModel" "registerValue" "[I" : Cond) ∈ gT := List.mem_filter.mpr ⟨List.mem_append_right _ (List.mem_of_getElem? (i := 360) (by decide +kernel)), by decide +kernel⟩
theorem g_361 : (.soleField "CopyHeapModel" "registerValue" : Cond) ∈ gT := List.mem_filter.mpr ⟨List.mem_append_right _ (List.mem_of_getElem? (i := 361) (by decide +kernel)), by decide +kernel⟩
theorem g_362 : (.lays "CopyHeapModel" "CopyHeapModel" "stays" "I" : Cond) ∈ gT := List.mem_filter.mpr ⟨List.mem_append_right _ (List.mem_of_getElem? (i := 362) (by decide +kernel)), by decide +kernel⟩
theorem g_363 : (.soleField "CopyHeapModel" "stays" : Cond) ∈ gT := List.mem_filter.mpr ⟨List.mem_append_right _ (List.mem_of_getElem? (i := 363) (by decide +kernel)), by decide +kernel⟩
theorem g_364 : (.laysFinal "CopyHeapModel" "CopyHeapModel" "stay" "[I" : Cond) ∈ gT := List.mem_filter.mpr ⟨List.mem_append_right _ (List.mem_of_getElem? (i := 364) (by decide +kernel)), by decide +kernel⟩
theorem g_365 : (.soleField "CopyHeapModel" "stay" : Cond) ∈ gT := List.mem_filter.mpr ⟨List.mem_append_right _ (List.mem_of_getElem? (i := 365) (by decide +kernel)), by decide +kernel⟩
theorem g_366 : (.laysFinal "CopyHeapModel" "CopyHeapModel" "goes" "[I" : Cond) ∈ gT := List.mem_filter.mpr ⟨List.mem_append_right _ (List.mem_of_getElem? (i := 366) (by decide +kernel)), by decide +kernel⟩
theorem g_367 : (.soleField "CopyHeapModel" "goes" : Cond) ∈ gT := List.mem_filter.mpr ⟨List.mem_append_right _ (List.mem_of_getElem? (i := 367) (by decide +kernel)), by decide +kernel⟩
theorem g_368 : (.superclass "CopyHeapModel" "java/lang/Object" : Cond) ∈ gT := List.mem_filter.mpr ⟨List.mem_append_right _ (List.mem_of_getElem? (i := 368) (by decide +kernel)), by decide +kernel⟩
theorem g_369 : (.methodLink "CopyHeapLaw" 64 ⟨"CopyHeapModel", "thrown", "()I"⟩ : Cond) ∈ gT := List.mem_filter.mpr ⟨List.mem_append_right _ (List.mem_of_getElem? (i := 369) (by decide +kernel)), by decide +kernel⟩
theorem g_370 : (.instanceMethod ⟨"CopyHeapModel", "thrown", "()I"⟩ : Cond) ∈ gT := List.mem_filter.mpr ⟨List.mem_append_right _ (List.mem_of_getElem? (i := 370) (by decide +kernel)), by decide +kernel⟩
theorem g_371 : (.selects "CopyHeapModel" ⟨"CopyHeapModel", "thrown", "()I"⟩ ⟨"CopyHeapModel", "thrown", "()I"⟩ : Cond) ∈ gT := List.mem_filter.mpr ⟨List.mem_append_right _ (List.mem_of_getElem? (i := 371) (by decide +kernel)), by decide +kernel⟩
theorem g_372 : (.code ⟨"CopyHeapModel", "thrown", "()I"⟩ prog_4_method_2_code 1 (some .int) : Cond) ∈ gT := List.mem_filter.mpr ⟨List.mem_append_right _ (List.mem_of_getElem? (i := 372) (by decide +kernel)), by decide +kernel⟩
theorem g_373 : (.methodLink "CopyHeapLaw" 88 ⟨"CopyHeapModel", "collect", "()I"⟩ : Cond) ∈ gT := List.mem_filter.mpr ⟨List.mem_append_right _ (List.mem_of_getElem? (i := 373) (by decide +kernel)), by decide +kernel⟩
theorem g_374 : (.instanceMethod ⟨"CopyHeapModel", "collect", "()I"⟩ : Cond) ∈ gT := List.mem_filter.mpr ⟨List.mem_append_right _ (List.mem_of_getElem? (i := 374) (by decide +kernel)), by decide +kernel⟩
theorem g_375 : (.selects "CopyHeapModel" ⟨"CopyHeapModel", "collect", "()I"⟩ ⟨"CopyHeapModel", "collect", "()I"⟩ : Cond) ∈ gT := List.mem_filter.mpr ⟨List.mem_append_right _ (List.mem_of_getElem? (i := 375) (by decide +kernel)), by decide +kernel⟩
theorem g_376 : (.code ⟨"CopyHeapModel", "collect", "()I"⟩ prog_4_method_9_code 1 (some .int) : Cond) ∈ gT := List.mem_filter.mpr ⟨List.mem_append_right _ (List.mem_of_getElem? (i := 376) (by decide +kernel)), by decide +kernel⟩
theorem g_377 : (.methodLink "CopyHeapModel" 61 ⟨"CopyHeapModel", "gather", "()I"⟩ : Cond) ∈ gT := List.mem_filter.mpr ⟨List.mem_append_right _ (List.mem_of_getElem? (i := 377) (by decide +kernel)), by decide +kernel⟩
theorem g_379 : (.instanceMethod ⟨"CopyHeapModel", "gather", "()I"⟩ : Cond) ∈ gT := List.mem_filter.mpr ⟨List.mem_append_right _ (List.mem_of_getElem? (i := 379) (by decide +kernel)), by decide +kernel⟩
theorem g_380 : (.code ⟨"CopyHeapModel", "gather", "()I"⟩ prog_4_method_8_code 6 (some .int) : Cond) ∈ gT := List.mem_filter.mpr ⟨List.mem_append_right _ (List.mem_of_getElem? (i := 380) (by decide +kernel)), by decide +kernel⟩
theorem g_381 : (.methodLink "CopyHeapModel" 51 ⟨"CopyHeapModel", "keep", "(I)V"⟩ : Cond) ∈ gT := List.mem_filter.mpr ⟨List.mem_append_right _ (List.mem_of_getElem? (i := 381) (by decide +kernel)), by decide +kernel⟩
theorem g_383 : (.instanceMethod ⟨"CopyHeapModel", "keep", "(I)V"⟩ : Cond) ∈ gT := List.mem_filter.mpr ⟨List.mem_append_right _ (List.mem_of_getElem? (i := 383) (by decide +kernel)), by decide +kernel⟩
theorem g_384 : (.code ⟨"CopyHeapModel", "keep", "(I)V"⟩ prog_4_method_7_code 3 (none) : Cond) ∈ gT := List.mem_filter.mpr ⟨List.mem_append_right _ (List.mem_of_getElem? (i := 384) (by decide +kernel)), by decide +kernel⟩
theorem g_385 : (.methodLink "CopyHeapModel" 44 ⟨"CopyHeapModel", "fieldsAt", "(I)I"⟩ : Cond) ∈ gT := List.mem_filter.mpr ⟨List.mem_append_right _ (List.mem_of_getElem? (i := 385) (by decide +kernel)), by decide +kernel⟩
theorem g_387 : (.instanceMethod ⟨"CopyHeapModel", "fieldsAt", "(I)I"⟩ : Cond) ∈ gT := List.mem_filter.mpr ⟨List.mem_append_right _ (List.mem_of_getElem? (i := 387) (by decide +kernel)), by decide +kernel⟩
theorem g_388 : (.code ⟨"CopyHeapModel", "fieldsAt", "(I)I"⟩ prog_4_method_6_code 2 (some .int) : Cond) ∈ gT := List.mem_filter.mpr ⟨List.mem_append_right _ (List.mem_of_getElem? (i := 388) (by decide +kernel)), by decide +kernel⟩
theorem g_389 : (.methodLink "CopyHeapLaw" 63 ⟨"CopyHeapModel", "make", "(III)I"⟩ : Cond) ∈ gT := List.mem_filter.mpr ⟨List.mem_append_right _ (List.mem_of_getElem? (i := 389) (by decide +kernel)), by decide +kernel⟩
theorem g_390 : (.instanceMethod ⟨"CopyHeapModel", "make", "(III)I"⟩ : Cond) ∈ gT := List.mem_filter.mpr ⟨List.mem_append_right _ (List.mem_of_getElem? (i := 390) (by decide +kernel)), by decide +kernel⟩
theorem g_391 : (.selects "CopyHeapModel" ⟨"CopyHeapModel", "make", "(III)I"⟩ ⟨"CopyHeapModel", "make", "(III)I"⟩ : Cond) ∈ gT := List.mem_filter.mpr ⟨List.mem_append_right _ (List.mem_of_getElem? (i := 391) (by decide +kernel)), by decide +kernel⟩
theorem g_392 : (.code ⟨"CopyHeapModel", "make", "(III)I"⟩ prog_4_method_10_code 6 (some .int) : Cond) ∈ gT := List.mem_filter.mpr ⟨List.mem_append_right _ (List.mem_of_getElem? (i := 392) (by decide +kernel)), by decide +kernel⟩
theorem g_393 : (.methodLink "CopyHeapModel" 65 ⟨"CopyHeapModel", "isRegister", "(I)Z"⟩ : Cond) ∈ gT := List.mem_filter.mpr ⟨List.mem_append_right _ (List.mem_of_getElem? (i := 393) (by decide +kernel)), by decide +kernel⟩
theorem g_394 : (.static ⟨"CopyHeapModel", "isRegister", "(I)Z"⟩ : Cond) ∈ gT := List.mem_filter.mpr ⟨List.mem_append_right _ (List.mem_of_getElem? (i := 394) (by decide +kernel)), by decide +kernel⟩
theorem g_395 : (.code ⟨"CopyHeapModel", "isRegister", "(I)Z"⟩ prog_4_method_4_code 1 (some .boolean) : Cond) ∈ gT := List.mem_filter.mpr ⟨List.mem_append_right _ (List.mem_of_getElem? (i := 395) (by decide +kernel)), by decide +kernel⟩
theorem g_396 : (.methodLink "CopyHeapModel" 69 ⟨"CopyHeapModel", "fail", "(I)I"⟩ : Cond) ∈ gT := List.mem_filter.mpr ⟨List.mem_append_right _ (List.mem_of_getElem? (i := 396) (by decide +kernel)), by decide +kernel⟩
theorem g_398 : (.instanceMethod ⟨"CopyHeapModel", "fail", "(I)I"⟩ : Cond) ∈ gT := List.mem_filter.mpr ⟨List.mem_append_right _ (List.mem_of_getElem? (i := 398) (by decide +kernel)), by decide +kernel⟩
theorem g_399 : (.code ⟨"CopyHeapModel", "fail", "(I)I"⟩ prog_4_method_3_code 2 (some .int) : Cond) ∈ gT := List.mem_filter.mpr ⟨List.mem_append_right _ (List.mem_of_getElem? (i := 399) (by decide +kernel)), by decide +kernel⟩
theorem g_400 : (.methodLink "CopyHeapLaw" 71 ⟨"CopyHeapModel", "number", "(II)I"⟩ : Cond) ∈ gT := List.mem_filter.mpr ⟨List.mem_append_right _ (List.mem_of_getElem? (i := 400) (by decide +kernel)), by decide +kernel⟩
theorem g_401 : (.instanceMethod ⟨"CopyHeapModel", "number", "(II)I"⟩ : Cond) ∈ gT := List.mem_filter.mpr ⟨List.mem_append_right _ (List.mem_of_getElem? (i := 401) (by decide +kernel)), by decide +kernel⟩
theorem g_402 : (.selects "CopyHeapModel" ⟨"CopyHeapModel", "number", "(II)I"⟩ ⟨"CopyHeapModel", "number", "(II)I"⟩ : Cond) ∈ gT := List.mem_filter.mpr ⟨List.mem_append_right _ (List.mem_of_getElem? (i := 402) (by decide +kernel)), by decide +kernel⟩
theorem g_403 : (.code ⟨"CopyHeapModel", "number", "(II)I"⟩ prog_4_method_11_code 3 (some .int) : Cond) ∈ gT := List.mem_filter.mpr ⟨List.mem_append_right _ (List.mem_of_getElem? (i := 403) (by decide +kernel)), by decide +kernel⟩
theorem g_404 : (.methodLink "CopyHeapModel" 72 ⟨"CopyHeapModel", "kept", "(I)I"⟩ : Cond) ∈ gT := List.mem_filter.mpr ⟨List.mem_append_right _ (List.mem_of_getElem? (i := 404) (by decide +kernel)), by decide +kernel⟩
theorem g_405 : (.static ⟨"CopyHeapModel", "kept", "(I)I"⟩ : Cond) ∈ gT := List.mem_filter.mpr ⟨List.mem_append_right _ (List.mem_of_getElem? (i := 405) (by decide +kernel)), by decide +kernel⟩
theorem g_406 : (.code ⟨"CopyHeapModel", "kept", "(I)I"⟩ prog_4_method_5_code 1 (some .int) : Cond) ∈ gT := List.mem_filter.mpr ⟨List.mem_append_right _ (List.mem_of_getElem? (i := 406) (by decide +kernel)), by decide +kernel⟩
theorem g_407 : (.methodLink "CopyHeapLaw" 74 ⟨"CopyHeapModel", "copy", "(II)Z"⟩ : Cond) ∈ gT := List.mem_filter.mpr ⟨List.mem_append_right _ (List.mem_of_getElem? (i := 407) (by decide +kernel)), by decide +kernel⟩
theorem g_408 : (.instanceMethod ⟨"CopyHeapModel", "copy", "(II)Z"⟩ : Cond) ∈ gT := List.mem_filter.mpr ⟨List.mem_append_right _ (List.mem_of_getElem? (i := 408) (by decide +kernel)), by decide +kernel⟩
theorem g_409 : (.selects "CopyHeapModel" ⟨"CopyHeapModel", "copy", "(II)Z"⟩ ⟨"CopyHeapModel", "copy", "(II)Z"⟩ : Cond) ∈ gT := List.mem_filter.mpr ⟨List.mem_append_right _ (List.mem_of_getElem? (i := 409) (by decide +kernel)), by decide +kernel⟩
theorem g_410 : (.code ⟨"CopyHeapModel", "copy", "(II)Z"⟩ prog_4_method_12_code 3 (some .boolean) : Cond) ∈ gT := List.mem_filter.mpr ⟨List.mem_append_right _ (List.mem_of_getElem? (i := 410) (by decide +kernel)), by decide +kernel⟩
theorem g_411 : (.methodLink "CopyHeapLaw" 78 ⟨"CopyHeapModel", "put", "(III)V"⟩ : Cond) ∈ gT := List.mem_filter.mpr ⟨List.mem_append_right _ (List.mem_of_getElem? (i := 411) (by decide +kernel)), by decide +kernel⟩
theorem g_412 : (.instanceMethod ⟨"CopyHeapModel", "put", "(III)V"⟩ : Cond) ∈ gT := List.mem_filter.mpr ⟨List.mem_append_right _ (List.mem_of_getElem? (i := 412) (by decide +kernel)), by decide +kernel⟩
theorem g_413 : (.selects "CopyHeapModel" ⟨"CopyHeapModel", "put", "(III)V"⟩ ⟨"CopyHeapModel", "put", "(III)V"⟩ : Cond) ∈ gT := List.mem_filter.mpr ⟨List.mem_append_right _ (List.mem_of_getElem? (i := 413) (by decide +kernel)), by decide +kernel⟩
theorem g_414 : (.code ⟨"CopyHeapModel", "put", "(III)V"⟩ prog_4_method_15_code 7 (none) : Cond) ∈ gT := List.mem_filter.mpr ⟨List.mem_append_right _ (List.mem_of_getElem? (i := 414) (by decide +kernel)), by decide +kernel⟩
theorem g_415 : (.methodLink "CopyHeapModel" 75 ⟨"CopyHeapModel", "isRaw", "(I)Z"⟩ : Cond) ∈ gT := List.mem_filter.mpr ⟨List.mem_append_right _ (List.mem_of_getElem? (i := 415) (by decide +kernel)), by decide +kernel⟩
theorem g_417 : (.instanceMethod ⟨"CopyHeapModel", "isRaw", "(I)Z"⟩ : Cond) ∈ gT := List.mem_filter.mpr ⟨List.mem_append_right _ (List.mem_of_getElem? (i := 417) (by decide +kernel)), by decide +kernel⟩
theorem g_418 : (.code ⟨"CopyHeapModel", "isRaw", "(I)Z"⟩ prog_4_method_13_code 2 (some .boolean) : Cond) ∈ gT := List.mem_filter.mpr ⟨List.mem_append_right _ (List.mem_of_getElem? (i := 418) (by decide +kernel)), by decide +kernel⟩
theorem g_419 : (.methodLink "CopyHeapModel" 78 ⟨"CopyHeapModel", "hasField", "(II)Z"⟩ : Cond) ∈ gT := List.mem_filter.mpr ⟨List.mem_append_right _ (List.mem_of_getElem? (i := 419) (by decide +kernel)), by decide +kernel⟩
theorem g_421 : (.instanceMethod ⟨"CopyHeapModel", "hasField", "(II)Z"⟩ : Cond) ∈ gT := List.mem_filter.mpr ⟨List.mem_append_right _ (List.mem_of_getElem? (i := 421) (by decide +kernel)), by decide +kernel⟩
theorem g_422 : (.code ⟨"CopyHeapModel", "hasField", "(II)Z"⟩ prog_4_method_14_code 3 (some .boolean) : Cond) ∈ gT := List.mem_filter.mpr ⟨List.mem_append_right _ (List.mem_of_getElem? (i := 422) (by decide +kernel)), by decide +kernel⟩
theorem g_423 : (.methodLink "CopyHeapLaw" 81 ⟨"CopyHeapModel", "raw", "(III)I"⟩ : Cond) ∈ gT := List.mem_filter.mpr ⟨List.mem_append_right _ (List.mem_of_getElem? (i := 423) (by decide +kernel)), by decide +kernel⟩
theorem g_424 : (.instanceMethod ⟨"CopyHeapModel", "raw", "(III)I"⟩ : Cond) ∈ gT := List.mem_filter.mpr ⟨List.mem_append_right _ (List.mem_of_getElem? (i := 424) (by decide +kernel)), by decide +kernel⟩
theorem g_425 : (.selects "CopyHeapModel" ⟨"CopyHeapModel", "raw", "(III)I"⟩ ⟨"CopyHeapModel", "raw", "(III)I"⟩ : Cond) ∈ gT := List.mem_filter.mpr ⟨List.mem_append_right _ (List.mem_of_getElem? (i := 425) (by decide +kernel)), by decide +kernel⟩
theorem g_426 : (.code ⟨"CopyHeapModel", "raw", "(III)I"⟩ prog_4_method_16_code 6 (some .int) : Cond) ∈ gT := List.mem_filter.mpr ⟨List.mem_append_right _ (List.mem_of_getElem? (i := 426) (by decide +kernel)), by decide +kernel⟩
theorem g_427 : (.methodLink "CopyHeapLaw" 84 ⟨"CopyHeapModel", "get", "(III)Z"⟩ : Cond) ∈ gT := List.mem_filter.mpr ⟨List.mem_append_right _ (List.mem_of_getElem? (i := 427) (by decide +kernel)), by decide +kernel⟩
theorem g_428 : (.instanceMethod ⟨"CopyHeapModel", "get", "(III)Z"⟩ : Cond) ∈ gT := List.mem_filter.mpr ⟨List.mem_append_right _ (List.mem_of_getElem? (i := 428) (by decide +kernel)), by decide +kernel⟩
theorem g_429 : (.selects "CopyHeapModel" ⟨"CopyHeapModel", "get", "(III)Z"⟩ ⟨"CopyHeapModel", "get", "(III)Z"⟩ : Cond) ∈ gT := List.mem_filter.mpr ⟨List.mem_append_right _ (List.mem_of_getElem? (i := 429) (by decide +kernel)), by decide +kernel⟩
theorem g_430 : (.code ⟨"CopyHeapModel", "get", "(III)Z"⟩ prog_4_method_17_code 7 (some .boolean) : Cond) ∈ gT := List.mem_filter.mpr ⟨List.mem_append_right _ (List.mem_of_getElem? (i := 430) (by decide +kernel)), by decide +kernel⟩
theorem g_431 : (.methodLink "CopyHeapLaw" 91 ⟨"CopyHeapModel", "about", "(II)I"⟩ : Cond) ∈ gT := List.mem_filter.mpr ⟨List.mem_append_right _ (List.mem_of_getElem? (i := 431) (by decide +kernel)), by decide +kernel⟩
theorem g_432 : (.instanceMethod ⟨"CopyHeapModel", "about", "(II)I"⟩ : Cond) ∈ gT := List.mem_filter.mpr ⟨List.mem_append_right _ (List.mem_of_getElem? (i := 432) (by decide +kernel)), by decide +kernel⟩
theorem g_433 : (.selects "CopyHeapModel" ⟨"CopyHeapModel", "about", "(II)I"⟩ ⟨"CopyHeapModel", "about", "(II)I"⟩ : Cond) ∈ gT := List.mem_filter.mpr ⟨List.mem_append_right _ (List.mem_of_getElem? (i := 433) (by decide +kernel)), by decide +kernel⟩
theorem g_434 : (.code ⟨"CopyHeapModel", "about", "(II)I"⟩ prog_4_method_18_code 5 (some .int) : Cond) ∈ gT := List.mem_filter.mpr ⟨List.mem_append_right _ (List.mem_of_getElem? (i := 434) (by decide +kernel)), by decide +kernel⟩
theorem g_435 : (.methodLink "CopyHeapLaw" 94 ⟨"CopyHeapModel", "look", "(II)I"⟩ : Cond) ∈ gT := List.mem_filter.mpr ⟨List.mem_append_right _ (List.mem_of_getElem? (i := 435) (by decide +kernel)), by decide +kernel⟩
theorem g_436 : (.instanceMethod ⟨"CopyHeapModel", "look", "(II)I"⟩ : Cond) ∈ gT := List.mem_filter.mpr ⟨List.mem_append_right _ (List.mem_of_getElem? (i := 436) (by decide +kernel)), by decide +kernel⟩
theorem g_437 : (.selects "CopyHeapModel" ⟨"CopyHeapModel", "look", "(II)I"⟩ ⟨"CopyHeapModel", "look", "(II)I"⟩ : Cond) ∈ gT := List.mem_filter.mpr ⟨List.mem_append_right _ (List.mem_of_getElem? (i := 437) (by decide +kernel)), by decide +kernel⟩
theorem g_438 : (.code ⟨"CopyHeapModel", "look", "(II)I"⟩ prog_4_method_19_code 3 (some .int) : Cond) ∈ gT := List.mem_filter.mpr ⟨List.mem_append_right _ (List.mem_of_getElem? (i := 438) (by decide +kernel)), by decide +kernel⟩
theorem g_439 : (.methodLink "CopyHeapLaw" 98 ⟨"CopyHeapModel", "count", "(I)I"⟩ : Cond) ∈ gT := List.mem_filter.mpr ⟨List.mem_append_right _ (List.mem_of_getElem? (i := 439) (by decide +kernel)), by decide +kernel⟩
theorem g_440 : (.instanceMethod ⟨"CopyHeapModel", "count", "(I)I"⟩ : Cond) ∈ gT := List.mem_filter.mpr ⟨List.mem_append_right _ (List.mem_of_getElem? (i := 440) (by decide +kernel)), by decide +kernel⟩
theorem g_441 : (.selects "CopyHeapModel" ⟨"CopyHeapModel", "count", "(I)I"⟩ ⟨"CopyHeapModel", "count", "(I)I"⟩ : Cond) ∈ gT := List.mem_filter.mpr ⟨List.mem_append_right _ (List.mem_of_getElem? (i := 441) (by decide +kernel)), by decide +kernel⟩
theorem g_442 : (.code ⟨"CopyHeapModel", "count", "(I)I"⟩ prog_4_method_21_code 2 (some .int) : Cond) ∈ gT := List.mem_filter.mpr ⟨List.mem_append_right _ (List.mem_of_getElem? (i := 442) (by decide +kernel)), by decide +kernel⟩
theorem g_443 : (.methodLink "CopyHeapModel" 82 ⟨"CopyHeapModel", "objects", "()I"⟩ : Cond) ∈ gT := List.mem_filter.mpr ⟨List.mem_append_right _ (List.mem_of_getElem? (i := 443) (by decide +kernel)), by decide +kernel⟩
theorem g_445 : (.instanceMethod ⟨"CopyHeapModel", "objects", "()I"⟩ : Cond) ∈ gT := List.mem_filter.mpr ⟨List.mem_append_right _ (List.mem_of_getElem? (i := 445) (by decide +kernel)), by decide +kernel⟩
theorem g_446 : (.code ⟨"CopyHeapModel", "objects", "()I"⟩ prog_4_method_20_code 3 (some .int) : Cond) ∈ gT := List.mem_filter.mpr ⟨List.mem_append_right _ (List.mem_of_getElem? (i := 446) (by decide +kernel)), by decide +kernel⟩
theorem g_447 : (.arrayClass .long : Cond) ∈ gT := List.mem_filter.mpr ⟨List.mem_append_right _ (List.mem_of_getElem? (i := 447) (by decide +kernel)), by decide +kernel⟩
theorem g_448 : (.sameMethod "java/lang/Throwable" "java/lang/Throwable" "fillInStackTrace" "(I)Ljava/lang/Throwable;" : Cond) ∈ gT := List.mem_filter.mpr ⟨List.mem_append_right _ (List.mem_of_getElem? (i := 448) (by decide +kernel)), by decide +kernel⟩
theorem gs_0 : (.selects "CopyHeap" ⟨"CopyHeap", "moveToSpare", "()V"⟩ ⟨"CopyHeap", "moveToSpare", "()V"⟩ : Cond) ∈ gT := List.mem_filter.mpr ⟨List.mem_append_left _ (List.mem_of_getElem? (i := 0) (by decide +kernel)), by decide +kernel⟩
theorem gs_1 : (.selects "CopyHeap$Half" ⟨"CopyHeap$Half", "moveObject", "(ILCopyHeap$Half;)I"⟩ ⟨"CopyHeap$Half", "moveObject", "(ILCopyHeap$Half;)I"⟩ : Cond) ∈ gT := List.mem_filter.mpr ⟨List.mem_append_left _ (List.mem_of_getElem? (i := 1) (by decide +kernel)), by decide +kernel⟩
theorem gs_2 : (.selects "CopyHeap$Half" ⟨"CopyHeap$Half", "addWord", "(I)V"⟩ ⟨"CopyHeap$Half", "addWord", "(I)V"⟩ : Cond) ∈ gT := List.mem_filter.mpr ⟨List.mem_append_left _ (List.mem_of_getElem? (i := 2) (by decide +kernel)), by decide +kernel⟩
theorem gs_3 : (.selects "java/lang/Throwable" ⟨"java/lang/Throwable", "fillInStackTrace", "(I)Ljava/lang/Throwable;"⟩ ⟨"java/lang/Throwable", "fillInStackTrace", "(I)Ljava/lang/Throwable;"⟩ : Cond) ∈ gT := List.mem_filter.mpr ⟨List.mem_append_left _ (List.mem_of_getElem? (i := 3) (by decide +kernel)), by decide +kernel⟩
theorem gs_4 : (.selects "CopyHeap" ⟨"CopyHeap", "objectOf", "(I)I"⟩ ⟨"CopyHeap", "objectOf", "(I)I"⟩ : Cond) ∈ gT := List.mem_filter.mpr ⟨List.mem_append_left _ (List.mem_of_getElem? (i := 4) (by decide +kernel)), by decide +kernel⟩
theorem gs_5 : (.selects "CopyHeap" ⟨"CopyHeap", "requireField", "(II)V"⟩ ⟨"CopyHeap", "requireField", "(II)V"⟩ : Cond) ∈ gT := List.mem_filter.mpr ⟨List.mem_append_left _ (List.mem_of_getElem? (i := 5) (by decide +kernel)), by decide +kernel⟩
theorem gs_6 : (.selects "CopyHeapModel" ⟨"CopyHeapModel", "gather", "()I"⟩ ⟨"CopyHeapModel", "gather", "()I"⟩ : Cond) ∈ gT := List.mem_filter.mpr ⟨List.mem_append_left _ (List.mem_of_getElem? (i := 6) (by decide +kernel)), by decide +kernel⟩
theorem gs_7 : (.selects "CopyHeapModel" ⟨"CopyHeapModel", "keep", "(I)V"⟩ ⟨"CopyHeapModel", "keep", "(I)V"⟩ : Cond) ∈ gT := List.mem_filter.mpr ⟨List.mem_append_left _ (List.mem_of_getElem? (i := 7) (by decide +kernel)), by decide +kernel⟩
theorem gs_8 : (.selects "CopyHeapModel" ⟨"CopyHeapModel", "fieldsAt", "(I)I"⟩ ⟨"CopyHeapModel", "fieldsAt", "(I)I"⟩ : Cond) ∈ gT := List.mem_filter.mpr ⟨List.mem_append_left _ (List.mem_of_getElem? (i := 8) (by decide +kernel)), by decide +kernel⟩
theorem gs_9 : (.selects "CopyHeapModel" ⟨"CopyHeapModel", "fail", "(I)I"⟩ ⟨"CopyHeapModel", "fail", "(I)I"⟩ : Cond) ∈ gT := List.mem_filter.mpr ⟨List.mem_append_left _ (List.mem_of_getElem? (i := 9) (by decide +kernel)), by decide +kernel⟩
theorem gs_10 : (.selects "CopyHeapModel" ⟨"CopyHeapModel", "isRaw", "(I)Z"⟩ ⟨"CopyHeapModel", "isRaw", "(I)Z"⟩ : Cond) ∈ gT := List.mem_filter.mpr ⟨List.mem_append_left _ (List.mem_of_getElem? (i := 10) (by decide +kernel)), by decide +kernel⟩
theorem gs_11 : (.selects "CopyHeapModel" ⟨"CopyHeapModel", "hasField", "(II)Z"⟩ ⟨"CopyHeapModel", "hasField", "(II)Z"⟩ : Cond) ∈ gT := List.mem_filter.mpr ⟨List.mem_append_left _ (List.mem_of_getElem? (i := 11) (by decide +kernel)), by decide +kernel⟩
theorem gs_12 : (.selects "CopyHeapModel" ⟨"CopyHeapModel", "objects", "()I"⟩ ⟨"CopyHeapModel", "objects", "()I"⟩ : Cond) ∈ gT := List.mem_filter.mpr ⟨List.mem_append_left _ (List.mem_of_getElem? (i := 12) (by decide +kernel)), by decide +kernel⟩
abbrev cX1_init : ByteArray := prog_1_method_1_code
abbrev yX1_init : MethodName := ⟨"CopyHeap", "<init>", "(I)V"⟩
abbrev kX1_init : Cond := .code yX1_init cX1_init 2 none
theorem kinX1_init : kX1_init ∈ gT := g_14
theorem kTX1_init : ∀ w ∈ kX1_init :: gT, w ∈ gT := fun w h => (List.mem_cons.mp h).elim (fun e => by rw [e]; exact kinX1_init) id
abbrev cX0_init : ByteArray := prog_2_method_1_code
abbrev yX0_init : MethodName := ⟨"CopyHeap$Half", "<init>", "(I)V"⟩
abbrev kX0_init : Cond := .code yX0_init cX0_init 2 none
theorem kinX0_init : kX0_init ∈ gT := g_22
theorem kTX0_init : ∀ w ∈ kX0_init :: gT, w ∈ gT := fun w h => (List.mem_cons.mp h).elim (fun e => by rw [e]; exact kinX0_init) id
abbrev cX1_collect : ByteArray := prog_1_method_8_code
abbrev yX1_collect : MethodName := ⟨"CopyHeap", "collect", "()I"⟩
abbrev kX1_collect : Cond := .code yX1_collect cX1_collect 1 (some .int)
theorem kinX1_collect : kX1_collect ∈ gT := g_57
theorem kTX1_collect : ∀ w ∈ kX1_collect :: gT, w ∈ gT := fun w h => (List.mem_cons.mp h).elim (fun e => by rw [e]; exact kinX1_collect) id
abbrev cX1_moveToSpare : ByteArray := prog_1_method_19_code
abbrev yX1_moveToSpare : MethodName := ⟨"CopyHeap", "moveToSpare", "()V"⟩
abbrev kX1_moveToSpare : Cond := .code yX1_moveToSpare cX1_moveToSpare 4 none
theorem kinX1_moveToSpare : kX1_moveToSpare ∈ gT := g_61
theorem kTX1_moveToSpare : ∀ w ∈ kX1_moveToSpare :: gT, w ∈ gT := fun w h => (List.mem_cons.mp h).elim (fun e => by rw [e]; exact kinX1_moveToSpare) id
abbrev cX0_empty : ByteArray := prog_2_method_2_code
abbrev yX0_empty : MethodName := ⟨"CopyHeap$Half", "empty", "()V"⟩
abbrev kX0_empty : Cond := .code yX0_empty cX0_empty 1 none
theorem kinX0_empty : kX0_empty ∈ gT := g_65
theorem kTX0_empty : ∀ w ∈ kX0_empty :: gT, w ∈ gT := fun w h => (List.mem_cons.mp h).elim (fun e => by rw [e]; exact kinX0_empty) id
abbrev cX0_movedValue : ByteArray := prog_2_method_12_code
abbrev yX0_movedValue : MethodName := ⟨"CopyHeap$Half", "movedValue", "(ILCopyHeap$Half;)I"⟩
abbrev kX0_movedValue : Cond := .code yX0_movedValue cX0_movedValue 4 (some .int)
theorem kinX0_movedValue : kX0_movedValue ∈ gT := g_69
theorem kTX0_movedValue : ∀ w ∈ kX0_movedValue :: gT, w ∈ gT := fun w h => (List.mem_cons.mp h).elim (fun e => by rw [e]; exact kinX0_movedValue) id
abbrev cX1_isReference : ByteArray := prog_1_method_14_code
abbrev yX1_isReference : MethodName := ⟨"CopyHeap", "isReference", "(I)Z"⟩
abbrev kX1_isReference : Cond := .code yX1_isReference cX1_isReference 1 (some .boolean)
theorem kinX1_isReference : kX1_isReference ∈ gT := g_72
theorem kTX1_isReference : ∀ w ∈ kX1_isReference :: gT, w ∈ gT := fun w h => (List.mem_cons.mp h).elim (fun e => by rw [e]; exact kinX1_isReference) id
abbrev cX1_content : ByteArray := prog_1_method_15_code
abbrev yX1_content : MethodName := ⟨"CopyHeap", "content", "(I)I"⟩
abbrev kX1_content : Cond := .code yX1_content cX1_content 1 (some .int)
theorem kinX1_content : kX1_content ∈ gT := g_75
theorem kTX1_content : ∀ w ∈ kX1_content :: gT, w ∈ gT := fun w h => (List.mem_cons.mp h).elim (fun e => by rw [e]; exact kinX1_content) id
abbrev cX0_wordAt : ByteArray := prog_2_method_5_code
abbrev yX0_wordAt : MethodName := ⟨"CopyHeap$Half", "wordAt", "(I)I"⟩
abbrev kX0_wordAt : Cond := .code yX0_wordAt cX0_wordAt 2 (some .int)
theorem kinX0_wordAt : kX0_wordAt ∈ gT := g_79
theorem kTX0_wordAt : ∀ w ∈ kX0_wordAt :: gT, w ∈ gT := fun w h => (List.mem_cons.mp h).elim (fun e => by rw [e]; exact kinX0_wordAt) id
abbrev cX0_moveObject : ByteArray := prog_2_method_13_code
abbrev yX0_moveObject : MethodName := ⟨"CopyHeap$Half", "moveObject", "(ILCopyHeap$Half;)I"⟩
abbrev kX0_moveObject : Cond := .code yX0_moveObject cX0_moveObject 6 (some .int)
theorem kinX0_moveObject : kX0_moveObject ∈ gT := g_83
theorem kTX0_moveObject : ∀ w ∈ kX0_moveObject :: gT, w ∈ gT := fun w h => (List.mem_cons.mp h).elim (fun e => by rw [e]; exact kinX0_moveObject) id
abbrev cX0_fieldsAt : ByteArray := prog_2_method_8_code
abbrev yX0_fieldsAt : MethodName := ⟨"CopyHeap$Half", "fieldsAt", "(I)I"⟩
abbrev kX0_fieldsAt : Cond := .code yX0_fieldsAt cX0_fieldsAt 2 (some .int)
theorem kinX0_fieldsAt : kX0_fieldsAt ∈ gT := g_87
theorem kTX0_fieldsAt : ∀ w ∈ kX0_fieldsAt :: gT, w ∈ gT := fun w h => (List.mem_cons.mp h).elim (fun e => by rw [e]; exact kinX0_fieldsAt) id
abbrev cX0_addWord : ByteArray := prog_2_method_11_code
abbrev yX0_addWord : MethodName := ⟨"CopyHeap$Half", "addWord", "(I)V"⟩
abbrev kX0_addWord : Cond := .code yX0_addWord cX0_addWord 2 none
theorem kinX0_addWord : kX0_addWord ∈ gT := g_91
theorem kTX0_addWord : ∀ w ∈ kX0_addWord :: gT, w ∈ gT := fun w h => (List.mem_cons.mp h).elim (fun e => by rw [e]; exact kinX0_addWord) id
abbrev cX0_setWord : ByteArray := prog_2_method_6_code
abbrev yX0_setWord : MethodName := ⟨"CopyHeap$Half", "setWord", "(II)V"⟩
abbrev kX0_setWord : Cond := .code yX0_setWord cX0_setWord 3 none
theorem kinX0_setWord : kX0_setWord ∈ gT := g_95
theorem kTX0_setWord : ∀ w ∈ kX0_setWord :: gT, w ∈ gT := fun w h => (List.mem_cons.mp h).elim (fun e => by rw [e]; exact kinX0_setWord) id
abbrev cX1_asReference : ByteArray := prog_1_method_13_code
abbrev yX1_asReference : MethodName := ⟨"CopyHeap", "asReference", "(I)I"⟩
abbrev kX1_asReference : Cond := .code yX1_asReference cX1_asReference 1 (some .int)
theorem kinX1_asReference : kX1_asReference ∈ gT := g_98
theorem kTX1_asReference : ∀ w ∈ kX1_asReference :: gT, w ∈ gT := fun w h => (List.mem_cons.mp h).elim (fun e => by rw [e]; exact kinX1_asReference) id
abbrev cX1_moveWhatFieldsReferTo : ByteArray := prog_1_method_20_code
abbrev yX1_moveWhatFieldsReferTo : MethodName := ⟨"CopyHeap", "moveWhatFieldsReferTo", "(LCopyHeap$Half;LCopyHeap$Half;)V"⟩
abbrev kX1_moveWhatFieldsReferTo : Cond := .code yX1_moveWhatFieldsReferTo cX1_moveWhatFieldsReferTo 5 none
theorem kinX1_moveWhatFieldsReferTo : kX1_moveWhatFieldsReferTo ∈ gT := g_101
theorem kTX1_moveWhatFieldsReferTo : ∀ w ∈ kX1_moveWhatFieldsReferTo :: gT, w ∈ gT := fun w h => (List.mem_cons.mp h).elim (fun e => by rw [e]; exact kinX1_moveWhatFieldsReferTo) id
abbrev cX0_kindAt : ByteArray := prog_2_method_7_code
abbrev yX0_kindAt : MethodName := ⟨"CopyHeap$Half", "kindAt", "(I)I"⟩
abbrev kX0_kindAt : Cond := .code yX0_kindAt cX0_kindAt 2 (some .int)
theorem kinX0_kindAt : kX0_kindAt ∈ gT := g_105
theorem kTX0_kindAt : ∀ w ∈ kX0_kindAt :: gT, w ∈ gT := fun w h => (List.mem_cons.mp h).elim (fun e => by rw [e]; exact kinX0_kindAt) id
abbrev cL_cell : ByteArray := method_2_code
abbrev yL_cell : MethodName := ⟨"CopyHeapLaw", "cell", "([II)I"⟩
abbrev kL_cell : Cond := .code yL_cell cL_cell 2 (some .int)
theorem kinL_cell : kL_cell ∈ gT := g_111
theorem kTL_cell : ∀ w ∈ kL_cell :: gT, w ∈ gT := fun w h => (List.mem_cons.mp h).elim (fun e => by rw [e]; exact kinL_cell) id
abbrev cL_make : ByteArray := method_3_code
abbrev yL_make : MethodName := ⟨"CopyHeapLaw", "make", "(LCopyHeap;III[J)I"⟩
abbrev kL_make : Cond := .codeWith yL_make cL_make 6 (some .int) [(0, 12, 15, 13), (0, 12, 19, 15)]
theorem kinL_make : kL_make ∈ gT := g_114
theorem kTL_make : ∀ w ∈ kL_make :: gT, w ∈ gT := fun w h => (List.mem_cons.mp h).elim (fun e => by rw [e]; exact kinL_make) id
abbrev cX1_make : ByteArray := prog_1_method_2_code
abbrev yX1_make : MethodName := ⟨"CopyHeap", "make", "(III)I"⟩
abbrev kX1_make : Cond := .code yX1_make cX1_make 5 (some .int)
theorem kinX1_make : kX1_make ∈ gT := g_120
theorem kTX1_make : ∀ w ∈ kX1_make :: gT, w ∈ gT := fun w h => (List.mem_cons.mp h).elim (fun e => by rw [e]; exact kinX1_make) id
abbrev cX1_requireRegister : ByteArray := prog_1_method_16_code
abbrev yX1_requireRegister : MethodName := ⟨"CopyHeap", "requireRegister", "(I)V"⟩
abbrev kX1_requireRegister : Cond := .code yX1_requireRegister cX1_requireRegister 1 none
theorem kinX1_requireRegister : kX1_requireRegister ∈ gT := g_123
theorem kTX1_requireRegister : ∀ w ∈ kX1_requireRegister :: gT, w ∈ gT := fun w h => (List.mem_cons.mp h).elim (fun e => by rw [e]; exact kinX1_requireRegister) id
abbrev cX0_hasRoomFor : ByteArray := prog_2_method_3_code
abbrev yX0_hasRoomFor : MethodName := ⟨"CopyHeap$Half", "hasRoomFor", "(I)Z"⟩
abbrev kX0_hasRoomFor : Cond := .code yX0_hasRoomFor cX0_hasRoomFor 2 (some .boolean)
theorem kinX0_hasRoomFor : kX0_hasRoomFor ∈ gT := g_196
theorem kTX0_hasRoomFor : ∀ w ∈ kX0_hasRoomFor :: gT, w ∈ gT := fun w h => (List.mem_cons.mp h).elim (fun e => by rw [e]; exact kinX0_hasRoomFor) id
abbrev cX0_addObject : ByteArray := prog_2_method_10_code
abbrev yX0_addObject : MethodName := ⟨"CopyHeap$Half", "addObject", "(II)I"⟩
abbrev kX0_addObject : Cond := .code yX0_addObject cX0_addObject 5 (some .int)
theorem kinX0_addObject : kX0_addObject ∈ gT := g_216
theorem kTX0_addObject : ∀ w ∈ kX0_addObject :: gT, w ∈ gT := fun w h => (List.mem_cons.mp h).elim (fun e => by rw [e]; exact kinX0_addObject) id
abbrev cL_number : ByteArray := method_4_code
abbrev yL_number : MethodName := ⟨"CopyHeapLaw", "number", "(LCopyHeap;II[J)I"⟩
abbrev kL_number : Cond := .codeWith yL_number cL_number 5 (some .int) [(0, 10, 13, 13)]
theorem kinL_number : kL_number ∈ gT := g_220
theorem kTL_number : ∀ w ∈ kL_number :: gT, w ∈ gT := fun w h => (List.mem_cons.mp h).elim (fun e => by rw [e]; exact kinL_number) id
abbrev cX1_number : ByteArray := prog_1_method_3_code
abbrev yX1_number : MethodName := ⟨"CopyHeap", "number", "(II)I"⟩
abbrev kX1_number : Cond := .code yX1_number cX1_number 3 (some .int)
theorem kinX1_number : kX1_number ∈ gT := g_224
theorem kTX1_number : ∀ w ∈ kX1_number :: gT, w ∈ gT := fun w h => (List.mem_cons.mp h).elim (fun e => by rw [e]; exact kinX1_number) id
abbrev cX1_asNumber : ByteArray := prog_1_method_12_code
abbrev yX1_asNumber : MethodName := ⟨"CopyHeap", "asNumber", "(I)I"⟩
abbrev kX1_asNumber : Cond := .code yX1_asNumber cX1_asNumber 1 (some .int)
theorem kinX1_asNumber : kX1_asNumber ∈ gT := g_227
theorem kTX1_asNumber : ∀ w ∈ kX1_asNumber :: gT, w ∈ gT := fun w h => (List.mem_cons.mp h).elim (fun e => by rw [e]; exact kinX1_asNumber) id
abbrev cL_copy : ByteArray := method_5_code
abbrev yL_copy : MethodName := ⟨"CopyHeapLaw", "copy", "(LCopyHeap;II[J)I"⟩
abbrev kL_copy : Cond := .codeWith yL_copy cL_copy 5 (some .int) [(0, 17, 20, 13)]
theorem kinL_copy : kL_copy ∈ gT := g_231
theorem kTL_copy : ∀ w ∈ kL_copy :: gT, w ∈ gT := fun w h => (List.mem_cons.mp h).elim (fun e => by rw [e]; exact kinL_copy) id
abbrev cX1_copy : ByteArray := prog_1_method_4_code
abbrev yX1_copy : MethodName := ⟨"CopyHeap", "copy", "(II)Z"⟩
abbrev kX1_copy : Cond := .code yX1_copy cX1_copy 3 (some .boolean)
theorem kinX1_copy : kX1_copy ∈ gT := g_235
theorem kTX1_copy : ∀ w ∈ kX1_copy :: gT, w ∈ gT := fun w h => (List.mem_cons.mp h).elim (fun e => by rw [e]; exact kinX1_copy) id
abbrev cL_put : ByteArray := method_6_code
abbrev yL_put : MethodName := ⟨"CopyHeapLaw", "put", "(LCopyHeap;III)I"⟩
abbrev kL_put : Cond := .codeWith yL_put cL_put 5 (some .int) [(0, 7, 10, 13), (0, 7, 14, 15), (0, 7, 18, 29)]
theorem kinL_put : kL_put ∈ gT := g_239
theorem kTL_put : ∀ w ∈ kL_put :: gT, w ∈ gT := fun w h => (List.mem_cons.mp h).elim (fun e => by rw [e]; exact kinL_put) id
abbrev cX1_put : ByteArray := prog_1_method_5_code
abbrev yX1_put : MethodName := ⟨"CopyHeap", "put", "(III)V"⟩
abbrev kX1_put : Cond := .code yX1_put cX1_put 7 none
theorem kinX1_put : kX1_put ∈ gT := g_244
theorem kTX1_put : ∀ w ∈ kX1_put :: gT, w ∈ gT := fun w h => (List.mem_cons.mp h).elim (fun e => by rw [e]; exact kinX1_put) id
abbrev cX1_objectOf : ByteArray := prog_1_method_18_code
abbrev yX1_objectOf : MethodName := ⟨"CopyHeap", "objectOf", "(I)I"⟩
abbrev kX1_objectOf : Cond := .code yX1_objectOf cX1_objectOf 3 (some .int)
theorem kinX1_objectOf : kX1_objectOf ∈ gT := g_248
theorem kTX1_objectOf : ∀ w ∈ kX1_objectOf :: gT, w ∈ gT := fun w h => (List.mem_cons.mp h).elim (fun e => by rw [e]; exact kinX1_objectOf) id
abbrev cX1_requireField : ByteArray := prog_1_method_17_code
abbrev yX1_requireField : MethodName := ⟨"CopyHeap", "requireField", "(II)V"⟩
abbrev kX1_requireField : Cond := .code yX1_requireField cX1_requireField 3 none
theorem kinX1_requireField : kX1_requireField ∈ gT := g_254
theorem kTX1_requireField : ∀ w ∈ kX1_requireField :: gT, w ∈ gT := fun w h => (List.mem_cons.mp h).elim (fun e => by rw [e]; exact kinX1_requireField) id
abbrev cL_raw : ByteArray := method_7_code
abbrev yL_raw : MethodName := ⟨"CopyHeapLaw", "raw", "(LCopyHeap;III[J)I"⟩
abbrev kL_raw : Cond := .codeWith yL_raw cL_raw 6 (some .int) [(0, 12, 15, 13), (0, 12, 19, 15), (0, 12, 23, 29)]
theorem kinL_raw : kL_raw ∈ gT := g_273
theorem kTL_raw : ∀ w ∈ kL_raw :: gT, w ∈ gT := fun w h => (List.mem_cons.mp h).elim (fun e => by rw [e]; exact kinL_raw) id
abbrev cX1_raw : ByteArray := prog_1_method_6_code
abbrev yX1_raw : MethodName := ⟨"CopyHeap", "raw", "(III)I"⟩
abbrev kX1_raw : Cond := .code yX1_raw cX1_raw 6 (some .int)
theorem kinX1_raw : kX1_raw ∈ gT := g_277
theorem kTX1_raw : ∀ w ∈ kX1_raw :: gT, w ∈ gT := fun w h => (List.mem_cons.mp h).elim (fun e => by rw [e]; exact kinX1_raw) id
abbrev cL_get : ByteArray := method_8_code
abbrev yL_get : MethodName := ⟨"CopyHeapLaw", "get", "(LCopyHeap;III[J)I"⟩
abbrev kL_get : Cond := .codeWith yL_get cL_get 6 (some .int) [(0, 19, 22, 13), (0, 19, 26, 15), (0, 19, 30, 29)]
theorem kinL_get : kL_get ∈ gT := g_281
theorem kTL_get : ∀ w ∈ kL_get :: gT, w ∈ gT := fun w h => (List.mem_cons.mp h).elim (fun e => by rw [e]; exact kinL_get) id
abbrev cX1_get : ByteArray := prog_1_method_7_code
abbrev yX1_get : MethodName := ⟨"CopyHeap", "get", "(III)Z"⟩
abbrev kX1_get : Cond := .code yX1_get cX1_get 6 (some .boolean)
theorem kinX1_get : kX1_get ∈ gT := g_285
theorem kTX1_get : ∀ w ∈ kX1_get :: gT, w ∈ gT := fun w h => (List.mem_cons.mp h).elim (fun e => by rw [e]; exact kinX1_get) id
abbrev cL_about : ByteArray := method_9_code
abbrev yL_about : MethodName := ⟨"CopyHeapLaw", "about", "(LCopyHeap;II[J)I"⟩
abbrev kL_about : Cond := .codeWith yL_about cL_about 5 (some .int) [(0, 10, 13, 13), (0, 10, 17, 29)]
theorem kinL_about : kL_about ∈ gT := g_288
theorem kTL_about : ∀ w ∈ kL_about :: gT, w ∈ gT := fun w h => (List.mem_cons.mp h).elim (fun e => by rw [e]; exact kinL_about) id
abbrev cX1_about : ByteArray := prog_1_method_9_code
abbrev yX1_about : MethodName := ⟨"CopyHeap", "about", "(II)I"⟩
abbrev kX1_about : Cond := .code yX1_about cX1_about 6 (some .int)
theorem kinX1_about : kX1_about ∈ gT := g_292
theorem kTX1_about : ∀ w ∈ kX1_about :: gT, w ∈ gT := fun w h => (List.mem_cons.mp h).elim (fun e => by rw [e]; exact kinX1_about) id
abbrev cL_look : ByteArray := method_10_code
abbrev yL_look : MethodName := ⟨"CopyHeapLaw", "look", "(LCopyHeap;II[J)I"⟩
abbrev kL_look : Cond := .codeWith yL_look cL_look 5 (some .int) [(0, 10, 13, 29)]
theorem kinL_look : kL_look ∈ gT := g_296
theorem kTL_look : ∀ w ∈ kL_look :: gT, w ∈ gT := fun w h => (List.mem_cons.mp h).elim (fun e => by rw [e]; exact kinL_look) id
abbrev cX1_look : ByteArray := prog_1_method_10_code
abbrev yX1_look : MethodName := ⟨"CopyHeap", "look", "(II)I"⟩
abbrev kX1_look : Cond := .code yX1_look cX1_look 5 (some .int)
theorem kinX1_look : kX1_look ∈ gT := g_300
theorem kTX1_look : ∀ w ∈ kX1_look :: gT, w ∈ gT := fun w h => (List.mem_cons.mp h).elim (fun e => by rw [e]; exact kinX1_look) id
abbrev cX0_holds : ByteArray := prog_2_method_4_code
abbrev yX0_holds : MethodName := ⟨"CopyHeap$Half", "holds", "(I)Z"⟩
abbrev kX0_holds : Cond := .code yX0_holds cX0_holds 2 (some .boolean)
theorem kinX0_holds : kX0_holds ∈ gT := g_304
theorem kTX0_holds : ∀ w ∈ kX0_holds :: gT, w ∈ gT := fun w h => (List.mem_cons.mp h).elim (fun e => by rw [e]; exact kinX0_holds) id
abbrev cX0_sortAt : ByteArray := prog_2_method_9_code
abbrev yX0_sortAt : MethodName := ⟨"CopyHeap$Half", "sortAt", "(I)I"⟩
abbrev kX0_sortAt : Cond := .code yX0_sortAt cX0_sortAt 5 (some .int)
theorem kinX0_sortAt : kX0_sortAt ∈ gT := g_309
theorem kTX0_sortAt : ∀ w ∈ kX0_sortAt :: gT, w ∈ gT := fun w h => (List.mem_cons.mp h).elim (fun e => by rw [e]; exact kinX0_sortAt) id
abbrev cL_count : ByteArray := method_11_code
abbrev yL_count : MethodName := ⟨"CopyHeapLaw", "count", "(LCopyHeap;I[J)I"⟩
abbrev kL_count : Cond := .codeWith yL_count cL_count 4 (some .int) [(0, 9, 12, 29)]
theorem kinL_count : kL_count ∈ gT := g_314
theorem kTL_count : ∀ w ∈ kL_count :: gT, w ∈ gT := fun w h => (List.mem_cons.mp h).elim (fun e => by rw [e]; exact kinL_count) id
abbrev cX1_count : ByteArray := prog_1_method_11_code
abbrev yX1_count : MethodName := ⟨"CopyHeap", "count", "(I)I"⟩
abbrev kX1_count : Cond := .code yX1_count cX1_count 2 (some .int)
theorem kinX1_count : kX1_count ∈ gT := g_318
theorem kTX1_count : ∀ w ∈ kX1_count :: gT, w ∈ gT := fun w h => (List.mem_cons.mp h).elim (fun e => by rw [e]; exact kinX1_count) id
abbrev cX2_init : ByteArray := prog_4_method_1_code
abbrev yX2_init : MethodName := ⟨"CopyHeapModel", "<init>", "(I)V"⟩
abbrev kX2_init : Cond := .code yX2_init cX2_init 3 none
theorem kinX2_init : kX2_init ∈ gT := g_324
theorem kTX2_init : ∀ w ∈ kX2_init :: gT, w ∈ gT := fun w h => (List.mem_cons.mp h).elim (fun e => by rw [e]; exact kinX2_init) id
abbrev cX2_thrown : ByteArray := prog_4_method_2_code
abbrev yX2_thrown : MethodName := ⟨"CopyHeapModel", "thrown", "()I"⟩
abbrev kX2_thrown : Cond := .code yX2_thrown cX2_thrown 1 (some .int)
theorem kinX2_thrown : kX2_thrown ∈ gT := g_372
theorem kTX2_thrown : ∀ w ∈ kX2_thrown :: gT, w ∈ gT := fun w h => (List.mem_cons.mp h).elim (fun e => by rw [e]; exact kinX2_thrown) id
abbrev cX2_collect : ByteArray := prog_4_method_9_code
abbrev yX2_collect : MethodName := ⟨"CopyHeapModel", "collect", "()I"⟩
abbrev kX2_collect : Cond := .code yX2_collect cX2_collect 1 (some .int)
theorem kinX2_collect : kX2_collect ∈ gT := g_376
theorem kTX2_collect : ∀ w ∈ kX2_collect :: gT, w ∈ gT := fun w h => (List.mem_cons.mp h).elim (fun e => by rw [e]; exact kinX2_collect) id
abbrev cX2_gather : ByteArray := prog_4_method_8_code
abbrev yX2_gather : MethodName := ⟨"CopyHeapModel", "gather", "()I"⟩
abbrev kX2_gather : Cond := .code yX2_gather cX2_gather 6 (some .int)
theorem kinX2_gather : kX2_gather ∈ gT := g_380
theorem kTX2_gather : ∀ w ∈ kX2_gather :: gT, w ∈ gT := fun w h => (List.mem_cons.mp h).elim (fun e => by rw [e]; exact kinX2_gather) id
abbrev cX2_keep : ByteArray := prog_4_method_7_code
abbrev yX2_keep : MethodName := ⟨"CopyHeapModel", "keep", "(I)V"⟩
abbrev kX2_keep : Cond := .code yX2_keep cX2_keep 3 none
theorem kinX2_keep : kX2_keep ∈ gT := g_384
theorem kTX2_keep : ∀ w ∈ kX2_keep :: gT, w ∈ gT := fun w h => (List.mem_cons.mp h).elim (fun e => by rw [e]; exact kinX2_keep) id
abbrev cX2_fieldsAt : ByteArray := prog_4_method_6_code
abbrev yX2_fieldsAt : MethodName := ⟨"CopyHeapModel", "fieldsAt", "(I)I"⟩
abbrev kX2_fieldsAt : Cond := .code yX2_fieldsAt cX2_fieldsAt 2 (some .int)
theorem kinX2_fieldsAt : kX2_fieldsAt ∈ gT := g_388
theorem kTX2_fieldsAt : ∀ w ∈ kX2_fieldsAt :: gT, w ∈ gT := fun w h => (List.mem_cons.mp h).elim (fun e => by rw [e]; exact kinX2_fieldsAt) id
abbrev cX2_make : ByteArray := prog_4_method_10_code
abbrev yX2_make : MethodName := ⟨"CopyHeapModel", "make", "(III)I"⟩
abbrev kX2_make : Cond := .code yX2_make cX2_make 6 (some .int)
theorem kinX2_make : kX2_make ∈ gT := g_392
theorem kTX2_make : ∀ w ∈ kX2_make :: gT, w ∈ gT := fun w h => (List.mem_cons.mp h).elim (fun e => by rw [e]; exact kinX2_make) id
abbrev cX2_isRegister : ByteArray := prog_4_method_4_code
abbrev yX2_isRegister : MethodName := ⟨"CopyHeapModel", "isRegister", "(I)Z"⟩
abbrev kX2_isRegister : Cond := .code yX2_isRegister cX2_isRegister 1 (some .boolean)
theorem kinX2_isRegister : kX2_isRegister ∈ gT := g_395
theorem kTX2_isRegister : ∀ w ∈ kX2_isRegister :: gT, w ∈ gT := fun w h => (List.mem_cons.mp h).elim (fun e => by rw [e]; exact kinX2_isRegister) id
abbrev cX2_fail : ByteArray := prog_4_method_3_code
abbrev yX2_fail : MethodName := ⟨"CopyHeapModel", "fail", "(I)I"⟩
abbrev kX2_fail : Cond := .code yX2_fail cX2_fail 2 (some .int)
theorem kinX2_fail : kX2_fail ∈ gT := g_399
theorem kTX2_fail : ∀ w ∈ kX2_fail :: gT, w ∈ gT := fun w h => (List.mem_cons.mp h).elim (fun e => by rw [e]; exact kinX2_fail) id
abbrev cX2_number : ByteArray := prog_4_method_11_code
abbrev yX2_number : MethodName := ⟨"CopyHeapModel", "number", "(II)I"⟩
abbrev kX2_number : Cond := .code yX2_number cX2_number 3 (some .int)
theorem kinX2_number : kX2_number ∈ gT := g_403
theorem kTX2_number : ∀ w ∈ kX2_number :: gT, w ∈ gT := fun w h => (List.mem_cons.mp h).elim (fun e => by rw [e]; exact kinX2_number) id
abbrev cX2_kept : ByteArray := prog_4_method_5_code
abbrev yX2_kept : MethodName := ⟨"CopyHeapModel", "kept", "(I)I"⟩
abbrev kX2_kept : Cond := .code yX2_kept cX2_kept 1 (some .int)
theorem kinX2_kept : kX2_kept ∈ gT := g_406
theorem kTX2_kept : ∀ w ∈ kX2_kept :: gT, w ∈ gT := fun w h => (List.mem_cons.mp h).elim (fun e => by rw [e]; exact kinX2_kept) id
abbrev cX2_copy : ByteArray := prog_4_method_12_code
abbrev yX2_copy : MethodName := ⟨"CopyHeapModel", "copy", "(II)Z"⟩
abbrev kX2_copy : Cond := .code yX2_copy cX2_copy 3 (some .boolean)
theorem kinX2_copy : kX2_copy ∈ gT := g_410
theorem kTX2_copy : ∀ w ∈ kX2_copy :: gT, w ∈ gT := fun w h => (List.mem_cons.mp h).elim (fun e => by rw [e]; exact kinX2_copy) id
abbrev cX2_put : ByteArray := prog_4_method_15_code
abbrev yX2_put : MethodName := ⟨"CopyHeapModel", "put", "(III)V"⟩
abbrev kX2_put : Cond := .code yX2_put cX2_put 7 none
theorem kinX2_put : kX2_put ∈ gT := g_414
theorem kTX2_put : ∀ w ∈ kX2_put :: gT, w ∈ gT := fun w h => (List.mem_cons.mp h).elim (fun e => by rw [e]; exact kinX2_put) id
abbrev cX2_isRaw : ByteArray := prog_4_method_13_code
abbrev yX2_isRaw : MethodName := ⟨"CopyHeapModel", "isRaw", "(I)Z"⟩
abbrev kX2_isRaw : Cond := .code yX2_isRaw cX2_isRaw 2 (some .boolean)
theorem kinX2_isRaw : kX2_isRaw ∈ gT := g_418
theorem kTX2_isRaw : ∀ w ∈ kX2_isRaw :: gT, w ∈ gT := fun w h => (List.mem_cons.mp h).elim (fun e => by rw [e]; exact kinX2_isRaw) id
abbrev cX2_hasField : ByteArray := prog_4_method_14_code
abbrev yX2_hasField : MethodName := ⟨"CopyHeapModel", "hasField", "(II)Z"⟩
abbrev kX2_hasField : Cond := .code yX2_hasField cX2_hasField 3 (some .boolean)
theorem kinX2_hasField : kX2_hasField ∈ gT := g_422
theorem kTX2_hasField : ∀ w ∈ kX2_hasField :: gT, w ∈ gT := fun w h => (List.mem_cons.mp h).elim (fun e => by rw [e]; exact kinX2_hasField) id
abbrev cX2_raw : ByteArray := prog_4_method_16_code
abbrev yX2_raw : MethodName := ⟨"CopyHeapModel", "raw", "(III)I"⟩
abbrev kX2_raw : Cond := .code yX2_raw cX2_raw 6 (some .int)
theorem kinX2_raw : kX2_raw ∈ gT := g_426
theorem kTX2_raw : ∀ w ∈ kX2_raw :: gT, w ∈ gT := fun w h => (List.mem_cons.mp h).elim (fun e => by rw [e]; exact kinX2_raw) id
abbrev cX2_get : ByteArray := prog_4_method_17_code
abbrev yX2_get : MethodName := ⟨"CopyHeapModel", "get", "(III)Z"⟩
abbrev kX2_get : Cond := .code yX2_get cX2_get 7 (some .boolean)
theorem kinX2_get : kX2_get ∈ gT := g_430
theorem kTX2_get : ∀ w ∈ kX2_get :: gT, w ∈ gT := fun w h => (List.mem_cons.mp h).elim (fun e => by rw [e]; exact kinX2_get) id
abbrev cX2_about : ByteArray := prog_4_method_18_code
abbrev yX2_about : MethodName := ⟨"CopyHeapModel", "about", "(II)I"⟩
abbrev kX2_about : Cond := .code yX2_about cX2_about 5 (some .int)
theorem kinX2_about : kX2_about ∈ gT := g_434
theorem kTX2_about : ∀ w ∈ kX2_about :: gT, w ∈ gT := fun w h => (List.mem_cons.mp h).elim (fun e => by rw [e]; exact kinX2_about) id
abbrev cX2_look : ByteArray := prog_4_method_19_code
abbrev yX2_look : MethodName := ⟨"CopyHeapModel", "look", "(II)I"⟩
abbrev kX2_look : Cond := .code yX2_look cX2_look 3 (some .int)
theorem kinX2_look : kX2_look ∈ gT := g_438
theorem kTX2_look : ∀ w ∈ kX2_look :: gT, w ∈ gT := fun w h => (List.mem_cons.mp h).elim (fun e => by rw [e]; exact kinX2_look) id
abbrev cX2_count : ByteArray := prog_4_method_21_code
abbrev yX2_count : MethodName := ⟨"CopyHeapModel", "count", "(I)I"⟩
abbrev kX2_count : Cond := .code yX2_count cX2_count 2 (some .int)
theorem kinX2_count : kX2_count ∈ gT := g_442
theorem kTX2_count : ∀ w ∈ kX2_count :: gT, w ∈ gT := fun w h => (List.mem_cons.mp h).elim (fun e => by rw [e]; exact kinX2_count) id
abbrev cX2_objects : ByteArray := prog_4_method_20_code
abbrev yX2_objects : MethodName := ⟨"CopyHeapModel", "objects", "()I"⟩
abbrev kX2_objects : Cond := .code yX2_objects cX2_objects 3 (some .int)
theorem kinX2_objects : kX2_objects ∈ gT := g_446
theorem kTX2_objects : ∀ w ∈ kX2_objects :: gT, w ∈ gT := fun w h => (List.mem_cons.mp h).elim (fun e => by rw [e]; exact kinX2_objects) id
abbrev cL_law : ByteArray := code
abbrev yL_law : MethodName := ⟨"CopyHeapLaw", "law", "([I)Z"⟩
theorem gcL_54 : GoodIn gT (kX1_init :: gT) := gT_good kTX1_init
theorem gcX1_15 : GoodIn gT (kX0_init :: gT) := gT_good kTX0_init
theorem gcL_85 : GoodIn gT (wsV "CopyHeapLaw" 85 "CopyHeap" yX1_collect (kX1_collect :: gT)) := gT_good (List.forall_mem_append.mpr ⟨List.forall_mem_cons.mpr ⟨g_54, List.forall_mem_cons.mpr ⟨g_55, List.forall_mem_cons.mpr ⟨g_56, List.forall_mem_cons.mpr ⟨g_1, fun _ h => absurd h List.not_mem_nil⟩⟩⟩⟩, kTX1_collect⟩)
theorem gcX1_39 : GoodIn gT (wsV "CopyHeap" 39 "CopyHeap" yX1_moveToSpare (kX1_moveToSpare :: gT)) := gT_good (List.forall_mem_append.mpr ⟨List.forall_mem_cons.mpr ⟨g_58, List.forall_mem_cons.mpr ⟨g_60, List.forall_mem_cons.mpr ⟨gs_0, List.forall_mem_cons.mpr ⟨g_1, fun _ h => absurd h List.not_mem_nil⟩⟩⟩⟩, kTX1_moveToSpare⟩)
theorem gcX1_126 : GoodIn gT (wsV "CopyHeap" 126 "CopyHeap$Half" yX0_empty (kX0_empty :: gT)) := gT_good (List.forall_mem_append.mpr ⟨List.forall_mem_cons.mpr ⟨g_62, List.forall_mem_cons.mpr ⟨g_63, List.forall_mem_cons.mpr ⟨g_64, List.forall_mem_cons.mpr ⟨g_2, fun _ h => absurd h List.not_mem_nil⟩⟩⟩⟩, kTX0_empty⟩)
theorem gcX1_129 : GoodIn gT (wsV "CopyHeap" 129 "CopyHeap$Half" yX0_movedValue (kX0_movedValue :: gT)) := gT_good (List.forall_mem_append.mpr ⟨List.forall_mem_cons.mpr ⟨g_66, List.forall_mem_cons.mpr ⟨g_67, List.forall_mem_cons.mpr ⟨g_68, List.forall_mem_cons.mpr ⟨g_2, fun _ h => absurd h List.not_mem_nil⟩⟩⟩⟩, kTX0_movedValue⟩)
theorem gcX0_32 : GoodIn gT (kX1_isReference :: gT) := gT_good kTX1_isReference
theorem gcX0_44 : GoodIn gT (kX1_content :: gT) := gT_good kTX1_content
theorem gcX0_22 : GoodIn gT (wsV "CopyHeap$Half" 22 "CopyHeap$Half" yX0_wordAt (kX0_wordAt :: gT)) := gT_good (List.forall_mem_append.mpr ⟨List.forall_mem_cons.mpr ⟨g_76, List.forall_mem_cons.mpr ⟨g_77, List.forall_mem_cons.mpr ⟨g_78, List.forall_mem_cons.mpr ⟨g_2, fun _ h => absurd h List.not_mem_nil⟩⟩⟩⟩, kTX0_wordAt⟩)
theorem gcX0_47 : GoodIn gT (wsV "CopyHeap$Half" 47 "CopyHeap$Half" yX0_moveObject (kX0_moveObject :: gT)) := gT_good (List.forall_mem_append.mpr ⟨List.forall_mem_cons.mpr ⟨g_80, List.forall_mem_cons.mpr ⟨g_82, List.forall_mem_cons.mpr ⟨gs_1, List.forall_mem_cons.mpr ⟨g_2, fun _ h => absurd h List.not_mem_nil⟩⟩⟩⟩, kTX0_moveObject⟩)
theorem gcX0_26 : GoodIn gT (wsV "CopyHeap$Half" 26 "CopyHeap$Half" yX0_fieldsAt (kX0_fieldsAt :: gT)) := gT_good (List.forall_mem_append.mpr ⟨List.forall_mem_cons.mpr ⟨g_84, List.forall_mem_cons.mpr ⟨g_85, List.forall_mem_cons.mpr ⟨g_86, List.forall_mem_cons.mpr ⟨g_2, fun _ h => absurd h List.not_mem_nil⟩⟩⟩⟩, kTX0_fieldsAt⟩)
theorem gcX0_36 : GoodIn gT (wsV "CopyHeap$Half" 36 "CopyHeap$Half" yX0_addWord (kX0_addWord :: gT)) := gT_good (List.forall_mem_append.mpr ⟨List.forall_mem_cons.mpr ⟨g_88, List.forall_mem_cons.mpr ⟨g_90, List.forall_mem_cons.mpr ⟨gs_2, List.forall_mem_cons.mpr ⟨g_2, fun _ h => absurd h List.not_mem_nil⟩⟩⟩⟩, kTX0_addWord⟩)
theorem gcX0_40 : GoodIn gT (wsV "CopyHeap$Half" 40 "CopyHeap$Half" yX0_setWord (kX0_setWord :: gT)) := gT_good (List.forall_mem_append.mpr ⟨List.forall_mem_cons.mpr ⟨g_92, List.forall_mem_cons.mpr ⟨g_93, List.forall_mem_cons.mpr ⟨g_94, List.forall_mem_cons.mpr ⟨g_2, fun _ h => absurd h List.not_mem_nil⟩⟩⟩⟩, kTX0_setWord⟩)
theorem gcX0_51 : GoodIn gT (kX1_asReference :: gT) := gT_good kTX1_asReference
theorem gcX1_133 : GoodIn gT (wsS "CopyHeap" 133 yX1_moveWhatFieldsReferTo (kX1_moveWhatFieldsReferTo :: gT)) := gT_good (List.forall_mem_append.mpr ⟨List.forall_mem_cons.mpr ⟨g_99, List.forall_mem_cons.mpr ⟨g_100, List.forall_mem_cons.mpr ⟨g_1, fun _ h => absurd h List.not_mem_nil⟩⟩⟩, kTX1_moveWhatFieldsReferTo⟩)
theorem gcX1_67 : GoodIn gT (wsV "CopyHeap" 67 "CopyHeap$Half" yX0_kindAt (kX0_kindAt :: gT)) := gT_good (List.forall_mem_append.mpr ⟨List.forall_mem_cons.mpr ⟨g_102, List.forall_mem_cons.mpr ⟨g_103, List.forall_mem_cons.mpr ⟨g_104, List.forall_mem_cons.mpr ⟨g_2, fun _ h => absurd h List.not_mem_nil⟩⟩⟩⟩, kTX0_kindAt⟩)
theorem gcX1_88 : GoodIn gT (wsV "CopyHeap" 88 "CopyHeap$Half" yX0_fieldsAt (kX0_fieldsAt :: gT)) := gT_good (List.forall_mem_append.mpr ⟨List.forall_mem_cons.mpr ⟨g_106, List.forall_mem_cons.mpr ⟨g_85, List.forall_mem_cons.mpr ⟨g_86, List.forall_mem_cons.mpr ⟨g_2, fun _ h => absurd h List.not_mem_nil⟩⟩⟩⟩, kTX0_fieldsAt⟩)
theorem gcX1_81 : GoodIn gT (wsV "CopyHeap" 81 "CopyHeap$Half" yX0_wordAt (kX0_wordAt :: gT)) := gT_good (List.forall_mem_append.mpr ⟨List.forall_mem_cons.mpr ⟨g_107, List.forall_mem_cons.mpr ⟨g_77, List.forall_mem_cons.mpr ⟨g_78, List.forall_mem_cons.mpr ⟨g_2, fun _ h => absurd h List.not_mem_nil⟩⟩⟩⟩, kTX0_wordAt⟩)
theorem gcX1_76 : GoodIn gT (wsV "CopyHeap" 76 "CopyHeap$Half" yX0_setWord (kX0_setWord :: gT)) := gT_good (List.forall_mem_append.mpr ⟨List.forall_mem_cons.mpr ⟨g_108, List.forall_mem_cons.mpr ⟨g_93, List.forall_mem_cons.mpr ⟨g_94, List.forall_mem_cons.mpr ⟨g_2, fun _ h => absurd h List.not_mem_nil⟩⟩⟩⟩, kTX0_setWord⟩)
theorem gcL_48 : GoodIn gT (wsS "CopyHeapLaw" 48 yL_cell (kL_cell :: gT)) := gT_good (List.forall_mem_append.mpr ⟨List.forall_mem_cons.mpr ⟨g_109, List.forall_mem_cons.mpr ⟨g_110, List.forall_mem_cons.mpr ⟨g_0, fun _ h => absurd h List.not_mem_nil⟩⟩⟩, kTL_cell⟩)
theorem gcL_60 : GoodIn gT (va_wsS "CopyHeapLaw" 60 yL_make (kL_make :: gT)) := gT_good (fun w h => by
  unfold va_wsS at h
  rcases List.mem_append.mp h with h | h
  · revert w; decide +kernel
  · exact kTL_make w h)
theorem gcL_7 : GoodIn gT (wsV "CopyHeapLaw" 7 "CopyHeap" yX1_make (kX1_make :: gT)) := gT_good (List.forall_mem_append.mpr ⟨List.forall_mem_cons.mpr ⟨g_117, List.forall_mem_cons.mpr ⟨g_118, List.forall_mem_cons.mpr ⟨g_119, List.forall_mem_cons.mpr ⟨g_1, fun _ h => absurd h List.not_mem_nil⟩⟩⟩⟩, kTX1_make⟩)
theorem gcX1_25 : GoodIn gT (wsS "CopyHeap" 25 yX1_requireRegister (kX1_requireRegister :: gT)) := gT_good (List.forall_mem_append.mpr ⟨List.forall_mem_cons.mpr ⟨g_121, List.forall_mem_cons.mpr ⟨g_122, List.forall_mem_cons.mpr ⟨g_1, fun _ h => absurd h List.not_mem_nil⟩⟩⟩, kTX1_requireRegister⟩)
theorem gcX1_35 : GoodIn gT (wsV "CopyHeap" 35 "CopyHeap$Half" yX0_hasRoomFor (kX0_hasRoomFor :: gT)) := gT_good (List.forall_mem_append.mpr ⟨List.forall_mem_cons.mpr ⟨g_193, List.forall_mem_cons.mpr ⟨g_194, List.forall_mem_cons.mpr ⟨g_195, List.forall_mem_cons.mpr ⟨g_2, fun _ h => absurd h List.not_mem_nil⟩⟩⟩⟩, kTX0_hasRoomFor⟩)
theorem gcX1_47 : GoodIn gT (wsV "CopyHeap" 47 "CopyHeap$Half" yX0_addObject (kX0_addObject :: gT)) := gT_good (List.forall_mem_append.mpr ⟨List.forall_mem_cons.mpr ⟨g_213, List.forall_mem_cons.mpr ⟨g_214, List.forall_mem_cons.mpr ⟨g_215, List.forall_mem_cons.mpr ⟨g_2, fun _ h => absurd h List.not_mem_nil⟩⟩⟩⟩, kTX0_addObject⟩)
theorem gcX1_51 : GoodIn gT (wsS "CopyHeap" 51 yX1_asReference (kX1_asReference :: gT)) := gT_good (List.forall_mem_append.mpr ⟨List.forall_mem_cons.mpr ⟨g_217, List.forall_mem_cons.mpr ⟨g_97, List.forall_mem_cons.mpr ⟨g_1, fun _ h => absurd h List.not_mem_nil⟩⟩⟩, kTX1_asReference⟩)
theorem gcL_68 : GoodIn gT (va_wsS "CopyHeapLaw" 68 yL_number (kL_number :: gT)) := gT_good (fun w h => by
  unfold va_wsS at h
  rcases List.mem_append.mp h with h | h
  · revert w; decide +kernel
  · exact kTL_number w h)
theorem gcL_17 : GoodIn gT (wsV "CopyHeapLaw" 17 "CopyHeap" yX1_number (kX1_number :: gT)) := gT_good (List.forall_mem_append.mpr ⟨List.forall_mem_cons.mpr ⟨g_221, List.forall_mem_cons.mpr ⟨g_222, List.forall_mem_cons.mpr ⟨g_223, List.forall_mem_cons.mpr ⟨g_1, fun _ h => absurd h List.not_mem_nil⟩⟩⟩⟩, kTX1_number⟩)
theorem gcX1_55 : GoodIn gT (wsS "CopyHeap" 55 yX1_asNumber (kX1_asNumber :: gT)) := gT_good (List.forall_mem_append.mpr ⟨List.forall_mem_cons.mpr ⟨g_225, List.forall_mem_cons.mpr ⟨g_226, List.forall_mem_cons.mpr ⟨g_1, fun _ h => absurd h List.not_mem_nil⟩⟩⟩, kTX1_asNumber⟩)
theorem gcX1_58 : GoodIn gT (wsS "CopyHeap" 58 yX1_content (kX1_content :: gT)) := gT_good (List.forall_mem_append.mpr ⟨List.forall_mem_cons.mpr ⟨g_228, List.forall_mem_cons.mpr ⟨g_74, List.forall_mem_cons.mpr ⟨g_1, fun _ h => absurd h List.not_mem_nil⟩⟩⟩, kTX1_content⟩)
theorem gcL_72 : GoodIn gT (va_wsS "CopyHeapLaw" 72 yL_copy (kL_copy :: gT)) := gT_good (fun w h => by
  unfold va_wsS at h
  rcases List.mem_append.mp h with h | h
  · revert w; decide +kernel
  · exact kTL_copy w h)
theorem gcL_21 : GoodIn gT (wsV "CopyHeapLaw" 21 "CopyHeap" yX1_copy (kX1_copy :: gT)) := gT_good (List.forall_mem_append.mpr ⟨List.forall_mem_cons.mpr ⟨g_232, List.forall_mem_cons.mpr ⟨g_233, List.forall_mem_cons.mpr ⟨g_234, List.forall_mem_cons.mpr ⟨g_1, fun _ h => absurd h List.not_mem_nil⟩⟩⟩⟩, kTX1_copy⟩)
theorem gcX1_61 : GoodIn gT (wsS "CopyHeap" 61 yX1_isReference (kX1_isReference :: gT)) := gT_good (List.forall_mem_append.mpr ⟨List.forall_mem_cons.mpr ⟨g_236, List.forall_mem_cons.mpr ⟨g_71, List.forall_mem_cons.mpr ⟨g_1, fun _ h => absurd h List.not_mem_nil⟩⟩⟩, kTX1_isReference⟩)
theorem gcL_75 : GoodIn gT (va_wsS "CopyHeapLaw" 75 yL_put (kL_put :: gT)) := gT_good (fun w h => by
  unfold va_wsS at h
  rcases List.mem_append.mp h with h | h
  · revert w; decide +kernel
  · exact kTL_put w h)
theorem gcL_25 : GoodIn gT (wsV "CopyHeapLaw" 25 "CopyHeap" yX1_put (kX1_put :: gT)) := gT_good (List.forall_mem_append.mpr ⟨List.forall_mem_cons.mpr ⟨g_241, List.forall_mem_cons.mpr ⟨g_242, List.forall_mem_cons.mpr ⟨g_243, List.forall_mem_cons.mpr ⟨g_1, fun _ h => absurd h List.not_mem_nil⟩⟩⟩⟩, kTX1_put⟩)
theorem gcX1_64 : GoodIn gT (wsV "CopyHeap" 64 "CopyHeap" yX1_objectOf (kX1_objectOf :: gT)) := gT_good (List.forall_mem_append.mpr ⟨List.forall_mem_cons.mpr ⟨g_245, List.forall_mem_cons.mpr ⟨g_247, List.forall_mem_cons.mpr ⟨gs_4, List.forall_mem_cons.mpr ⟨g_1, fun _ h => absurd h List.not_mem_nil⟩⟩⟩⟩, kTX1_objectOf⟩)
theorem gcX1_72 : GoodIn gT (wsV "CopyHeap" 72 "CopyHeap" yX1_requireField (kX1_requireField :: gT)) := gT_good (List.forall_mem_append.mpr ⟨List.forall_mem_cons.mpr ⟨g_251, List.forall_mem_cons.mpr ⟨g_253, List.forall_mem_cons.mpr ⟨gs_5, List.forall_mem_cons.mpr ⟨g_1, fun _ h => absurd h List.not_mem_nil⟩⟩⟩⟩, kTX1_requireField⟩)
theorem gcL_79 : GoodIn gT (va_wsS "CopyHeapLaw" 79 yL_raw (kL_raw :: gT)) := gT_good (fun w h => by
  unfold va_wsS at h
  rcases List.mem_append.mp h with h | h
  · revert w; decide +kernel
  · exact kTL_raw w h)
theorem gcL_31 : GoodIn gT (wsV "CopyHeapLaw" 31 "CopyHeap" yX1_raw (kX1_raw :: gT)) := gT_good (List.forall_mem_append.mpr ⟨List.forall_mem_cons.mpr ⟨g_274, List.forall_mem_cons.mpr ⟨g_275, List.forall_mem_cons.mpr ⟨g_276, List.forall_mem_cons.mpr ⟨g_1, fun _ h => absurd h List.not_mem_nil⟩⟩⟩⟩, kTX1_raw⟩)
theorem gcL_82 : GoodIn gT (va_wsS "CopyHeapLaw" 82 yL_get (kL_get :: gT)) := gT_good (fun w h => by
  unfold va_wsS at h
  rcases List.mem_append.mp h with h | h
  · revert w; decide +kernel
  · exact kTL_get w h)
theorem gcL_34 : GoodIn gT (wsV "CopyHeapLaw" 34 "CopyHeap" yX1_get (kX1_get :: gT)) := gT_good (List.forall_mem_append.mpr ⟨List.forall_mem_cons.mpr ⟨g_282, List.forall_mem_cons.mpr ⟨g_283, List.forall_mem_cons.mpr ⟨g_284, List.forall_mem_cons.mpr ⟨g_1, fun _ h => absurd h List.not_mem_nil⟩⟩⟩⟩, kTX1_get⟩)
theorem gcL_89 : GoodIn gT (va_wsS "CopyHeapLaw" 89 yL_about (kL_about :: gT)) := gT_good (fun w h => by
  unfold va_wsS at h
  rcases List.mem_append.mp h with h | h
  · revert w; decide +kernel
  · exact kTL_about w h)
theorem gcL_38 : GoodIn gT (wsV "CopyHeapLaw" 38 "CopyHeap" yX1_about (kX1_about :: gT)) := gT_good (List.forall_mem_append.mpr ⟨List.forall_mem_cons.mpr ⟨g_289, List.forall_mem_cons.mpr ⟨g_290, List.forall_mem_cons.mpr ⟨g_291, List.forall_mem_cons.mpr ⟨g_1, fun _ h => absurd h List.not_mem_nil⟩⟩⟩⟩, kTX1_about⟩)
theorem gcL_92 : GoodIn gT (va_wsS "CopyHeapLaw" 92 yL_look (kL_look :: gT)) := gT_good (fun w h => by
  unfold va_wsS at h
  rcases List.mem_append.mp h with h | h
  · revert w; decide +kernel
  · exact kTL_look w h)
theorem gcL_41 : GoodIn gT (wsV "CopyHeapLaw" 41 "CopyHeap" yX1_look (kX1_look :: gT)) := gT_good (List.forall_mem_append.mpr ⟨List.forall_mem_cons.mpr ⟨g_297, List.forall_mem_cons.mpr ⟨g_298, List.forall_mem_cons.mpr ⟨g_299, List.forall_mem_cons.mpr ⟨g_1, fun _ h => absurd h List.not_mem_nil⟩⟩⟩⟩, kTX1_look⟩)
theorem gcX1_96 : GoodIn gT (wsV "CopyHeap" 96 "CopyHeap$Half" yX0_holds (kX0_holds :: gT)) := gT_good (List.forall_mem_append.mpr ⟨List.forall_mem_cons.mpr ⟨g_301, List.forall_mem_cons.mpr ⟨g_302, List.forall_mem_cons.mpr ⟨g_303, List.forall_mem_cons.mpr ⟨g_2, fun _ h => absurd h List.not_mem_nil⟩⟩⟩⟩, kTX0_holds⟩)
theorem gcX1_101 : GoodIn gT (wsV "CopyHeap" 101 "CopyHeap$Half" yX0_sortAt (kX0_sortAt :: gT)) := gT_good (List.forall_mem_append.mpr ⟨List.forall_mem_cons.mpr ⟨g_306, List.forall_mem_cons.mpr ⟨g_307, List.forall_mem_cons.mpr ⟨g_308, List.forall_mem_cons.mpr ⟨g_2, fun _ h => absurd h List.not_mem_nil⟩⟩⟩⟩, kTX0_sortAt⟩)
theorem gcX0_29 : GoodIn gT (wsV "CopyHeap$Half" 29 "CopyHeap$Half" yX0_kindAt (kX0_kindAt :: gT)) := gT_good (List.forall_mem_append.mpr ⟨List.forall_mem_cons.mpr ⟨g_310, List.forall_mem_cons.mpr ⟨g_103, List.forall_mem_cons.mpr ⟨g_104, List.forall_mem_cons.mpr ⟨g_2, fun _ h => absurd h List.not_mem_nil⟩⟩⟩⟩, kTX0_kindAt⟩)
theorem gcL_95 : GoodIn gT (va_wsS "CopyHeapLaw" 95 yL_count (kL_count :: gT)) := gT_good (fun w h => by
  unfold va_wsS at h
  rcases List.mem_append.mp h with h | h
  · revert w; decide +kernel
  · exact kTL_count w h)
theorem gcL_44 : GoodIn gT (wsV "CopyHeapLaw" 44 "CopyHeap" yX1_count (kX1_count :: gT)) := gT_good (List.forall_mem_append.mpr ⟨List.forall_mem_cons.mpr ⟨g_315, List.forall_mem_cons.mpr ⟨g_316, List.forall_mem_cons.mpr ⟨g_317, List.forall_mem_cons.mpr ⟨g_1, fun _ h => absurd h List.not_mem_nil⟩⟩⟩⟩, kTX1_count⟩)
theorem gcL_59 : GoodIn gT (kX2_init :: gT) := gT_good kTX2_init
theorem gcL_64 : GoodIn gT (wsV "CopyHeapLaw" 64 "CopyHeapModel" yX2_thrown (kX2_thrown :: gT)) := gT_good (List.forall_mem_append.mpr ⟨List.forall_mem_cons.mpr ⟨g_369, List.forall_mem_cons.mpr ⟨g_370, List.forall_mem_cons.mpr ⟨g_371, List.forall_mem_cons.mpr ⟨g_3, fun _ h => absurd h List.not_mem_nil⟩⟩⟩⟩, kTX2_thrown⟩)
theorem gcL_88 : GoodIn gT (wsV "CopyHeapLaw" 88 "CopyHeapModel" yX2_collect (kX2_collect :: gT)) := gT_good (List.forall_mem_append.mpr ⟨List.forall_mem_cons.mpr ⟨g_373, List.forall_mem_cons.mpr ⟨g_374, List.forall_mem_cons.mpr ⟨g_375, List.forall_mem_cons.mpr ⟨g_3, fun _ h => absurd h List.not_mem_nil⟩⟩⟩⟩, kTX2_collect⟩)
theorem gcX2_61 : GoodIn gT (wsV "CopyHeapModel" 61 "CopyHeapModel" yX2_gather (kX2_gather :: gT)) := gT_good (List.forall_mem_append.mpr ⟨List.forall_mem_cons.mpr ⟨g_377, List.forall_mem_cons.mpr ⟨g_379, List.forall_mem_cons.mpr ⟨gs_6, List.forall_mem_cons.mpr ⟨g_3, fun _ h => absurd h List.not_mem_nil⟩⟩⟩⟩, kTX2_gather⟩)
theorem gcX2_51 : GoodIn gT (wsV "CopyHeapModel" 51 "CopyHeapModel" yX2_keep (kX2_keep :: gT)) := gT_good (List.forall_mem_append.mpr ⟨List.forall_mem_cons.mpr ⟨g_381, List.forall_mem_cons.mpr ⟨g_383, List.forall_mem_cons.mpr ⟨gs_7, List.forall_mem_cons.mpr ⟨g_3, fun _ h => absurd h List.not_mem_nil⟩⟩⟩⟩, kTX2_keep⟩)
theorem gcX2_44 : GoodIn gT (wsV "CopyHeapModel" 44 "CopyHeapModel" yX2_fieldsAt (kX2_fieldsAt :: gT)) := gT_good (List.forall_mem_append.mpr ⟨List.forall_mem_cons.mpr ⟨g_385, List.forall_mem_cons.mpr ⟨g_387, List.forall_mem_cons.mpr ⟨gs_8, List.forall_mem_cons.mpr ⟨g_3, fun _ h => absurd h List.not_mem_nil⟩⟩⟩⟩, kTX2_fieldsAt⟩)
theorem gcL_63 : GoodIn gT (wsV "CopyHeapLaw" 63 "CopyHeapModel" yX2_make (kX2_make :: gT)) := gT_good (List.forall_mem_append.mpr ⟨List.forall_mem_cons.mpr ⟨g_389, List.forall_mem_cons.mpr ⟨g_390, List.forall_mem_cons.mpr ⟨g_391, List.forall_mem_cons.mpr ⟨g_3, fun _ h => absurd h List.not_mem_nil⟩⟩⟩⟩, kTX2_make⟩)
theorem gcX2_65 : GoodIn gT (wsS "CopyHeapModel" 65 yX2_isRegister (kX2_isRegister :: gT)) := gT_good (List.forall_mem_append.mpr ⟨List.forall_mem_cons.mpr ⟨g_393, List.forall_mem_cons.mpr ⟨g_394, List.forall_mem_cons.mpr ⟨g_3, fun _ h => absurd h List.not_mem_nil⟩⟩⟩, kTX2_isRegister⟩)
theorem gcX2_69 : GoodIn gT (wsV "CopyHeapModel" 69 "CopyHeapModel" yX2_fail (kX2_fail :: gT)) := gT_good (List.forall_mem_append.mpr ⟨List.forall_mem_cons.mpr ⟨g_396, List.forall_mem_cons.mpr ⟨g_398, List.forall_mem_cons.mpr ⟨gs_9, List.forall_mem_cons.mpr ⟨g_3, fun _ h => absurd h List.not_mem_nil⟩⟩⟩⟩, kTX2_fail⟩)
theorem gcL_71 : GoodIn gT (wsV "CopyHeapLaw" 71 "CopyHeapModel" yX2_number (kX2_number :: gT)) := gT_good (List.forall_mem_append.mpr ⟨List.forall_mem_cons.mpr ⟨g_400, List.forall_mem_cons.mpr ⟨g_401, List.forall_mem_cons.mpr ⟨g_402, List.forall_mem_cons.mpr ⟨g_3, fun _ h => absurd h List.not_mem_nil⟩⟩⟩⟩, kTX2_number⟩)
theorem gcX2_72 : GoodIn gT (wsS "CopyHeapModel" 72 yX2_kept (kX2_kept :: gT)) := gT_good (List.forall_mem_append.mpr ⟨List.forall_mem_cons.mpr ⟨g_404, List.forall_mem_cons.mpr ⟨g_405, List.forall_mem_cons.mpr ⟨g_3, fun _ h => absurd h List.not_mem_nil⟩⟩⟩, kTX2_kept⟩)
theorem gcL_74 : GoodIn gT (wsV "CopyHeapLaw" 74 "CopyHeapModel" yX2_copy (kX2_copy :: gT)) := gT_good (List.forall_mem_append.mpr ⟨List.forall_mem_cons.mpr ⟨g_407, List.forall_mem_cons.mpr ⟨g_408, List.forall_mem_cons.mpr ⟨g_409, List.forall_mem_cons.mpr ⟨g_3, fun _ h => absurd h List.not_mem_nil⟩⟩⟩⟩, kTX2_copy⟩)
theorem gcL_78 : GoodIn gT (wsV "CopyHeapLaw" 78 "CopyHeapModel" yX2_put (kX2_put :: gT)) := gT_good (List.forall_mem_append.mpr ⟨List.forall_mem_cons.mpr ⟨g_411, List.forall_mem_cons.mpr ⟨g_412, List.forall_mem_cons.mpr ⟨g_413, List.forall_mem_cons.mpr ⟨g_3, fun _ h => absurd h List.not_mem_nil⟩⟩⟩⟩, kTX2_put⟩)
theorem gcX2_75 : GoodIn gT (wsV "CopyHeapModel" 75 "CopyHeapModel" yX2_isRaw (kX2_isRaw :: gT)) := gT_good (List.forall_mem_append.mpr ⟨List.forall_mem_cons.mpr ⟨g_415, List.forall_mem_cons.mpr ⟨g_417, List.forall_mem_cons.mpr ⟨gs_10, List.forall_mem_cons.mpr ⟨g_3, fun _ h => absurd h List.not_mem_nil⟩⟩⟩⟩, kTX2_isRaw⟩)
theorem gcX2_78 : GoodIn gT (wsV "CopyHeapModel" 78 "CopyHeapModel" yX2_hasField (kX2_hasField :: gT)) := gT_good (List.forall_mem_append.mpr ⟨List.forall_mem_cons.mpr ⟨g_419, List.forall_mem_cons.mpr ⟨g_421, List.forall_mem_cons.mpr ⟨gs_11, List.forall_mem_cons.mpr ⟨g_3, fun _ h => absurd h List.not_mem_nil⟩⟩⟩⟩, kTX2_hasField⟩)
theorem gcL_81 : GoodIn gT (wsV "CopyHeapLaw" 81 "CopyHeapModel" yX2_raw (kX2_raw :: gT)) := gT_good (List.forall_mem_append.mpr ⟨List.forall_mem_cons.mpr ⟨g_423, List.forall_mem_cons.mpr ⟨g_424, List.forall_mem_cons.mpr ⟨g_425, List.forall_mem_cons.mpr ⟨g_3, fun _ h => absurd h List.not_mem_nil⟩⟩⟩⟩, kTX2_raw⟩)
theorem gcL_84 : GoodIn gT (wsV "CopyHeapLaw" 84 "CopyHeapModel" yX2_get (kX2_get :: gT)) := gT_good (List.forall_mem_append.mpr ⟨List.forall_mem_cons.mpr ⟨g_427, List.forall_mem_cons.mpr ⟨g_428, List.forall_mem_cons.mpr ⟨g_429, List.forall_mem_cons.mpr ⟨g_3, fun _ h => absurd h List.not_mem_nil⟩⟩⟩⟩, kTX2_get⟩)
theorem gcL_91 : GoodIn gT (wsV "CopyHeapLaw" 91 "CopyHeapModel" yX2_about (kX2_about :: gT)) := gT_good (List.forall_mem_append.mpr ⟨List.forall_mem_cons.mpr ⟨g_431, List.forall_mem_cons.mpr ⟨g_432, List.forall_mem_cons.mpr ⟨g_433, List.forall_mem_cons.mpr ⟨g_3, fun _ h => absurd h List.not_mem_nil⟩⟩⟩⟩, kTX2_about⟩)
theorem gcL_94 : GoodIn gT (wsV "CopyHeapLaw" 94 "CopyHeapModel" yX2_look (kX2_look :: gT)) := gT_good (List.forall_mem_append.mpr ⟨List.forall_mem_cons.mpr ⟨g_435, List.forall_mem_cons.mpr ⟨g_436, List.forall_mem_cons.mpr ⟨g_437, List.forall_mem_cons.mpr ⟨g_3, fun _ h => absurd h List.not_mem_nil⟩⟩⟩⟩, kTX2_look⟩)
theorem gcL_98 : GoodIn gT (wsV "CopyHeapLaw" 98 "CopyHeapModel" yX2_count (kX2_count :: gT)) := gT_good (List.forall_mem_append.mpr ⟨List.forall_mem_cons.mpr ⟨g_439, List.forall_mem_cons.mpr ⟨g_440, List.forall_mem_cons.mpr ⟨g_441, List.forall_mem_cons.mpr ⟨g_3, fun _ h => absurd h List.not_mem_nil⟩⟩⟩⟩, kTX2_count⟩)
theorem gcX2_82 : GoodIn gT (wsV "CopyHeapModel" 82 "CopyHeapModel" yX2_objects (kX2_objects :: gT)) := gT_good (List.forall_mem_append.mpr ⟨List.forall_mem_cons.mpr ⟨g_443, List.forall_mem_cons.mpr ⟨g_445, List.forall_mem_cons.mpr ⟨gs_12, List.forall_mem_cons.mpr ⟨g_3, fun _ h => absurd h List.not_mem_nil⟩⟩⟩⟩, kTX2_objects⟩)
