/-! NAMES, by wip/whole/tools/names.py out of claim/JAVAP.txt and the tables -/
def mg_GT : List Cond := lw_tbl.filter goodWord
theorem mg_in {w : Cond} (i : Nat) (h : lw_tbl[i]? = some w) (hg : goodWord w = true) : w ∈ mg_GT := List.mem_filter.mpr ⟨List.mem_of_getElem? h, hg⟩
theorem mg_GT_good (w : Cond) (h : w ∈ mg_GT) : (w.onTables && w.keeps) = true ∨ ∃ ty, w = .arrayClass ty := good_of_word (List.mem_filter.mp h).2
theorem mg_in_r {ws : List Cond} (ps : List Nat) (hp : ws = ps.filterMap (fun i => lw_tbl[i]?)) (h : ws.all goodWord = true) : ∀ w ∈ ws, w ∈ mg_GT := fun w hw => by
  have h1 := List.all_eq_true.mp h w hw
  rw [hp] at hw
  obtain ⟨i, -, hi⟩ := List.mem_filterMap.mp hw
  exact List.mem_filter.mpr ⟨List.mem_of_getElem? hi, h1⟩
def FT_PS : u_T := fun k => match k with
  | 0 => ("PropertyShrink", "generators", "[LPropertyShrink$Generator;", true)
  | 1 => ("PropertyShrink", "generatorCount", "I", false)
  | 2 => ("PropertyShrink", "properties", "[LPropertyShrink$Property;", true)
  | 3 => ("PropertyShrink", "propertyCount", "I", false)
  | 4 => ("PropertyShrink", "latestKept", "LPropertyShrink$Kept;", false)
  | 5 => ("PropertyShrink", "keptCount", "I", false)
  | 6 => ("PropertyShrink", "wastes", "I", false)
  | 7 => ("PropertyShrink", "foundGenerator", "LPropertyShrink$Generator;", false)
  | 8 => ("PropertyShrink", "foundProperty", "LPropertyShrink$Property;", false)
  | 9 => ("PropertyShrink", "foundVerdict", "I", false)
  | 10 => ("PropertyShrink", "rowIsLeast", "Z", false)
  | 11 => ("PropertyShrink", "row", "LPropertyShrink$Ints;", true)
  | 12 => ("PropertyShrink", "numbers", "LPropertyShrink$Ints;", true)
  | 13 => ("PropertyShrink", "puts", "LPropertyShrink$Ints;", true)
  | 14 => ("PropertyShrink", "step", "LPropertyShrink$Ints;", true)
  | 15 => ("PropertyShrink", "draws", "LPropertyShrink$Draws;", true)
  | _ => ("PropertyShrink", "rowsSum", "J", false)
def ty_PS : Nat → FieldType := fun k => match k with
  | 0 => .array (.object "PropertyShrink$Generator")
  | 1 => .int
  | 2 => .array (.object "PropertyShrink$Property")
  | 3 => .int
  | 4 => .object "PropertyShrink$Kept"
  | 5 => .int
  | 6 => .int
  | 7 => .object "PropertyShrink$Generator"
  | 8 => .object "PropertyShrink$Property"
  | 9 => .int
  | 10 => .boolean
  | 11 => .object "PropertyShrink$Ints"
  | 12 => .object "PropertyShrink$Ints"
  | 13 => .object "PropertyShrink$Ints"
  | 14 => .object "PropertyShrink$Ints"
  | 15 => .object "PropertyShrink$Draws"
  | _ => .long
theorem nm_PS : ∀ a, a < 17 → ∀ b, b < 17 → a ≠ b → (FT_PS a).2.1 ≠ (FT_PS b).2.1 := by decide +kernel
theorem tk_PS : ∀ k, k < 17 → parseFieldDescriptor (FT_PS k).2.2.1 = some (ty_PS k) := by decide +kernel
theorem iw_PS : ∀ w ∈ u_ws "PropertyShrink" FT_PS 17, w ∈ mg_GT := mg_in_r [130, 132, 134, 136, 138, 140, 142, 144, 146, 148, 150, 152, 154, 156, 158, 160, 162] (by decide +kernel) (by decide +kernel)
def FT_In : u_T := fun k => match k with
  | 0 => ("PropertyShrink$Ints", "items", "[I", true)
  | _ => ("PropertyShrink$Ints", "count", "I", false)
def ty_In : Nat → FieldType := fun k => match k with
  | 0 => .array .int
  | _ => .int
theorem nm_In : ∀ a, a < 2 → ∀ b, b < 2 → a ≠ b → (FT_In a).2.1 ≠ (FT_In b).2.1 := by decide +kernel
theorem tk_In : ∀ k, k < 2 → parseFieldDescriptor (FT_In k).2.2.1 = some (ty_In k) := by decide +kernel
theorem iw_In : ∀ w ∈ u_ws "PropertyShrink$Ints" FT_In 2, w ∈ mg_GT := mg_in_r [66, 68] (by decide +kernel) (by decide +kernel)
def FT_Dr : u_T := fun k => match k with
  | 0 => ("PropertyShrink$Draws", "choices", "LPropertyShrink$Ints;", true)
  | 1 => ("PropertyShrink$Draws", "numbers", "LPropertyShrink$Ints;", true)
  | 2 => ("PropertyShrink$Draws", "ill", "Z", false)
  | 3 => ("PropertyShrink$Draws", "limits", "[I", true)
  | 4 => ("PropertyShrink$Draws", "given", "LPropertyShrink$Ints;", true)
  | 5 => ("PropertyShrink$Draws", "how", "I", false)
  | 6 => ("PropertyShrink$Draws", "state", "J", false)
  | _ => ("PropertyShrink$Draws", "trySize", "I", false)
def ty_Dr : Nat → FieldType := fun k => match k with
  | 0 => .object "PropertyShrink$Ints"
  | 1 => .object "PropertyShrink$Ints"
  | 2 => .boolean
  | 3 => .array .int
  | 4 => .object "PropertyShrink$Ints"
  | 5 => .int
  | 6 => .long
  | _ => .int
theorem nm_Dr : ∀ a, a < 8 → ∀ b, b < 8 → a ≠ b → (FT_Dr a).2.1 ≠ (FT_Dr b).2.1 := by decide +kernel
theorem tk_Dr : ∀ k, k < 8 → parseFieldDescriptor (FT_Dr k).2.2.1 = some (ty_Dr k) := by decide +kernel
theorem iw_Dr : ∀ w ∈ u_ws "PropertyShrink$Draws" FT_Dr 8, w ∈ mg_GT := mg_in_r [96, 98, 100, 102, 104, 106, 108, 110] (by decide +kernel) (by decide +kernel)
def FT_IR : u_T := fun k => match k with
  | 0 => ("PropertyShrink$Generator", "deep", "I", true)
  | 1 => ("PropertyShrink$IntRange", "low", "I", true)
  | _ => ("PropertyShrink$IntRange", "high", "I", true)
def ty_IR : Nat → FieldType := fun k => match k with
  | 0 => .int
  | 1 => .int
  | _ => .int
theorem nm_IR : ∀ a, a < 3 → ∀ b, b < 3 → a ≠ b → (FT_IR a).2.1 ≠ (FT_IR b).2.1 := by decide +kernel
theorem tk_IR : ∀ k, k < 3 → parseFieldDescriptor (FT_IR k).2.2.1 = some (ty_IR k) := by decide +kernel
theorem iw_IR : ∀ w ∈ u_ws "PropertyShrink$IntRange" FT_IR 3, w ∈ mg_GT := mg_in_r [198, 194, 196] (by decide +kernel) (by decide +kernel)
def FT_LO : u_T := fun k => match k with
  | 0 => ("PropertyShrink$Generator", "deep", "I", true)
  | 1 => ("PropertyShrink$ListOf", "part", "LPropertyShrink$Generator;", true)
  | _ => ("PropertyShrink$ListOf", "most", "I", true)
def ty_LO : Nat → FieldType := fun k => match k with
  | 0 => .int
  | 1 => .object "PropertyShrink$Generator"
  | _ => .int
theorem nm_LO : ∀ a, a < 3 → ∀ b, b < 3 → a ≠ b → (FT_LO a).2.1 ≠ (FT_LO b).2.1 := by decide +kernel
theorem tk_LO : ∀ k, k < 3 → parseFieldDescriptor (FT_LO k).2.2.1 = some (ty_LO k) := by decide +kernel
theorem iw_LO : ∀ w ∈ u_ws "PropertyShrink$ListOf" FT_LO 3, w ∈ mg_GT := mg_in_r [217, 213, 215] (by decide +kernel) (by decide +kernel)
def FT_PO : u_T := fun k => match k with
  | 0 => ("PropertyShrink$Generator", "deep", "I", true)
  | 1 => ("PropertyShrink$PairOf", "first", "LPropertyShrink$Generator;", true)
  | _ => ("PropertyShrink$PairOf", "second", "LPropertyShrink$Generator;", true)
def ty_PO : Nat → FieldType := fun k => match k with
  | 0 => .int
  | 1 => .object "PropertyShrink$Generator"
  | _ => .object "PropertyShrink$Generator"
theorem nm_PO : ∀ a, a < 3 → ∀ b, b < 3 → a ≠ b → (FT_PO a).2.1 ≠ (FT_PO b).2.1 := by decide +kernel
theorem tk_PO : ∀ k, k < 3 → parseFieldDescriptor (FT_PO k).2.2.1 = some (ty_PO k) := by decide +kernel
theorem iw_PO : ∀ w ∈ u_ws "PropertyShrink$PairOf" FT_PO 3, w ∈ mg_GT := mg_in_r [265, 261, 263] (by decide +kernel) (by decide +kernel)
def FT_OO : u_T := fun k => match k with
  | 0 => ("PropertyShrink$Generator", "deep", "I", true)
  | 1 => ("PropertyShrink$OneOf", "first", "LPropertyShrink$Generator;", true)
  | _ => ("PropertyShrink$OneOf", "second", "LPropertyShrink$Generator;", true)
def ty_OO : Nat → FieldType := fun k => match k with
  | 0 => .int
  | 1 => .object "PropertyShrink$Generator"
  | _ => .object "PropertyShrink$Generator"
theorem nm_OO : ∀ a, a < 3 → ∀ b, b < 3 → a ≠ b → (FT_OO a).2.1 ≠ (FT_OO b).2.1 := by decide +kernel
theorem tk_OO : ∀ k, k < 3 → parseFieldDescriptor (FT_OO k).2.2.1 = some (ty_OO k) := by decide +kernel
theorem iw_OO : ∀ w ∈ u_ws "PropertyShrink$OneOf" FT_OO 3, w ∈ mg_GT := mg_in_r [280, 276, 278] (by decide +kernel) (by decide +kernel)
def FT_KO : u_T := fun k => match k with
  | 0 => ("PropertyShrink$Generator", "deep", "I", true)
  | 1 => ("PropertyShrink$KeepOf", "part", "LPropertyShrink$Generator;", true)
  | _ => ("PropertyShrink$KeepOf", "parity", "I", true)
def ty_KO : Nat → FieldType := fun k => match k with
  | 0 => .int
  | 1 => .object "PropertyShrink$Generator"
  | _ => .int
theorem nm_KO : ∀ a, a < 3 → ∀ b, b < 3 → a ≠ b → (FT_KO a).2.1 ≠ (FT_KO b).2.1 := by decide +kernel
theorem tk_KO : ∀ k, k < 3 → parseFieldDescriptor (FT_KO k).2.2.1 = some (ty_KO k) := by decide +kernel
theorem iw_KO : ∀ w ∈ u_ws "PropertyShrink$KeepOf" FT_KO 3, w ∈ mg_GT := mg_in_r [231, 227, 229] (by decide +kernel) (by decide +kernel)
def FT_AT : u_T := fun k => match k with
  | 0 => ("PropertyShrink$Generator", "deep", "I", true)
  | 1 => ("PropertyShrink$AddTo", "part", "LPropertyShrink$Generator;", true)
  | _ => ("PropertyShrink$AddTo", "more", "I", true)
def ty_AT : Nat → FieldType := fun k => match k with
  | 0 => .int
  | 1 => .object "PropertyShrink$Generator"
  | _ => .int
theorem nm_AT : ∀ a, a < 3 → ∀ b, b < 3 → a ≠ b → (FT_AT a).2.1 ≠ (FT_AT b).2.1 := by decide +kernel
theorem tk_AT : ∀ k, k < 3 → parseFieldDescriptor (FT_AT k).2.2.1 = some (ty_AT k) := by decide +kernel
theorem iw_AT : ∀ w ∈ u_ws "PropertyShrink$AddTo" FT_AT 3, w ∈ mg_GT := mg_in_r [245, 241, 243] (by decide +kernel) (by decide +kernel)
def FT_Pr : u_T := fun k => match k with
  | 0 => ("PropertyShrink$Property", "kind", "I", true)
  | 1 => ("PropertyShrink$Property", "k", "I", true)
  | _ => ("PropertyShrink$Property", "fewest", "I", true)
def ty_Pr : Nat → FieldType := fun k => match k with
  | 0 => .int
  | 1 => .int
  | _ => .int
theorem nm_Pr : ∀ a, a < 3 → ∀ b, b < 3 → a ≠ b → (FT_Pr a).2.1 ≠ (FT_Pr b).2.1 := by decide +kernel
theorem tk_Pr : ∀ k, k < 3 → parseFieldDescriptor (FT_Pr k).2.2.1 = some (ty_Pr k) := by decide +kernel
theorem iw_Pr : ∀ w ∈ u_ws "PropertyShrink$Property" FT_Pr 3, w ∈ mg_GT := mg_in_r [294, 296, 298] (by decide +kernel) (by decide +kernel)
def FT_Kp : u_T := fun k => match k with
  | 0 => ("PropertyShrink$Kept", "generator", "I", true)
  | 1 => ("PropertyShrink$Kept", "property", "I", true)
  | 2 => ("PropertyShrink$Kept", "choices", "LPropertyShrink$Ints;", true)
  | _ => ("PropertyShrink$Kept", "earlier", "LPropertyShrink$Kept;", true)
def ty_Kp : Nat → FieldType := fun k => match k with
  | 0 => .int
  | 1 => .int
  | 2 => .object "PropertyShrink$Ints"
  | _ => .object "PropertyShrink$Kept"
theorem nm_Kp : ∀ a, a < 4 → ∀ b, b < 4 → a ≠ b → (FT_Kp a).2.1 ≠ (FT_Kp b).2.1 := by decide +kernel
theorem tk_Kp : ∀ k, k < 4 → parseFieldDescriptor (FT_Kp k).2.2.1 = some (ty_Kp k) := by decide +kernel
theorem iw_Kp : ∀ w ∈ u_ws "PropertyShrink$Kept" FT_Kp 4, w ∈ mg_GT := mg_in_r [475, 477, 479, 481] (by decide +kernel) (by decide +kernel)
def FT_Mo : u_T := fun k => match k with
  | 0 => ("PropertyShrinkModel", "code", "I", false)
  | 1 => ("PropertyShrinkModel", "generators", "I", false)
  | 2 => ("PropertyShrinkModel", "properties", "I", false)
  | 3 => ("PropertyShrinkModel", "kind", "[I", true)
  | 4 => ("PropertyShrinkModel", "one", "[I", true)
  | 5 => ("PropertyShrinkModel", "two", "[I", true)
  | 6 => ("PropertyShrinkModel", "deep", "[I", true)
  | 7 => ("PropertyShrinkModel", "propertyKind", "[I", true)
  | 8 => ("PropertyShrinkModel", "wanted", "[I", true)
  | 9 => ("PropertyShrinkModel", "least", "[I", true)
  | 10 => ("PropertyShrinkModel", "source", "I", false)
  | 11 => ("PropertyShrinkModel", "taken", "I", false)
  | 12 => ("PropertyShrinkModel", "given", "I", false)
  | 13 => ("PropertyShrinkModel", "size", "I", false)
  | 14 => ("PropertyShrinkModel", "x", "J", false)
  | 15 => ("PropertyShrinkModel", "ill", "Z", false)
  | 16 => ("PropertyShrinkModel", "in", "[I", true)
  | 17 => ("PropertyShrinkModel", "row", "[I", true)
  | 18 => ("PropertyShrinkModel", "top", "[I", true)
  | 19 => ("PropertyShrinkModel", "number", "[I", true)
  | 20 => ("PropertyShrinkModel", "inSize", "I", false)
  | 21 => ("PropertyShrinkModel", "pile", "[I", true)
  | 22 => ("PropertyShrinkModel", "stage", "[I", true)
  | 23 => ("PropertyShrinkModel", "count", "[I", true)
  | 24 => ("PropertyShrinkModel", "start", "[I", true)
  | 25 => ("PropertyShrinkModel", "high", "I", false)
  | 26 => ("PropertyShrinkModel", "foundSize", "I", false)
  | 27 => ("PropertyShrinkModel", "foundGenerator", "I", false)
  | 28 => ("PropertyShrinkModel", "foundProperty", "I", false)
  | 29 => ("PropertyShrinkModel", "foundDoes", "I", false)
  | 30 => ("PropertyShrinkModel", "kepts", "I", false)
  | 31 => ("PropertyShrinkModel", "wastes", "I", false)
  | 32 => ("PropertyShrinkModel", "found", "[I", true)
  | 33 => ("PropertyShrinkModel", "keptGenerator", "[I", true)
  | 34 => ("PropertyShrinkModel", "keptProperty", "[I", true)
  | 35 => ("PropertyShrinkModel", "keptSize", "[I", true)
  | 36 => ("PropertyShrinkModel", "kept", "[I", true)
  | 37 => ("PropertyShrinkModel", "isLeast", "Z", false)
  | 38 => ("PropertyShrinkModel", "told", "[I", true)
  | 39 => ("PropertyShrinkModel", "put", "[I", true)
  | 40 => ("PropertyShrinkModel", "toldMany", "I", false)
  | 41 => ("PropertyShrinkModel", "puts", "I", false)
  | _ => ("PropertyShrinkModel", "sum", "J", false)
def ty_Mo : Nat → FieldType := fun k => match k with
  | 0 => .int
  | 1 => .int
  | 2 => .int
  | 3 => .array .int
  | 4 => .array .int
  | 5 => .array .int
  | 6 => .array .int
  | 7 => .array .int
  | 8 => .array .int
  | 9 => .array .int
  | 10 => .int
  | 11 => .int
  | 12 => .int
  | 13 => .int
  | 14 => .long
  | 15 => .boolean
  | 16 => .array .int
  | 17 => .array .int
  | 18 => .array .int
  | 19 => .array .int
  | 20 => .int
  | 21 => .array .int
  | 22 => .array .int
  | 23 => .array .int
  | 24 => .array .int
  | 25 => .int
  | 26 => .int
  | 27 => .int
  | 28 => .int
  | 29 => .int
  | 30 => .int
  | 31 => .int
  | 32 => .array .int
  | 33 => .array .int
  | 34 => .array .int
  | 35 => .array .int
  | 36 => .array .int
  | 37 => .boolean
  | 38 => .array .int
  | 39 => .array .int
  | 40 => .int
  | 41 => .int
  | _ => .long
theorem nm_Mo : ∀ a, a < 43 → ∀ b, b < 43 → a ≠ b → (FT_Mo a).2.1 ≠ (FT_Mo b).2.1 := by decide +kernel
theorem tk_Mo : ∀ k, k < 43 → parseFieldDescriptor (FT_Mo k).2.2.1 = some (ty_Mo k) := by decide +kernel
theorem iw_Mo : ∀ w ∈ u_ws "PropertyShrinkModel" FT_Mo 43, w ∈ mg_GT := mg_in_r [610, 612, 614, 616, 618, 620, 622, 624, 626, 628, 630, 632, 634, 636, 638, 640, 642, 644, 646, 648, 650, 652, 654, 656, 658, 660, 662, 664, 666, 668, 670, 672, 674, 676, 678, 680, 682, 684, 686, 688, 690, 692, 694] (by decide +kernel) (by decide +kernel)
abbrev mg_cl : List vw_C := [("PropertyShrink", FT_PS, 17), ("PropertyShrink$Ints", FT_In, 2), ("PropertyShrink$Draws", FT_Dr, 8), ("PropertyShrink$IntRange", FT_IR, 3), ("PropertyShrink$ListOf", FT_LO, 3), ("PropertyShrink$PairOf", FT_PO, 3), ("PropertyShrink$OneOf", FT_OO, 3), ("PropertyShrink$KeepOf", FT_KO, 3), ("PropertyShrink$AddTo", FT_AT, 3), ("PropertyShrink$Property", FT_Pr, 3), ("PropertyShrink$Kept", FT_Kp, 4), ("PropertyShrinkModel", FT_Mo, 43)]
abbrev mg_at : List FieldType := [.int, .object "PropertyShrink$Generator", .object "PropertyShrink$Property"]
abbrev mg_AO : List String := ["PropertyShrink$Generator", "PropertyShrink$Property"]
abbrev mg_NW : List Cond := [.methodLinkNest "PropertyShrink" 23 ⟨"PropertyShrink$Ints", "<init>", "()V"⟩ "PropertyShrink", .methodLinkNest "PropertyShrink" 39 ⟨"PropertyShrink$Draws", "<init>", "()V"⟩ "PropertyShrink", .methodLinkNest "PropertyShrink$Draws" 11 ⟨"PropertyShrink$Ints", "<init>", "()V"⟩ "PropertyShrink", .methodLinkNest "PropertyShrink$Kept" 9 ⟨"PropertyShrink$Ints", "<init>", "()V"⟩ "PropertyShrink", .declares ⟨"PropertyShrink$Generator", "give", "(LPropertyShrink$Draws;)V"⟩, .castable "PropertyShrink$AddTo" "PropertyShrink$Generator", .castable "PropertyShrink$IntRange" "PropertyShrink$Generator", .castable "PropertyShrink$KeepOf" "PropertyShrink$Generator", .castable "PropertyShrink$ListOf" "PropertyShrink$Generator", .castable "PropertyShrink$OneOf" "PropertyShrink$Generator", .castable "PropertyShrink$PairOf" "PropertyShrink$Generator"]
theorem mg_NW_in : ∀ w ∈ mg_NW, w ∈ lw_tbl := by decide +kernel
abbrev Y_PS_init : MethodName × ByteArray × Nat × Option FieldType := (⟨"PropertyShrink", "<init>", "()V"⟩, prog_1_method_1_code, 1, none)
abbrev Y_In_init : MethodName × ByteArray × Nat × Option FieldType := (⟨"PropertyShrink$Ints", "<init>", "()V"⟩, prog_6_method_1_code, 1, none)
abbrev Y_Dr_init : MethodName × ByteArray × Nat × Option FieldType := (⟨"PropertyShrink$Draws", "<init>", "()V"⟩, prog_3_method_1_code, 1, none)
abbrev Y_PS_generator : MethodName × ByteArray × Nat × Option FieldType := (⟨"PropertyShrink", "generator", "(III)I"⟩, prog_1_method_2_code, 5, some .int)
abbrev Y_PS_makeGenerator : MethodName × ByteArray × Nat × Option FieldType := (⟨"PropertyShrink", "makeGenerator", "(III)LPropertyShrink$Generator;"⟩, prog_1_method_16_code, 5, some (.object "PropertyShrink$Generator"))
abbrev Y_PS_isNear : MethodName × ByteArray × Nat × Option FieldType := (⟨"PropertyShrink", "isNear", "(I)Z"⟩, prog_1_method_18_code, 1, some .boolean)
abbrev Y_IR_init : MethodName × ByteArray × Nat × Option FieldType := (⟨"PropertyShrink$IntRange", "<init>", "(II)V"⟩, prog_5_method_1_code, 3, none)
abbrev Y_Ge_init : MethodName × ByteArray × Nat × Option FieldType := (⟨"PropertyShrink$Generator", "<init>", "(I)V"⟩, prog_4_method_1_code, 2, none)
abbrev Y_PS_generatorAt : MethodName × ByteArray × Nat × Option FieldType := (⟨"PropertyShrink", "generatorAt", "(I)LPropertyShrink$Generator;"⟩, prog_1_method_14_code, 2, some (.object "PropertyShrink$Generator"))
abbrev Y_LO_init : MethodName × ByteArray × Nat × Option FieldType := (⟨"PropertyShrink$ListOf", "<init>", "(LPropertyShrink$Generator;I)V"⟩, prog_9_method_1_code, 3, none)
abbrev Y_KO_init : MethodName × ByteArray × Nat × Option FieldType := (⟨"PropertyShrink$KeepOf", "<init>", "(LPropertyShrink$Generator;I)V"⟩, prog_7_method_1_code, 3, none)
abbrev Y_AT_init : MethodName × ByteArray × Nat × Option FieldType := (⟨"PropertyShrink$AddTo", "<init>", "(LPropertyShrink$Generator;I)V"⟩, prog_2_method_1_code, 3, none)
abbrev Y_PS_makeOfTwo : MethodName × ByteArray × Nat × Option FieldType := (⟨"PropertyShrink", "makeOfTwo", "(ILPropertyShrink$Generator;LPropertyShrink$Generator;)LPropertyShrink$Generator;"⟩, prog_1_method_17_code, 3, some (.object "PropertyShrink$Generator"))
abbrev Y_PO_init : MethodName × ByteArray × Nat × Option FieldType := (⟨"PropertyShrink$PairOf", "<init>", "(LPropertyShrink$Generator;LPropertyShrink$Generator;)V"⟩, prog_11_method_1_code, 3, none)
abbrev Y_OO_init : MethodName × ByteArray × Nat × Option FieldType := (⟨"PropertyShrink$OneOf", "<init>", "(LPropertyShrink$Generator;LPropertyShrink$Generator;)V"⟩, prog_10_method_1_code, 3, none)
abbrev Y_PS_property : MethodName × ByteArray × Nat × Option FieldType := (⟨"PropertyShrink", "property", "(III)I"⟩, prog_1_method_3_code, 4, some .int)
abbrev Y_Pr_init : MethodName × ByteArray × Nat × Option FieldType := (⟨"PropertyShrink$Property", "<init>", "(III)V"⟩, prog_12_method_1_code, 4, none)
abbrev Y_PS_check : MethodName × ByteArray × Nat × Option FieldType := (⟨"PropertyShrink", "check", "(IIJI)I"⟩, prog_1_method_4_code, 9, some .int)
abbrev Y_PS_propertyAt : MethodName × ByteArray × Nat × Option FieldType := (⟨"PropertyShrink", "propertyAt", "(I)LPropertyShrink$Property;"⟩, prog_1_method_15_code, 2, some (.object "PropertyShrink$Property"))
abbrev Y_PS_findAmongKept : MethodName × ByteArray × Nat × Option FieldType := (⟨"PropertyShrink", "findAmongKept", "(II)Z"⟩, prog_1_method_22_code, 7, some .boolean)
abbrev Y_PS_replayRow : MethodName × ByteArray × Nat × Option FieldType := (⟨"PropertyShrink", "replayRow", "(LPropertyShrink$Generator;LPropertyShrink$Property;LPropertyShrink$Ints;)I"⟩, prog_1_method_19_code, 4, some .int)
abbrev Y_Dr_beginRow : MethodName × ByteArray × Nat × Option FieldType := (⟨"PropertyShrink$Draws", "beginRow", "(LPropertyShrink$Ints;)V"⟩, prog_3_method_3_code, 2, none)
abbrev Y_In_copyFrom : MethodName × ByteArray × Nat × Option FieldType := (⟨"PropertyShrink$Ints", "copyFrom", "(LPropertyShrink$Ints;)V"⟩, prog_6_method_7_code, 2, none)
abbrev Y_In_copyWithout : MethodName × ByteArray × Nat × Option FieldType := (⟨"PropertyShrink$Ints", "copyWithout", "(LPropertyShrink$Ints;II)V"⟩, prog_6_method_8_code, 5, none)
abbrev Y_In_at : MethodName × ByteArray × Nat × Option FieldType := (⟨"PropertyShrink$Ints", "at", "(II)I"⟩, prog_6_method_3_code, 3, some .int)
abbrev Y_In_add : MethodName × ByteArray × Nat × Option FieldType := (⟨"PropertyShrink$Ints", "add", "(I)Z"⟩, prog_6_method_5_code, 2, some .boolean)
abbrev Y_Dr_begin : MethodName × ByteArray × Nat × Option FieldType := (⟨"PropertyShrink$Draws", "begin", "(I)V"⟩, prog_3_method_2_code, 2, none)
abbrev Y_In_cutTo : MethodName × ByteArray × Nat × Option FieldType := (⟨"PropertyShrink$Ints", "cutTo", "(I)V"⟩, prog_6_method_6_code, 2, none)
abbrev Y_AT_give : MethodName × ByteArray × Nat × Option FieldType := (⟨"PropertyShrink$AddTo", "give", "(LPropertyShrink$Draws;)V"⟩, prog_2_method_2_code, 3, none)
abbrev Y_In_length : MethodName × ByteArray × Nat × Option FieldType := (⟨"PropertyShrink$Ints", "length", "()I"⟩, prog_6_method_2_code, 1, some .int)
abbrev Y_IR_give : MethodName × ByteArray × Nat × Option FieldType := (⟨"PropertyShrink$IntRange", "give", "(LPropertyShrink$Draws;)V"⟩, prog_5_method_2_code, 3, none)
abbrev Y_Dr_sizedSpan : MethodName × ByteArray × Nat × Option FieldType := (⟨"PropertyShrink$Draws", "sizedSpan", "(I)I"⟩, prog_3_method_9_code, 2, some .int)
abbrev Y_Dr_draw : MethodName × ByteArray × Nat × Option FieldType := (⟨"PropertyShrink$Draws", "draw", "(II)I"⟩, prog_3_method_8_code, 5, some .int)
abbrev Y_Dr_pick : MethodName × ByteArray × Nat × Option FieldType := (⟨"PropertyShrink$Draws", "pick", "(II)I"⟩, prog_3_method_10_code, 3, some .int)
abbrev Y_Dr_giveNumber : MethodName × ByteArray × Nat × Option FieldType := (⟨"PropertyShrink$Draws", "giveNumber", "(I)V"⟩, prog_3_method_11_code, 2, none)
abbrev Y_KO_give : MethodName × ByteArray × Nat × Option FieldType := (⟨"PropertyShrink$KeepOf", "give", "(LPropertyShrink$Draws;)V"⟩, prog_7_method_2_code, 4, none)
abbrev Y_LO_give : MethodName × ByteArray × Nat × Option FieldType := (⟨"PropertyShrink$ListOf", "give", "(LPropertyShrink$Draws;)V"⟩, prog_9_method_2_code, 3, none)
abbrev Y_OO_give : MethodName × ByteArray × Nat × Option FieldType := (⟨"PropertyShrink$OneOf", "give", "(LPropertyShrink$Draws;)V"⟩, prog_10_method_2_code, 3, none)
abbrev Y_PO_give : MethodName × ByteArray × Nat × Option FieldType := (⟨"PropertyShrink$PairOf", "give", "(LPropertyShrink$Draws;)V"⟩, prog_11_method_2_code, 2, none)
abbrev Y_In_totalFrom : MethodName × ByteArray × Nat × Option FieldType := (⟨"PropertyShrink$Ints", "totalFrom", "(I)J"⟩, prog_6_method_9_code, 5, some .long)
abbrev Y_In_raiseFrom : MethodName × ByteArray × Nat × Option FieldType := (⟨"PropertyShrink$Ints", "raiseFrom", "(II)V"⟩, prog_6_method_10_code, 4, none)
abbrev Y_In_set : MethodName × ByteArray × Nat × Option FieldType := (⟨"PropertyShrink$Ints", "set", "(II)V"⟩, prog_6_method_4_code, 3, none)
abbrev Y_PS_verdictOfDraws : MethodName × ByteArray × Nat × Option FieldType := (⟨"PropertyShrink", "verdictOfDraws", "(LPropertyShrink$Property;)I"⟩, prog_1_method_20_code, 2, some .int)
abbrev Y_Pr_judge : MethodName × ByteArray × Nat × Option FieldType := (⟨"PropertyShrink$Property", "judge", "(LPropertyShrink$Ints;)I"⟩, prog_12_method_2_code, 2, some .int)
abbrev Y_In_has : MethodName × ByteArray × Nat × Option FieldType := (⟨"PropertyShrink$Ints", "has", "(I)Z"⟩, prog_6_method_11_code, 3, some .boolean)
abbrev Y_In_falls : MethodName × ByteArray × Nat × Option FieldType := (⟨"PropertyShrink$Ints", "falls", "()Z"⟩, prog_6_method_12_code, 2, some .boolean)
abbrev Y_PS_isBad : MethodName × ByteArray × Nat × Option FieldType := (⟨"PropertyShrink", "isBad", "(I)Z"⟩, prog_1_method_21_code, 1, some .boolean)
abbrev Y_PS_takeFound : MethodName × ByteArray × Nat × Option FieldType := (⟨"PropertyShrink", "takeFound", "(LPropertyShrink$Generator;LPropertyShrink$Property;I)V"⟩, prog_1_method_24_code, 4, none)
abbrev Y_PS_takeRow : MethodName × ByteArray × Nat × Option FieldType := (⟨"PropertyShrink", "takeRow", "()V"⟩, prog_1_method_25_code, 1, none)
abbrev Y_PS_findBySeed : MethodName × ByteArray × Nat × Option FieldType := (⟨"PropertyShrink", "findBySeed", "(LPropertyShrink$Generator;LPropertyShrink$Property;JI)I"⟩, prog_1_method_23_code, 9, some .int)
abbrev Y_Dr_sow : MethodName × ByteArray × Nat × Option FieldType := (⟨"PropertyShrink$Draws", "sow", "(J)V"⟩, prog_3_method_4_code, 3, none)
abbrev Y_Dr_beginTry : MethodName × ByteArray × Nat × Option FieldType := (⟨"PropertyShrink$Draws", "beginTry", "(I)V"⟩, prog_3_method_5_code, 2, none)
abbrev Y_Kp_init : MethodName × ByteArray × Nat × Option FieldType := (⟨"PropertyShrink$Kept", "<init>", "(IILPropertyShrink$Ints;LPropertyShrink$Kept;)V"⟩, prog_8_method_1_code, 5, none)
abbrev Y_PS_shrink : MethodName × ByteArray × Nat × Option FieldType := (⟨"PropertyShrink", "shrink", "(I)I"⟩, prog_1_method_5_code, 7, some .int)
abbrev Y_PS_makeStep : MethodName × ByteArray × Nat × Option FieldType := (⟨"PropertyShrink", "makeStep", "(I)Z"⟩, prog_1_method_26_code, 3, some .boolean)
abbrev Y_PS_makeDrop : MethodName × ByteArray × Nat × Option FieldType := (⟨"PropertyShrink", "makeDrop", "(I)I"⟩, prog_1_method_27_code, 5, some .int)
abbrev Y_PS_makeLowering : MethodName × ByteArray × Nat × Option FieldType := (⟨"PropertyShrink", "makeLowering", "(I)I"⟩, prog_1_method_28_code, 6, some .int)
abbrev Y_PS_lowered : MethodName × ByteArray × Nat × Option FieldType := (⟨"PropertyShrink", "lowered", "(II)I"⟩, prog_1_method_29_code, 2, some .int)
abbrev Y_PS_makeSwap : MethodName × ByteArray × Nat × Option FieldType := (⟨"PropertyShrink", "makeSwap", "(I)I"⟩, prog_1_method_30_code, 6, some .int)
abbrev Y_PS_least : MethodName × ByteArray × Nat × Option FieldType := (⟨"PropertyShrink", "least", "()Z"⟩, prog_1_method_6_code, 1, some .boolean)
abbrev Y_PS_replay : MethodName × ByteArray × Nat × Option FieldType := (⟨"PropertyShrink", "replay", "(II)I"⟩, prog_1_method_7_code, 6, some .int)
abbrev Y_PS_put : MethodName × ByteArray × Nat × Option FieldType := (⟨"PropertyShrink", "put", "(I)Z"⟩, prog_1_method_8_code, 2, some .boolean)
abbrev Y_PS_choice : MethodName × ByteArray × Nat × Option FieldType := (⟨"PropertyShrink", "choice", "(I)I"⟩, prog_1_method_9_code, 2, some .int)
abbrev Y_PS_size : MethodName × ByteArray × Nat × Option FieldType := (⟨"PropertyShrink", "size", "(I)I"⟩, prog_1_method_10_code, 2, some .int)
abbrev Y_PS_number : MethodName × ByteArray × Nat × Option FieldType := (⟨"PropertyShrink", "number", "(I)I"⟩, prog_1_method_11_code, 2, some .int)
abbrev Y_PS_all : MethodName × ByteArray × Nat × Option FieldType := (⟨"PropertyShrink", "all", "(II)I"⟩, prog_1_method_12_code, 7, some .int)
abbrev Y_Dr_beginFirstTurn : MethodName × ByteArray × Nat × Option FieldType := (⟨"PropertyShrink$Draws", "beginFirstTurn", "()V"⟩, prog_3_method_6_code, 1, none)
abbrev Y_PS_addToRowsSum : MethodName × ByteArray × Nat × Option FieldType := (⟨"PropertyShrink", "addToRowsSum", "(LPropertyShrink$Ints;)V"⟩, prog_1_method_31_code, 3, none)
abbrev Y_Dr_beginNextTurn : MethodName × ByteArray × Nat × Option FieldType := (⟨"PropertyShrink$Draws", "beginNextTurn", "()Z"⟩, prog_3_method_7_code, 3, some .boolean)
abbrev Y_PS_sum : MethodName × ByteArray × Nat × Option FieldType := (⟨"PropertyShrink", "sum", "()J"⟩, prog_1_method_13_code, 1, some .long)
abbrev Y_Mo_init : MethodName × ByteArray × Nat × Option FieldType := (⟨"PropertyShrinkModel", "<init>", "()V"⟩, prog_14_method_1_code, 1, none)
abbrev Y_Mo_generator : MethodName × ByteArray × Nat × Option FieldType := (⟨"PropertyShrinkModel", "generator", "(III)I"⟩, prog_14_method_5_code, 6, some .int)
abbrev Y_Mo_isWithin : MethodName × ByteArray × Nat × Option FieldType := (⟨"PropertyShrinkModel", "isWithin", "(III)Z"⟩, prog_14_method_4_code, 3, some .boolean)
abbrev Y_Mo_isGenerator : MethodName × ByteArray × Nat × Option FieldType := (⟨"PropertyShrinkModel", "isGenerator", "(I)Z"⟩, prog_14_method_3_code, 2, some .boolean)
abbrev Y_Mo_property : MethodName × ByteArray × Nat × Option FieldType := (⟨"PropertyShrinkModel", "property", "(III)I"⟩, prog_14_method_6_code, 4, some .int)
abbrev Y_Mo_check : MethodName × ByteArray × Nat × Option FieldType := (⟨"PropertyShrinkModel", "check", "(IIJI)I"⟩, prog_14_method_18_code, 8, some .int)
abbrev Y_Mo_findKept : MethodName × ByteArray × Nat × Option FieldType := (⟨"PropertyShrinkModel", "findKept", "(II)Z"⟩, prog_14_method_16_code, 5, some .boolean)
abbrev Y_Mo_go : MethodName × ByteArray × Nat × Option FieldType := (⟨"PropertyShrinkModel", "go", "(II)V"⟩, prog_14_method_9_code, 3, none)
abbrev Y_Mo_push : MethodName × ByteArray × Nat × Option FieldType := (⟨"PropertyShrinkModel", "push", "(I)V"⟩, prog_14_method_8_code, 2, none)
abbrev Y_Mo_turn : MethodName × ByteArray × Nat × Option FieldType := (⟨"PropertyShrinkModel", "turn", "(II)V"⟩, prog_14_method_10_code, 6, none)
abbrev Y_Mo_draw : MethodName × ByteArray × Nat × Option FieldType := (⟨"PropertyShrinkModel", "draw", "(IZ)I"⟩, prog_14_method_7_code, 4, some .int)
abbrev Y_Mo_keep : MethodName × ByteArray × Nat × Option FieldType := (⟨"PropertyShrinkModel", "keep", "(III)V"⟩, prog_14_method_11_code, 6, none)
abbrev Y_Mo_does : MethodName × ByteArray × Nat × Option FieldType := (⟨"PropertyShrinkModel", "does", "(I)I"⟩, prog_14_method_12_code, 8, some .int)
abbrev Y_Mo_isBad : MethodName × ByteArray × Nat × Option FieldType := (⟨"PropertyShrinkModel", "isBad", "(I)Z"⟩, prog_14_method_13_code, 1, some .boolean)
abbrev Y_Mo_find : MethodName × ByteArray × Nat × Option FieldType := (⟨"PropertyShrinkModel", "find", "(III)V"⟩, prog_14_method_15_code, 5, none)
abbrev Y_Mo_tell : MethodName × ByteArray × Nat × Option FieldType := (⟨"PropertyShrinkModel", "tell", "()V"⟩, prog_14_method_14_code, 2, none)
abbrev Y_Mo_keepRow : MethodName × ByteArray × Nat × Option FieldType := (⟨"PropertyShrinkModel", "keepRow", "()V"⟩, prog_14_method_17_code, 2, none)
abbrev Y_Mo_shrink : MethodName × ByteArray × Nat × Option FieldType := (⟨"PropertyShrinkModel", "shrink", "(I)I"⟩, prog_14_method_22_code, 5, some .int)
abbrev Y_Mo_make : MethodName × ByteArray × Nat × Option FieldType := (⟨"PropertyShrinkModel", "make", "(I)Z"⟩, prog_14_method_19_code, 6, some .boolean)
abbrev Y_Mo_drop : MethodName × ByteArray × Nat × Option FieldType := (⟨"PropertyShrinkModel", "drop", "(II)Z"⟩, prog_14_method_21_code, 4, some .boolean)
abbrev Y_Mo_copy : MethodName × ByteArray × Nat × Option FieldType := (⟨"PropertyShrinkModel", "copy", "()V"⟩, prog_14_method_20_code, 2, none)
abbrev Y_Mo_least : MethodName × ByteArray × Nat × Option FieldType := (⟨"PropertyShrinkModel", "least", "()Z"⟩, prog_14_method_23_code, 1, some .boolean)
abbrev Y_Mo_put : MethodName × ByteArray × Nat × Option FieldType := (⟨"PropertyShrinkModel", "put", "(I)Z"⟩, prog_14_method_24_code, 2, some .boolean)
abbrev Y_Mo_replay : MethodName × ByteArray × Nat × Option FieldType := (⟨"PropertyShrinkModel", "replay", "(II)I"⟩, prog_14_method_25_code, 4, some .int)
abbrev Y_Mo_choice : MethodName × ByteArray × Nat × Option FieldType := (⟨"PropertyShrinkModel", "choice", "(I)I"⟩, prog_14_method_26_code, 2, some .int)
abbrev Y_Mo_size : MethodName × ByteArray × Nat × Option FieldType := (⟨"PropertyShrinkModel", "size", "(I)I"⟩, prog_14_method_27_code, 2, some .int)
abbrev Y_Mo_number : MethodName × ByteArray × Nat × Option FieldType := (⟨"PropertyShrinkModel", "number", "(I)I"⟩, prog_14_method_28_code, 2, some .int)
abbrev Y_Mo_all : MethodName × ByteArray × Nat × Option FieldType := (⟨"PropertyShrinkModel", "all", "(II)I"⟩, prog_14_method_30_code, 7, some .int)
abbrev Y_Mo_raise : MethodName × ByteArray × Nat × Option FieldType := (⟨"PropertyShrinkModel", "raise", "()Z"⟩, prog_14_method_29_code, 3, some .boolean)
abbrev Y_Mo_sum : MethodName × ByteArray × Nat × Option FieldType := (⟨"PropertyShrinkModel", "sum", "()J"⟩, prog_14_method_31_code, 1, some .long)
