section
/-- a private method of a class that the tables say can be made, by its rows of tables_1 -/
def lw_okq (q : MethodName × Nat) : Prop := (q.1.cls ≠ "java/lang/invoke/MethodHandle" ∧ q.1.cls ≠ "java/lang/invoke/VarHandle") ∧ Cond.instantiable q.1.cls q.2 ∈ tables_1 ∧ Cond.privateMethod q.1 ∈ tables_1 ∧ Cond.instanceMethod q.1 ∈ tables_1
theorem lw_p0 : lw_okq (⟨"PropertyShrink", "makeGenerator", "(III)LPropertyShrink$Generator;"⟩, 17) := ⟨⟨by decide +kernel, by decide +kernel⟩, List.mem_of_getElem? (i := 16) (by decide +kernel), List.mem_of_getElem? (i := 139) (by decide +kernel), List.mem_of_getElem? (i := 140) (by decide +kernel)⟩
theorem lw_p1 : lw_okq (⟨"PropertyShrink", "generatorAt", "(I)LPropertyShrink$Generator;"⟩, 17) := ⟨⟨by decide +kernel, by decide +kernel⟩, List.mem_of_getElem? (i := 16) (by decide +kernel), List.mem_of_getElem? (i := 171) (by decide +kernel), List.mem_of_getElem? (i := 172) (by decide +kernel)⟩
theorem lw_p2 : lw_okq (⟨"PropertyShrink", "propertyAt", "(I)LPropertyShrink$Property;"⟩, 17) := ⟨⟨by decide +kernel, by decide +kernel⟩, List.mem_of_getElem? (i := 16) (by decide +kernel), List.mem_of_getElem? (i := 275) (by decide +kernel), List.mem_of_getElem? (i := 276) (by decide +kernel)⟩
theorem lw_p3 : lw_okq (⟨"PropertyShrink", "findAmongKept", "(II)Z"⟩, 17) := ⟨⟨by decide +kernel, by decide +kernel⟩, List.mem_of_getElem? (i := 16) (by decide +kernel), List.mem_of_getElem? (i := 279) (by decide +kernel), List.mem_of_getElem? (i := 280) (by decide +kernel)⟩
theorem lw_p4 : lw_okq (⟨"PropertyShrink", "replayRow", "(LPropertyShrink$Generator;LPropertyShrink$Property;LPropertyShrink$Ints;)I"⟩, 17) := ⟨⟨by decide +kernel, by decide +kernel⟩, List.mem_of_getElem? (i := 16) (by decide +kernel), List.mem_of_getElem? (i := 283) (by decide +kernel), List.mem_of_getElem? (i := 284) (by decide +kernel)⟩
theorem lw_p5 : lw_okq (⟨"PropertyShrink$Draws", "begin", "(I)V"⟩, 8) := ⟨⟨by decide +kernel, by decide +kernel⟩, List.mem_of_getElem? (i := 42) (by decide +kernel), List.mem_of_getElem? (i := 307) (by decide +kernel), List.mem_of_getElem? (i := 308) (by decide +kernel)⟩
theorem lw_p6 : lw_okq (⟨"PropertyShrink$Draws", "pick", "(II)I"⟩, 8) := ⟨⟨by decide +kernel, by decide +kernel⟩, List.mem_of_getElem? (i := 42) (by decide +kernel), List.mem_of_getElem? (i := 341) (by decide +kernel), List.mem_of_getElem? (i := 342) (by decide +kernel)⟩
theorem lw_p7 : lw_okq (⟨"PropertyShrink", "verdictOfDraws", "(LPropertyShrink$Property;)I"⟩, 17) := ⟨⟨by decide +kernel, by decide +kernel⟩, List.mem_of_getElem? (i := 16) (by decide +kernel), List.mem_of_getElem? (i := 386) (by decide +kernel), List.mem_of_getElem? (i := 387) (by decide +kernel)⟩
theorem lw_p8 : lw_okq (⟨"PropertyShrink", "takeFound", "(LPropertyShrink$Generator;LPropertyShrink$Property;I)V"⟩, 17) := ⟨⟨by decide +kernel, by decide +kernel⟩, List.mem_of_getElem? (i := 16) (by decide +kernel), List.mem_of_getElem? (i := 407) (by decide +kernel), List.mem_of_getElem? (i := 408) (by decide +kernel)⟩
theorem lw_p9 : lw_okq (⟨"PropertyShrink", "takeRow", "()V"⟩, 17) := ⟨⟨by decide +kernel, by decide +kernel⟩, List.mem_of_getElem? (i := 16) (by decide +kernel), List.mem_of_getElem? (i := 411) (by decide +kernel), List.mem_of_getElem? (i := 412) (by decide +kernel)⟩
theorem lw_p10 : lw_okq (⟨"PropertyShrink", "findBySeed", "(LPropertyShrink$Generator;LPropertyShrink$Property;JI)I"⟩, 17) := ⟨⟨by decide +kernel, by decide +kernel⟩, List.mem_of_getElem? (i := 16) (by decide +kernel), List.mem_of_getElem? (i := 416) (by decide +kernel), List.mem_of_getElem? (i := 417) (by decide +kernel)⟩
theorem lw_p11 : lw_okq (⟨"PropertyShrink", "makeStep", "(I)Z"⟩, 17) := ⟨⟨by decide +kernel, by decide +kernel⟩, List.mem_of_getElem? (i := 16) (by decide +kernel), List.mem_of_getElem? (i := 458) (by decide +kernel), List.mem_of_getElem? (i := 459) (by decide +kernel)⟩
theorem lw_p12 : lw_okq (⟨"PropertyShrink", "makeDrop", "(I)I"⟩, 17) := ⟨⟨by decide +kernel, by decide +kernel⟩, List.mem_of_getElem? (i := 16) (by decide +kernel), List.mem_of_getElem? (i := 462) (by decide +kernel), List.mem_of_getElem? (i := 463) (by decide +kernel)⟩
theorem lw_p13 : lw_okq (⟨"PropertyShrink", "makeLowering", "(I)I"⟩, 17) := ⟨⟨by decide +kernel, by decide +kernel⟩, List.mem_of_getElem? (i := 16) (by decide +kernel), List.mem_of_getElem? (i := 469) (by decide +kernel), List.mem_of_getElem? (i := 470) (by decide +kernel)⟩
theorem lw_p14 : lw_okq (⟨"PropertyShrink", "makeSwap", "(I)I"⟩, 17) := ⟨⟨by decide +kernel, by decide +kernel⟩, List.mem_of_getElem? (i := 16) (by decide +kernel), List.mem_of_getElem? (i := 479) (by decide +kernel), List.mem_of_getElem? (i := 480) (by decide +kernel)⟩
theorem lw_p15 : lw_okq (⟨"PropertyShrink", "addToRowsSum", "(LPropertyShrink$Ints;)V"⟩, 17) := ⟨⟨by decide +kernel, by decide +kernel⟩, List.mem_of_getElem? (i := 16) (by decide +kernel), List.mem_of_getElem? (i := 517) (by decide +kernel), List.mem_of_getElem? (i := 518) (by decide +kernel)⟩
def lw_privs_1 : List (MethodName × Nat) := [(⟨"PropertyShrink", "makeGenerator", "(III)LPropertyShrink$Generator;"⟩, 17), (⟨"PropertyShrink", "generatorAt", "(I)LPropertyShrink$Generator;"⟩, 17), (⟨"PropertyShrink", "propertyAt", "(I)LPropertyShrink$Property;"⟩, 17), (⟨"PropertyShrink", "findAmongKept", "(II)Z"⟩, 17), (⟨"PropertyShrink", "replayRow", "(LPropertyShrink$Generator;LPropertyShrink$Property;LPropertyShrink$Ints;)I"⟩, 17), (⟨"PropertyShrink$Draws", "begin", "(I)V"⟩, 8), (⟨"PropertyShrink$Draws", "pick", "(II)I"⟩, 8), (⟨"PropertyShrink", "verdictOfDraws", "(LPropertyShrink$Property;)I"⟩, 17), (⟨"PropertyShrink", "takeFound", "(LPropertyShrink$Generator;LPropertyShrink$Property;I)V"⟩, 17), (⟨"PropertyShrink", "takeRow", "()V"⟩, 17), (⟨"PropertyShrink", "findBySeed", "(LPropertyShrink$Generator;LPropertyShrink$Property;JI)I"⟩, 17), (⟨"PropertyShrink", "makeStep", "(I)Z"⟩, 17), (⟨"PropertyShrink", "makeDrop", "(I)I"⟩, 17), (⟨"PropertyShrink", "makeLowering", "(I)I"⟩, 17), (⟨"PropertyShrink", "makeSwap", "(I)I"⟩, 17), (⟨"PropertyShrink", "addToRowsSum", "(LPropertyShrink$Ints;)V"⟩, 17)]
theorem lw_r1 : ∀ q ∈ lw_privs_1, lw_okq q := List.forall_mem_cons.mpr ⟨lw_p0, List.forall_mem_cons.mpr ⟨lw_p1, List.forall_mem_cons.mpr ⟨lw_p2, List.forall_mem_cons.mpr ⟨lw_p3, List.forall_mem_cons.mpr ⟨lw_p4, List.forall_mem_cons.mpr ⟨lw_p5, List.forall_mem_cons.mpr ⟨lw_p6, List.forall_mem_cons.mpr ⟨lw_p7, List.forall_mem_cons.mpr ⟨lw_p8, List.forall_mem_cons.mpr ⟨lw_p9, List.forall_mem_cons.mpr ⟨lw_p10, List.forall_mem_cons.mpr ⟨lw_p11, List.forall_mem_cons.mpr ⟨lw_p12, List.forall_mem_cons.mpr ⟨lw_p13, List.forall_mem_cons.mpr ⟨lw_p14, List.forall_mem_cons.mpr ⟨lw_p15, fun _ h => absurd h List.not_mem_nil⟩⟩⟩⟩⟩⟩⟩⟩⟩⟩⟩⟩⟩⟩⟩⟩
theorem lw_p16 : lw_okq (⟨"PropertyShrinkModel", "isGenerator", "(I)Z"⟩, 43) := ⟨⟨by decide +kernel, by decide +kernel⟩, List.mem_of_getElem? (i := 531) (by decide +kernel), List.mem_of_getElem? (i := 674) (by decide +kernel), List.mem_of_getElem? (i := 675) (by decide +kernel)⟩
theorem lw_p17 : lw_okq (⟨"PropertyShrinkModel", "findKept", "(II)Z"⟩, 43) := ⟨⟨by decide +kernel, by decide +kernel⟩, List.mem_of_getElem? (i := 531) (by decide +kernel), List.mem_of_getElem? (i := 686) (by decide +kernel), List.mem_of_getElem? (i := 687) (by decide +kernel)⟩
theorem lw_p18 : lw_okq (⟨"PropertyShrinkModel", "go", "(II)V"⟩, 43) := ⟨⟨by decide +kernel, by decide +kernel⟩, List.mem_of_getElem? (i := 531) (by decide +kernel), List.mem_of_getElem? (i := 690) (by decide +kernel), List.mem_of_getElem? (i := 691) (by decide +kernel)⟩
theorem lw_p19 : lw_okq (⟨"PropertyShrinkModel", "push", "(I)V"⟩, 43) := ⟨⟨by decide +kernel, by decide +kernel⟩, List.mem_of_getElem? (i := 531) (by decide +kernel), List.mem_of_getElem? (i := 694) (by decide +kernel), List.mem_of_getElem? (i := 695) (by decide +kernel)⟩
theorem lw_p20 : lw_okq (⟨"PropertyShrinkModel", "turn", "(II)V"⟩, 43) := ⟨⟨by decide +kernel, by decide +kernel⟩, List.mem_of_getElem? (i := 531) (by decide +kernel), List.mem_of_getElem? (i := 698) (by decide +kernel), List.mem_of_getElem? (i := 699) (by decide +kernel)⟩
theorem lw_p21 : lw_okq (⟨"PropertyShrinkModel", "draw", "(IZ)I"⟩, 43) := ⟨⟨by decide +kernel, by decide +kernel⟩, List.mem_of_getElem? (i := 531) (by decide +kernel), List.mem_of_getElem? (i := 702) (by decide +kernel), List.mem_of_getElem? (i := 703) (by decide +kernel)⟩
theorem lw_p22 : lw_okq (⟨"PropertyShrinkModel", "keep", "(III)V"⟩, 43) := ⟨⟨by decide +kernel, by decide +kernel⟩, List.mem_of_getElem? (i := 531) (by decide +kernel), List.mem_of_getElem? (i := 708) (by decide +kernel), List.mem_of_getElem? (i := 709) (by decide +kernel)⟩
theorem lw_p23 : lw_okq (⟨"PropertyShrinkModel", "does", "(I)I"⟩, 43) := ⟨⟨by decide +kernel, by decide +kernel⟩, List.mem_of_getElem? (i := 531) (by decide +kernel), List.mem_of_getElem? (i := 712) (by decide +kernel), List.mem_of_getElem? (i := 713) (by decide +kernel)⟩
theorem lw_p24 : lw_okq (⟨"PropertyShrinkModel", "find", "(III)V"⟩, 43) := ⟨⟨by decide +kernel, by decide +kernel⟩, List.mem_of_getElem? (i := 531) (by decide +kernel), List.mem_of_getElem? (i := 719) (by decide +kernel), List.mem_of_getElem? (i := 720) (by decide +kernel)⟩
theorem lw_p25 : lw_okq (⟨"PropertyShrinkModel", "tell", "()V"⟩, 43) := ⟨⟨by decide +kernel, by decide +kernel⟩, List.mem_of_getElem? (i := 531) (by decide +kernel), List.mem_of_getElem? (i := 723) (by decide +kernel), List.mem_of_getElem? (i := 724) (by decide +kernel)⟩
theorem lw_p26 : lw_okq (⟨"PropertyShrinkModel", "keepRow", "()V"⟩, 43) := ⟨⟨by decide +kernel, by decide +kernel⟩, List.mem_of_getElem? (i := 531) (by decide +kernel), List.mem_of_getElem? (i := 727) (by decide +kernel), List.mem_of_getElem? (i := 728) (by decide +kernel)⟩
theorem lw_p27 : lw_okq (⟨"PropertyShrinkModel", "make", "(I)Z"⟩, 43) := ⟨⟨by decide +kernel, by decide +kernel⟩, List.mem_of_getElem? (i := 531) (by decide +kernel), List.mem_of_getElem? (i := 735) (by decide +kernel), List.mem_of_getElem? (i := 736) (by decide +kernel)⟩
theorem lw_p28 : lw_okq (⟨"PropertyShrinkModel", "drop", "(II)Z"⟩, 43) := ⟨⟨by decide +kernel, by decide +kernel⟩, List.mem_of_getElem? (i := 531) (by decide +kernel), List.mem_of_getElem? (i := 739) (by decide +kernel), List.mem_of_getElem? (i := 740) (by decide +kernel)⟩
theorem lw_p29 : lw_okq (⟨"PropertyShrinkModel", "copy", "()V"⟩, 43) := ⟨⟨by decide +kernel, by decide +kernel⟩, List.mem_of_getElem? (i := 531) (by decide +kernel), List.mem_of_getElem? (i := 743) (by decide +kernel), List.mem_of_getElem? (i := 744) (by decide +kernel)⟩
theorem lw_p30 : lw_okq (⟨"PropertyShrinkModel", "raise", "()Z"⟩, 43) := ⟨⟨by decide +kernel, by decide +kernel⟩, List.mem_of_getElem? (i := 531) (by decide +kernel), List.mem_of_getElem? (i := 777) (by decide +kernel), List.mem_of_getElem? (i := 778) (by decide +kernel)⟩
def lw_privs_2 : List (MethodName × Nat) := [(⟨"PropertyShrinkModel", "isGenerator", "(I)Z"⟩, 43), (⟨"PropertyShrinkModel", "findKept", "(II)Z"⟩, 43), (⟨"PropertyShrinkModel", "go", "(II)V"⟩, 43), (⟨"PropertyShrinkModel", "push", "(I)V"⟩, 43), (⟨"PropertyShrinkModel", "turn", "(II)V"⟩, 43), (⟨"PropertyShrinkModel", "draw", "(IZ)I"⟩, 43), (⟨"PropertyShrinkModel", "keep", "(III)V"⟩, 43), (⟨"PropertyShrinkModel", "does", "(I)I"⟩, 43), (⟨"PropertyShrinkModel", "find", "(III)V"⟩, 43), (⟨"PropertyShrinkModel", "tell", "()V"⟩, 43), (⟨"PropertyShrinkModel", "keepRow", "()V"⟩, 43), (⟨"PropertyShrinkModel", "make", "(I)Z"⟩, 43), (⟨"PropertyShrinkModel", "drop", "(II)Z"⟩, 43), (⟨"PropertyShrinkModel", "copy", "()V"⟩, 43), (⟨"PropertyShrinkModel", "raise", "()Z"⟩, 43)]
theorem lw_r2 : ∀ q ∈ lw_privs_2, lw_okq q := List.forall_mem_cons.mpr ⟨lw_p16, List.forall_mem_cons.mpr ⟨lw_p17, List.forall_mem_cons.mpr ⟨lw_p18, List.forall_mem_cons.mpr ⟨lw_p19, List.forall_mem_cons.mpr ⟨lw_p20, List.forall_mem_cons.mpr ⟨lw_p21, List.forall_mem_cons.mpr ⟨lw_p22, List.forall_mem_cons.mpr ⟨lw_p23, List.forall_mem_cons.mpr ⟨lw_p24, List.forall_mem_cons.mpr ⟨lw_p25, List.forall_mem_cons.mpr ⟨lw_p26, List.forall_mem_cons.mpr ⟨lw_p27, List.forall_mem_cons.mpr ⟨lw_p28, List.forall_mem_cons.mpr ⟨lw_p29, List.forall_mem_cons.mpr ⟨lw_p30, fun _ h => absurd h List.not_mem_nil⟩⟩⟩⟩⟩⟩⟩⟩⟩⟩⟩⟩⟩⟩⟩
def lw_privs : List (MethodName × Nat) := lw_privs_1 ++ (lw_privs_2)
def lw_tbl : List Cond := k2_sels lw_privs ++ tables_1
theorem lw_privs_ok : ∀ q ∈ lw_privs, lw_okq q := by
  show ∀ q ∈ lw_privs_1 ++ (lw_privs_2), lw_okq q
  exact List.forall_mem_append.mpr ⟨lw_r1, lw_r2⟩
end
section
/-! NAMES, by wip/whole/tools/names.py out of claim/JAVAP.txt and the tables -/
def mg_GT : List Cond := lw_tbl.filter goodWord
theorem mg_in {w : Cond} (i : Nat) (h : lw_tbl[i]? = some w) (hg : goodWord w = true) : w ∈ mg_GT := List.mem_filter.mpr ⟨List.mem_of_getElem? h, hg⟩
theorem mg_GT_good (w : Cond) (h : w ∈ mg_GT) : (w.onTables && w.keeps) = true ∨ ∃ ty, w = .arrayClass ty := good_of_word (List.mem_filter.mp h).2
theorem mg_in_r {ws : List Cond} (ps : List Nat) (hp : ws = ps.filterMap (fun i => lw_tbl[i]?)) (h : ws.all goodWord = true) : ∀ w ∈ ws, w ∈ mg_GT := fun w hw => by
  have h1 := List.all_eq_true.mp h w hw
  rw [hp] at hw
  obtain ⟨i, -, hi⟩ := List.mem_filterMap.mp hw
  exact List.mem_filter.mpr ⟨List.mem_of_getElem? hi, h1⟩
def FT_PS : u_T := fun k => match k with
  | 0 => ("PropertyShrink", "generators", "[LPropertyShrink$Generator;", true)
  | 1 => ("PropertyShrink", "generatorCount", "I", false)
  | 2 => ("PropertyShrink", "properties", "[LPropertyShrink$Property;", true)
  | 3 => ("PropertyShrink", "propertyCount", "I", false)
  | 4 => ("PropertyShrink", "latestKept", "LPropertyShrink$Kept;", false)
  | 5 => ("PropertyShrink", "keptCount", "I", false)
  | 6 => ("PropertyShrink", "wastes", "I", false)
  | 7 => ("PropertyShrink", "foundGenerator", "LPropertyShrink$Generator;", false)
  | 8 => ("PropertyShrink", "foundProperty", "LPropertyShrink$Property;", false)
  | 9 => ("PropertyShrink", "foundVerdict", "I", false)
  | 10 => ("PropertyShrink", "rowIsLeast", "Z", false)
  | 11 => ("PropertyShrink", "row", "LPropertyShrink$Ints;", true)
  | 12 => ("PropertyShrink", "numbers", "LPropertyShrink$Ints;", true)
  | 13 => ("PropertyShrink", "puts", "LPropertyShrink$Ints;", true)
  | 14 => ("PropertyShrink", "step", "LPropertyShrink$Ints;", true)
  | 15 => ("PropertyShrink", "draws", "LPropertyShrink$Draws;", true)
  | _ => ("PropertyShrink", "rowsSum", "J", false)
def ty_PS : Nat → FieldType := fun k => match k with
  | 0 => .array (.object "PropertyShrink$Generator")
  | 1 => .int
  | 2 => .array (.object "PropertyShrink$Property")
  | 3 => .int
  | 4 => .object "PropertyShrink$Kept"
  | 5 => .int
  | 6 => .int
  | 7 => .object "PropertyShrink$Generator"
  | 8 => .object "PropertyShrink$Property"
  | 9 => .int
  | 10 => .boolean
  | 11 => .object "PropertyShrink$Ints"
  | 12 => .object "PropertyShrink$Ints"
  | 13 => .object "PropertyShrink$Ints"
  | 14 => .object "PropertyShrink$Ints"
  | 15 => .object "PropertyShrink$Draws"
  | _ => .long
theorem nm_PS : ∀ a, a < 17 → ∀ b, b < 17 → a ≠ b → (FT_PS a).2.1 ≠ (FT_PS b).2.1 := by decide +kernel
theorem tk_PS : ∀ k, k < 17 → parseFieldDescriptor (FT_PS k).2.2.1 = some (ty_PS k) := by decide +kernel
theorem iw_PS : ∀ w ∈ u_ws "PropertyShrink" FT_PS 17, w ∈ mg_GT := mg_in_r [130, 132, 134, 136, 138, 140, 142, 144, 146, 148, 150, 152, 154, 156, 158, 160, 162] (by decide +kernel) (by decide +kernel)
def FT_In : u_T := fun k => match k with
  | 0 => ("PropertyShrink$Ints", "items", "[I", true)
  | _ => ("PropertyShrink$Ints", "count", "I", false)
def ty_In : Nat → FieldType := fun k => match k with
  | 0 => .array .int
  | _ => .int
theorem nm_In : ∀ a, a < 2 → ∀ b, b < 2 → a ≠ b → (FT_In a).2.1 ≠ (FT_In b).2.1 := by decide +kernel
theorem tk_In : ∀ k, k < 2 → parseFieldDescriptor (FT_In k).2.2.1 = some (ty_In k) := by decide +kernel
theorem iw_In : ∀ w ∈ u_ws "PropertyShrink$Ints" FT_In 2, w ∈ mg_GT := mg_in_r [66, 68] (by decide +kernel) (by decide +kernel)
def FT_Dr : u_T := fun k => match k with
  | 0 => ("PropertyShrink$Draws", "choices", "LPropertyShrink$Ints;", true)
  | 1 => ("PropertyShrink$Draws", "numbers", "LPropertyShrink$Ints;", true)
  | 2 => ("PropertyShrink$Draws", "ill", "Z", false)
  | 3 => ("PropertyShrink$Draws", "limits", "[I", true)
  | 4 => ("PropertyShrink$Draws", "given", "LPropertyShrink$Ints;", true)
  | 5 => ("PropertyShrink$Draws", "how", "I", false)
  | 6 => ("PropertyShrink$Draws", "state", "J", false)
  | _ => ("PropertyShrink$Draws", "trySize", "I", false)
def ty_Dr : Nat → FieldType := fun k => match k with
  | 0 => .object "PropertyShrink$Ints"
  | 1 => .object "PropertyShrink$Ints"
  | 2 => .boolean
  | 3 => .array .int
  | 4 => .object "PropertyShrink$Ints"
  | 5 => .int
  | 6 => .long
  | _ => .int
theorem nm_Dr : ∀ a, a < 8 → ∀ b, b < 8 → a ≠ b → (FT_Dr a).2.1 ≠ (FT_Dr b).2.1 := by decide +kernel
theorem tk_Dr : ∀ k, k < 8 → parseFieldDescriptor (FT_Dr k).2.2.1 = some (ty_Dr k) := by decide +kernel
theorem iw_Dr : ∀ w ∈ u_ws "PropertyShrink$Draws" FT_Dr 8, w ∈ mg_GT := mg_in_r [96, 98, 100, 102, 104, 106, 108, 110] (by decide +kernel) (by decide +kernel)
def FT_IR : u_T := fun k => match k with
  | 0 => ("PropertyShrink$Generator", "deep", "I", true)
  | 1 => ("PropertyShrink$IntRange", "low", "I", true)
  | _ => ("PropertyShrink$IntRange", "high", "I", true)
def ty_IR : Nat → FieldType := fun k => match k with
  | 0 => .int
  | 1 => .int
  | _ => .int
theorem nm_IR : ∀ a, a < 3 → ∀ b, b < 3 → a ≠ b → (FT_IR a).2.1 ≠ (FT_IR b).2.1 := by decide +kernel
theorem tk_IR : ∀ k, k < 3 → parseFieldDescriptor (FT_IR k).2.2.1 = some (ty_IR k) := by decide +kernel
theorem iw_IR : ∀ w ∈ u_ws "PropertyShrink$IntRange" FT_IR 3, w ∈ mg_GT := mg_in_r [198, 194, 196] (by decide +kernel) (by decide +kernel)
def FT_LO : u_T := fun k => match k with
  | 0 => ("PropertyShrink$Generator", "deep", "I", true)
  | 1 => ("PropertyShrink$ListOf", "part", "LPropertyShrink$Generator;", true)
  | _ => ("PropertyShrink$ListOf", "most", "I", true)
def ty_LO : Nat → FieldType := fun k => match k with
  | 0 => .int
  | 1 => .object "PropertyShrink$Generator"
  | _ => .int
theorem nm_LO : ∀ a, a < 3 → ∀ b, b < 3 → a ≠ b → (FT_LO a).2.1 ≠ (FT_LO b).2.1 := by decide +kernel
theorem tk_LO : ∀ k, k < 3 → parseFieldDescriptor (FT_LO k).2.2.1 = some (ty_LO k) := by decide +kernel
theorem iw_LO : ∀ w ∈ u_ws "PropertyShrink$ListOf" FT_LO 3, w ∈ mg_GT := mg_in_r [217, 213, 215] (by decide +kernel) (by decide +kernel)
def FT_PO : u_T := fun k => match k with
  | 0 => ("PropertyShrink$Generator", "deep", "I", true)
  | 1 => ("PropertyShrink$PairOf", "first", "LPropertyShrink$Generator;", true)
  | _ => ("PropertyShrink$PairOf", "second", "LPropertyShrink$Generator;", true)
def ty_PO : Nat → FieldType := fun k => match k with
  | 0 => .int
  | 1 => .object "PropertyShrink$Generator"
  | _ => .object "PropertyShrink$Generator"
theorem nm_PO : ∀ a, a < 3 → ∀ b, b < 3 → a ≠ b → (FT_PO a).2.1 ≠ (FT_PO b).2.1 := by decide +kernel
theorem tk_PO : ∀ k, k < 3 → parseFieldDescriptor (FT_PO k).2.2.1 = some (ty_PO k) := by decide +kernel
theorem iw_PO : ∀ w ∈ u_ws "PropertyShrink$PairOf" FT_PO 3, w ∈ mg_GT := mg_in_r [265, 261, 263] (by decide +kernel) (by decide +kernel)
def FT_OO : u_T := fun k => match k with
  | 0 => ("PropertyShrink$Generator", "deep", "I", true)
  | 1 => ("PropertyShrink$OneOf", "first", "LPropertyShrink$Generator;", true)
  | _ => ("PropertyShrink$OneOf", "second", "LPropertyShrink$Generator;", true)
def ty_OO : Nat → FieldType := fun k => match k with
  | 0 => .int
  | 1 => .object "PropertyShrink$Generator"
  | _ => .object "PropertyShrink$Generator"
theorem nm_OO : ∀ a, a < 3 → ∀ b, b < 3 → a ≠ b → (FT_OO a).2.1 ≠ (FT_OO b).2.1 := by decide +kernel
theorem tk_OO : ∀ k, k < 3 → parseFieldDescriptor (FT_OO k).2.2.1 = some (ty_OO k) := by decide +kernel
theorem iw_OO : ∀ w ∈ u_ws "PropertyShrink$OneOf" FT_OO 3, w ∈ mg_GT := mg_in_r [280, 276, 278] (by decide +kernel) (by decide +kernel)
def FT_KO : u_T := fun k => match k with
  | 0 => ("PropertyShrink$Generator", "deep", "I", true)
  | 1 => ("PropertyShrink$KeepOf", "part", "LPropertyShrink$Generator;", true)
  | _ => ("PropertyShrink$KeepOf", "parity", "I", true)
def ty_KO : Nat → FieldType := fun k => match k with
  | 0 => .int
  | 1 => .object "PropertyShrink$Generator"
  | _ => .int
theorem nm_KO : ∀ a, a < 3 → ∀ b, b < 3 → a ≠ b → (FT_KO a).2.1 ≠ (FT_KO b).2.1 := by decide +kernel
theorem tk_KO : ∀ k, k < 3 → parseFieldDescriptor (FT_KO k).2.2.1 = some (ty_KO k) := by decide +kernel
theorem iw_KO : ∀ w ∈ u_ws "PropertyShrink$KeepOf" FT_KO 3, w ∈ mg_GT := mg_in_r [231, 227, 229] (by decide +kernel) (by decide +kernel)
def FT_AT : u_T := fun k => match k with
  | 0 => ("PropertyShrink$Generator", "deep", "I", true)
  | 1 => ("PropertyShrink$AddTo", "part", "LPropertyShrink$Generator;", true)
  | _ => ("PropertyShrink$AddTo", "more", "I", true)
def ty_AT : Nat → FieldType := fun k => match k with
  | 0 => .int
  | 1 => .object "PropertyShrink$Generator"
  | _ => .int
theorem nm_AT : ∀ a, a < 3 → ∀ b, b < 3 → a ≠ b → (FT_AT a).2.1 ≠ (FT_AT b).2.1 := by decide +kernel
theorem tk_AT : ∀ k, k < 3 → parseFieldDescriptor (FT_AT k).2.2.1 = some (ty_AT k) := by decide +kernel
theorem iw_AT : ∀ w ∈ u_ws "PropertyShrink$AddTo" FT_AT 3, w ∈ mg_GT := mg_in_r [245, 241, 243] (by decide +kernel) (by decide +kernel)
def FT_Pr : u_T := fun k => match k with
  | 0 => ("PropertyShrink$Property", "kind", "I", true)
  | 1 => ("PropertyShrink$Property", "k", "I", true)
  | _ => ("PropertyShrink$Property", "fewest", "I", true)
def ty_Pr : Nat → FieldType := fun k => match k with
  | 0 => .int
  | 1 => .int
  | _ => .int
theorem nm_Pr : ∀ a, a < 3 → ∀ b, b < 3 → a ≠ b → (FT_Pr a).2.1 ≠ (FT_Pr b).2.1 := by decide +kernel
theorem tk_Pr : ∀ k, k < 3 → parseFieldDescriptor (FT_Pr k).2.2.1 = some (ty_Pr k) := by decide +kernel
theorem iw_Pr : ∀ w ∈ u_ws "PropertyShrink$Property" FT_Pr 3, w ∈ mg_GT := mg_in_r [294, 296, 298] (by decide +kernel) (by decide +kernel)
def FT_Kp : u_T := fun k => match k with
  | 0 => ("PropertyShrink$Kept", "generator", "I", true)
  | 1 => ("PropertyShrink$Kept", "property", "I", true)
  | 2 => ("PropertyShrink$Kept", "choices", "LPropertyShrink$Ints;", true)
  | _ => ("PropertyShrink$Kept", "earlier", "LPropertyShrink$Kept;", true)
def ty_Kp : Nat → FieldType := fun k => match k with
  | 0 => .int
  | 1 => .int
  | 2 => .object "PropertyShrink$Ints"
  | _ => .object "PropertyShrink$Kept"
theorem nm_Kp : ∀ a, a < 4 → ∀ b, b < 4 → a ≠ b → (FT_Kp a).2.1 ≠ (FT_Kp b).2.1 := by decide +kernel
theorem tk_Kp : ∀ k, k < 4 → parseFieldDescriptor (FT_Kp k).2.2.1 = some (ty_Kp k) := by decide +kernel
theorem iw_Kp : ∀ w ∈ u_ws "PropertyShrink$Kept" FT_Kp 4, w ∈ mg_GT := mg_in_r [475, 477, 479, 481] (by decide +kernel) (by decide +kernel)
def FT_Mo : u_T := fun k => match k with
  | 0 => ("PropertyShrinkModel", "code", "I", false)
  | 1 => ("PropertyShrinkModel", "generators", "I", false)
  | 2 => ("PropertyShrinkModel", "properties", "I", false)
  | 3 => ("PropertyShrinkModel", "kind", "[I", true)
  | 4 => ("PropertyShrinkModel", "one", "[I", true)
  | 5 => ("PropertyShrinkModel", "two", "[I", true)
  | 6 => ("PropertyShrinkModel", "deep", "[I", true)
  | 7 => ("PropertyShrinkModel", "propertyKind", "[I", true)
  | 8 => ("PropertyShrinkModel", "wanted", "[I", true)
  | 9 => ("PropertyShrinkModel", "least", "[I", true)
  | 10 => ("PropertyShrinkModel", "source", "I", false)
  | 11 => ("PropertyShrinkModel", "taken", "I", false)
  | 12 => ("PropertyShrinkModel", "given", "I", false)
  | 13 => ("PropertyShrinkModel", "size", "I", false)
  | 14 => ("PropertyShrinkModel", "x", "J", false)
  | 15 => ("PropertyShrinkModel", "ill", "Z", false)
  | 16 => ("PropertyShrinkModel", "in", "[I", true)
  | 17 => ("PropertyShrinkModel", "row", "[I", true)
  | 18 => ("PropertyShrinkModel", "top", "[I", true)
  | 19 => ("PropertyShrinkModel", "number", "[I", true)
  | 20 => ("PropertyShrinkModel", "inSize", "I", false)
  | 21 => ("PropertyShrinkModel", "pile", "[I", true)
  | 22 => ("PropertyShrinkModel", "stage", "[I", true)
  | 23 => ("PropertyShrinkModel", "count", "[I", true)
  | 24 => ("PropertyShrinkModel", "start", "[I", true)
  | 25 => ("PropertyShrinkModel", "high", "I", false)
  | 26 => ("PropertyShrinkModel", "foundSize", "I", false)
  | 27 => ("PropertyShrinkModel", "foundGenerator", "I", false)
  | 28 => ("PropertyShrinkModel", "foundProperty", "I", false)
  | 29 => ("PropertyShrinkModel", "foundDoes", "I", false)
  | 30 => ("PropertyShrinkModel", "kepts", "I", false)
  | 31 => ("PropertyShrinkModel", "wastes", "I", false)
  | 32 => ("PropertyShrinkModel", "found", "[I", true)
  | 33 => ("PropertyShrinkModel", "keptGenerator", "[I", true)
  | 34 => ("PropertyShrinkModel", "keptProperty", "[I", true)
  | 35 => ("PropertyShrinkModel", "keptSize", "[I", true)
  | 36 => ("PropertyShrinkModel", "kept", "[I", true)
  | 37 => ("PropertyShrinkModel", "isLeast", "Z", false)
  | 38 => ("PropertyShrinkModel", "told", "[I", true)
  | 39 => ("PropertyShrinkModel", "put", "[I", true)
  | 40 => ("PropertyShrinkModel", "toldMany", "I", false)
  | 41 => ("PropertyShrinkModel", "puts", "I", false)
  | _ => ("PropertyShrinkModel", "sum", "J", false)
def ty_Mo : Nat → FieldType := fun k => match k with
  | 0 => .int
  | 1 => .int
  | 2 => .int
  | 3 => .array .int
  | 4 => .array .int
  | 5 => .array .int
  | 6 => .array .int
  | 7 => .array .int
  | 8 => .array .int
  | 9 => .array .int
  | 10 => .int
  | 11 => .int
  | 12 => .int
  | 13 => .int
  | 14 => .long
  | 15 => .boolean
  | 16 => .array .int
  | 17 => .array .int
  | 18 => .array .int
  | 19 => .array .int
  | 20 => .int
  | 21 => .array .int
  | 22 => .array .int
  | 23 => .array .int
  | 24 => .array .int
  | 25 => .int
  | 26 => .int
  | 27 => .int
  | 28 => .int
  | 29 => .int
  | 30 => .int
  | 31 => .int
  | 32 => .array .int
  | 33 => .array .int
  | 34 => .array .int
  | 35 => .array .int
  | 36 => .array .int
  | 37 => .boolean
  | 38 => .array .int
  | 39 => .array .int
  | 40 => .int
  | 41 => .int
  | _ => .long
theorem nm_Mo : ∀ a, a < 43 → ∀ b, b < 43 → a ≠ b → (FT_Mo a).2.1 ≠ (FT_Mo b).2.1 := by decide +kernel
theorem tk_Mo : ∀ k, k < 43 → parseFieldDescriptor (FT_Mo k).2.2.1 = some (ty_Mo k) := by decide +kernel
theorem iw_Mo : ∀ w ∈ u_ws "PropertyShrinkModel" FT_Mo 43, w ∈ mg_GT := mg_in_r [610, 612, 614, 616, 618, 620, 622, 624, 626, 628, 630, 632, 634, 636, 638, 640, 642, 644, 646, 648, 650, 652, 654, 656, 658, 660, 662, 664, 666, 668, 670, 672, 674, 676, 678, 680, 682, 684, 686, 688, 690, 692, 694] (by decide +kernel) (by decide +kernel)
abbrev mg_cl : List vw_C := [("PropertyShrink", FT_PS, 17), ("PropertyShrink$Ints", FT_In, 2), ("PropertyShrink$Draws", FT_Dr, 8), ("PropertyShrink$IntRange", FT_IR, 3), ("PropertyShrink$ListOf", FT_LO, 3), ("PropertyShrink$PairOf", FT_PO, 3), ("PropertyShrink$OneOf", FT_OO, 3), ("PropertyShrink$KeepOf", FT_KO, 3), ("PropertyShrink$AddTo", FT_AT, 3), ("PropertyShrink$Property", FT_Pr, 3), ("PropertyShrink$Kept", FT_Kp, 4), ("PropertyShrinkModel", FT_Mo, 43)]
abbrev mg_at : List FieldType := [.int, .object "PropertyShrink$Generator", .object "PropertyShrink$Property"]
abbrev mg_AO : List String := ["PropertyShrink$Generator", "PropertyShrink$Property"]
abbrev mg_NW : List Cond := [.methodLinkNest "PropertyShrink" 23 ⟨"PropertyShrink$Ints", "<init>", "()V"⟩ "PropertyShrink", .methodLinkNest "PropertyShrink" 39 ⟨"PropertyShrink$Draws", "<init>", "()V"⟩ "PropertyShrink", .methodLinkNest "PropertyShrink$Draws" 11 ⟨"PropertyShrink$Ints", "<init>", "()V"⟩ "PropertyShrink", .methodLinkNest "PropertyShrink$Kept" 9 ⟨"PropertyShrink$Ints", "<init>", "()V"⟩ "PropertyShrink", .declares ⟨"PropertyShrink$Generator", "give", "(LPropertyShrink$Draws;)V"⟩, .castable "PropertyShrink$AddTo" "PropertyShrink$Generator", .castable "PropertyShrink$IntRange" "PropertyShrink$Generator", .castable "PropertyShrink$KeepOf" "PropertyShrink$Generator", .castable "PropertyShrink$ListOf" "PropertyShrink$Generator", .castable "PropertyShrink$OneOf" "PropertyShrink$Generator", .castable "PropertyShrink$PairOf" "PropertyShrink$Generator"]
theorem mg_NW_in : ∀ w ∈ mg_NW, w ∈ lw_tbl := by decide +kernel
abbrev Y_PS_init : MethodName × ByteArray × Nat × Option FieldType := (⟨"PropertyShrink", "<init>", "()V"⟩, prog_1_method_1_code, 1, none)
abbrev Y_In_init : MethodName × ByteArray × Nat × Option FieldType := (⟨"PropertyShrink$Ints", "<init>", "()V"⟩, prog_6_method_1_code, 1, none)
abbrev Y_Dr_init : MethodName × ByteArray × Nat × Option FieldType := (⟨"PropertyShrink$Draws", "<init>", "()V"⟩, prog_3_method_1_code, 1, none)
abbrev Y_PS_generator : MethodName × ByteArray × Nat × Option FieldType := (⟨"PropertyShrink", "generator", "(III)I"⟩, prog_1_method_2_code, 5, some .int)
abbrev Y_PS_makeGenerator : MethodName × ByteArray × Nat × Option FieldType := (⟨"PropertyShrink", "makeGenerator", "(III)LPropertyShrink$Generator;"⟩, prog_1_method_16_code, 5, some (.object "PropertyShrink$Generator"))
abbrev Y_PS_isNear : MethodName × ByteArray × Nat × Option FieldType := (⟨"PropertyShrink", "isNear", "(I)Z"⟩, prog_1_method_18_code, 1, some .boolean)
abbrev Y_IR_init : MethodName × ByteArray × Nat × Option FieldType := (⟨"PropertyShrink$IntRange", "<init>", "(II)V"⟩, prog_5_method_1_code, 3, none)
abbrev Y_Ge_init : MethodName × ByteArray × Nat × Option FieldType := (⟨"PropertyShrink$Generator", "<init>", "(I)V"⟩, prog_4_method_1_code, 2, none)
abbrev Y_PS_generatorAt : MethodName × ByteArray × Nat × Option FieldType := (⟨"PropertyShrink", "generatorAt", "(I)LPropertyShrink$Generator;"⟩, prog_1_method_14_code, 2, some (.object "PropertyShrink$Generator"))
abbrev Y_LO_init : MethodName × ByteArray × Nat × Option FieldType := (⟨"PropertyShrink$ListOf", "<init>", "(LPropertyShrink$Generator;I)V"⟩, prog_9_method_1_code, 3, none)
abbrev Y_KO_init : MethodName × ByteArray × Nat × Option FieldType := (⟨"PropertyShrink$KeepOf", "<init>", "(LPropertyShrink$Generator;I)V"⟩, prog_7_method_1_code, 3, none)
abbrev Y_AT_init : MethodName × ByteArray × Nat × Option FieldType := (⟨"PropertyShrink$AddTo", "<init>", "(LPropertyShrink$Generator;I)V"⟩, prog_2_method_1_code, 3, none)
abbrev Y_PS_makeOfTwo : MethodName × ByteArray × Nat × Option FieldType := (⟨"PropertyShrink", "makeOfTwo", "(ILPropertyShrink$Generator;LPropertyShrink$Generator;)LPropertyShrink$Generator;"⟩, prog_1_method_17_code, 3, some (.object "PropertyShrink$Generator"))
abbrev Y_PO_init : MethodName × ByteArray × Nat × Option FieldType := (⟨"PropertyShrink$PairOf", "<init>", "(LPropertyShrink$Generator;LPropertyShrink$Generator;)V"⟩, prog_11_method_1_code, 3, none)
abbrev Y_OO_init : MethodName × ByteArray × Nat × Option FieldType := (⟨"PropertyShrink$OneOf", "<init>", "(LPropertyShrink$Generator;LPropertyShrink$Generator;)V"⟩, prog_10_method_1_code, 3, none)
abbrev Y_PS_property : MethodName × ByteArray × Nat × Option FieldType := (⟨"PropertyShrink", "property", "(III)I"⟩, prog_1_method_3_code, 4, some .int)
abbrev Y_Pr_init : MethodName × ByteArray × Nat × Option FieldType := (⟨"PropertyShrink$Property", "<init>", "(III)V"⟩, prog_12_method_1_code, 4, none)
abbrev Y_PS_check : MethodName × ByteArray × Nat × Option FieldType := (⟨"PropertyShrink", "check", "(IIJI)I"⟩, prog_1_method_4_code, 9, some .int)
abbrev Y_PS_propertyAt : MethodName × ByteArray × Nat × Option FieldType := (⟨"PropertyShrink", "propertyAt", "(I)LPropertyShrink$Property;"⟩, prog_1_method_15_code, 2, some (.object "PropertyShrink$Property"))
abbrev Y_PS_findAmongKept : MethodName × ByteArray × Nat × Option FieldType := (⟨"PropertyShrink", "findAmongKept", "(II)Z"⟩, prog_1_method_22_code, 7, some .boolean)
abbrev Y_PS_replayRow : MethodName × ByteArray × Nat × Option FieldType := (⟨"PropertyShrink", "replayRow", "(LPropertyShrink$Generator;LPropertyShrink$Property;LPropertyShrink$Ints;)I"⟩, prog_1_method_19_code, 4, some .int)
abbrev Y_Dr_beginRow : MethodName × ByteArray × Nat × Option FieldType := (⟨"PropertyShrink$Draws", "beginRow", "(LPropertyShrink$Ints;)V"⟩, prog_3_method_3_code, 2, none)
abbrev Y_In_copyFrom : MethodName × ByteArray × Nat × Option FieldType := (⟨"PropertyShrink$Ints", "copyFrom", "(LPropertyShrink$Ints;)V"⟩, prog_6_method_7_code, 2, none)
abbrev Y_In_copyWithout : MethodName × ByteArray × Nat × Option FieldType := (⟨"PropertyShrink$Ints", "copyWithout", "(LPropertyShrink$Ints;II)V"⟩, prog_6_method_8_code, 5, none)
abbrev Y_In_at : MethodName × ByteArray × Nat × Option FieldType := (⟨"PropertyShrink$Ints", "at", "(II)I"⟩, prog_6_method_3_code, 3, some .int)
abbrev Y_In_add : MethodName × ByteArray × Nat × Option FieldType := (⟨"PropertyShrink$Ints", "add", "(I)Z"⟩, prog_6_method_5_code, 2, some .boolean)
abbrev Y_Dr_begin : MethodName × ByteArray × Nat × Option FieldType := (⟨"PropertyShrink$Draws", "begin", "(I)V"⟩, prog_3_method_2_code, 2, none)
abbrev Y_In_cutTo : MethodName × ByteArray × Nat × Option FieldType := (⟨"PropertyShrink$Ints", "cutTo", "(I)V"⟩, prog_6_method_6_code, 2, none)
abbrev Y_AT_give : MethodName × ByteArray × Nat × Option FieldType := (⟨"PropertyShrink$AddTo", "give", "(LPropertyShrink$Draws;)V"⟩, prog_2_method_2_code, 3, none)
abbrev Y_In_length : MethodName × ByteArray × Nat × Option FieldType := (⟨"PropertyShrink$Ints", "length", "()I"⟩, prog_6_method_2_code, 1, some .int)
abbrev Y_IR_give : MethodName × ByteArray × Nat × Option FieldType := (⟨"PropertyShrink$IntRange", "give", "(LPropertyShrink$Draws;)V"⟩, prog_5_method_2_code, 3, none)
abbrev Y_Dr_sizedSpan : MethodName × ByteArray × Nat × Option FieldType := (⟨"PropertyShrink$Draws", "sizedSpan", "(I)I"⟩, prog_3_method_9_code, 2, some .int)
abbrev Y_Dr_draw : MethodName × ByteArray × Nat × Option FieldType := (⟨"PropertyShrink$Draws", "draw", "(II)I"⟩, prog_3_method_8_code, 5, some .int)
abbrev Y_Dr_pick : MethodName × ByteArray × Nat × Option FieldType := (⟨"PropertyShrink$Draws", "pick", "(II)I"⟩, prog_3_method_10_code, 3, some .int)
abbrev Y_Dr_giveNumber : MethodName × ByteArray × Nat × Option FieldType := (⟨"PropertyShrink$Draws", "giveNumber", "(I)V"⟩, prog_3_method_11_code, 2, none)
abbrev Y_KO_give : MethodName × ByteArray × Nat × Option FieldType := (⟨"PropertyShrink$KeepOf", "give", "(LPropertyShrink$Draws;)V"⟩, prog_7_method_2_code, 4, none)
abbrev Y_LO_give : MethodName × ByteArray × Nat × Option FieldType := (⟨"PropertyShrink$ListOf", "give", "(LPropertyShrink$Draws;)V"⟩, prog_9_method_2_code, 3, none)
abbrev Y_OO_give : MethodName × ByteArray × Nat × Option FieldType := (⟨"PropertyShrink$OneOf", "give", "(LPropertyShrink$Draws;)V"⟩, prog_10_method_2_code, 3, none)
abbrev Y_PO_give : MethodName × ByteArray × Nat × Option FieldType := (⟨"PropertyShrink$PairOf", "give", "(LPropertyShrink$Draws;)V"⟩, prog_11_method_2_code, 2, none)
abbrev Y_In_totalFrom : MethodName × ByteArray × Nat × Option FieldType := (⟨"PropertyShrink$Ints", "totalFrom", "(I)J"⟩, prog_6_method_9_code, 5, some .long)
abbrev Y_In_raiseFrom : MethodName × ByteArray × Nat × Option FieldType := (⟨"PropertyShrink$Ints", "raiseFrom", "(II)V"⟩, prog_6_method_10_code, 4, none)
abbrev Y_In_set : MethodName × ByteArray × Nat × Option FieldType := (⟨"PropertyShrink$Ints", "set", "(II)V"⟩, prog_6_method_4_code, 3, none)
abbrev Y_PS_verdictOfDraws : MethodName × ByteArray × Nat × Option FieldType := (⟨"PropertyShrink", "verdictOfDraws", "(LPropertyShrink$Property;)I"⟩, prog_1_method_20_code, 2, some .int)
abbrev Y_Pr_judge : MethodName × ByteArray × Nat × Option FieldType := (⟨"PropertyShrink$Property", "judge", "(LPropertyShrink$Ints;)I"⟩, prog_12_method_2_code, 2, some .int)
abbrev Y_In_has : MethodName × ByteArray × Nat × Option FieldType := (⟨"PropertyShrink$Ints", "has", "(I)Z"⟩, prog_6_method_11_code, 3, some .boolean)
abbrev Y_In_falls : MethodName × ByteArray × Nat × Option FieldType := (⟨"PropertyShrink$Ints", "falls", "()Z"⟩, prog_6_method_12_code, 2, some .boolean)
abbrev Y_PS_isBad : MethodName × ByteArray × Nat × Option FieldType := (⟨"PropertyShrink", "isBad", "(I)Z"⟩, prog_1_method_21_code, 1, some .boolean)
abbrev Y_PS_takeFound : MethodName × ByteArray × Nat × Option FieldType := (⟨"PropertyShrink", "takeFound", "(LPropertyShrink$Generator;LPropertyShrink$Property;I)V"⟩, prog_1_method_24_code, 4, none)
abbrev Y_PS_takeRow : MethodName × ByteArray × Nat × Option FieldType := (⟨"PropertyShrink", "takeRow", "()V"⟩, prog_1_method_25_code, 1, none)
abbrev Y_PS_findBySeed : MethodName × ByteArray × Nat × Option FieldType := (⟨"PropertyShrink", "findBySeed", "(LPropertyShrink$Generator;LPropertyShrink$Property;JI)I"⟩, prog_1_method_23_code, 9, some .int)
abbrev Y_Dr_sow : MethodName × ByteArray × Nat × Option FieldType := (⟨"PropertyShrink$Draws", "sow", "(J)V"⟩, prog_3_method_4_code, 3, none)
abbrev Y_Dr_beginTry : MethodName × ByteArray × Nat × Option FieldType := (⟨"PropertyShrink$Draws", "beginTry", "(I)V"⟩, prog_3_method_5_code, 2, none)
abbrev Y_Kp_init : MethodName × ByteArray × Nat × Option FieldType := (⟨"PropertyShrink$Kept", "<init>", "(IILPropertyShrink$Ints;LPropertyShrink$Kept;)V"⟩, prog_8_method_1_code, 5, none)
abbrev Y_PS_shrink : MethodName × ByteArray × Nat × Option FieldType := (⟨"PropertyShrink", "shrink", "(I)I"⟩, prog_1_method_5_code, 7, some .int)
abbrev Y_PS_makeStep : MethodName × ByteArray × Nat × Option FieldType := (⟨"PropertyShrink", "makeStep", "(I)Z"⟩, prog_1_method_26_code, 3, some .boolean)
abbrev Y_PS_makeDrop : MethodName × ByteArray × Nat × Option FieldType := (⟨"PropertyShrink", "makeDrop", "(I)I"⟩, prog_1_method_27_code, 5, some .int)
abbrev Y_PS_makeLowering : MethodName × ByteArray × Nat × Option FieldType := (⟨"PropertyShrink", "makeLowering", "(I)I"⟩, prog_1_method_28_code, 6, some .int)
abbrev Y_PS_lowered : MethodName × ByteArray × Nat × Option FieldType := (⟨"PropertyShrink", "lowered", "(II)I"⟩, prog_1_method_29_code, 2, some .int)
abbrev Y_PS_makeSwap : MethodName × ByteArray × Nat × Option FieldType := (⟨"PropertyShrink", "makeSwap", "(I)I"⟩, prog_1_method_30_code, 6, some .int)
abbrev Y_PS_least : MethodName × ByteArray × Nat × Option FieldType := (⟨"PropertyShrink", "least", "()Z"⟩, prog_1_method_6_code, 1, some .boolean)
abbrev Y_PS_replay : MethodName × ByteArray × Nat × Option FieldType := (⟨"PropertyShrink", "replay", "(II)I"⟩, prog_1_method_7_code, 6, some .int)
abbrev Y_PS_put : MethodName × ByteArray × Nat × Option FieldType := (⟨"PropertyShrink", "put", "(I)Z"⟩, prog_1_method_8_code, 2, some .boolean)
abbrev Y_PS_choice : MethodName × ByteArray × Nat × Option FieldType := (⟨"PropertyShrink", "choice", "(I)I"⟩, prog_1_method_9_code, 2, some .int)
abbrev Y_PS_size : MethodName × ByteArray × Nat × Option FieldType := (⟨"PropertyShrink", "size", "(I)I"⟩, prog_1_method_10_code, 2, some .int)
abbrev Y_PS_number : MethodName × ByteArray × Nat × Option FieldType := (⟨"PropertyShrink", "number", "(I)I"⟩, prog_1_method_11_code, 2, some .int)
abbrev Y_PS_all : MethodName × ByteArray × Nat × Option FieldType := (⟨"PropertyShrink", "all", "(II)I"⟩, prog_1_method_12_code, 7, some .int)
abbrev Y_Dr_beginFirstTurn : MethodName × ByteArray × Nat × Option FieldType := (⟨"PropertyShrink$Draws", "beginFirstTurn", "()V"⟩, prog_3_method_6_code, 1, none)
abbrev Y_PS_addToRowsSum : MethodName × ByteArray × Nat × Option FieldType := (⟨"PropertyShrink", "addToRowsSum", "(LPropertyShrink$Ints;)V"⟩, prog_1_method_31_code, 3, none)
abbrev Y_Dr_beginNextTurn : MethodName × ByteArray × Nat × Option FieldType := (⟨"PropertyShrink$Draws", "beginNextTurn", "()Z"⟩, prog_3_method_7_code, 3, some .boolean)
abbrev Y_PS_sum : MethodName × ByteArray × Nat × Option FieldType := (⟨"PropertyShrink", "sum", "()J"⟩, prog_1_method_13_code, 1, some .long)
abbrev Y_Mo_init : MethodName × ByteArray × Nat × Option FieldType := (⟨"PropertyShrinkModel", "<init>", "()V"⟩, prog_14_method_1_code, 1, none)
abbrev Y_Mo_generator : MethodName × ByteArray × Nat × Option FieldType := (⟨"PropertyShrinkModel", "generator", "(III)I"⟩, prog_14_method_5_code, 6, some .int)
abbrev Y_Mo_isWithin : MethodName × ByteArray × Nat × Option FieldType := (⟨"PropertyShrinkModel", "isWithin", "(III)Z"⟩, prog_14_method_4_code, 3, some .boolean)
abbrev Y_Mo_isGenerator : MethodName × ByteArray × Nat × Option FieldType := (⟨"PropertyShrinkModel", "isGenerator", "(I)Z"⟩, prog_14_method_3_code, 2, some .boolean)
abbrev Y_Mo_property : MethodName × ByteArray × Nat × Option FieldType := (⟨"PropertyShrinkModel", "property", "(III)I"⟩, prog_14_method_6_code, 4, some .int)
abbrev Y_Mo_check : MethodName × ByteArray × Nat × Option FieldType := (⟨"PropertyShrinkModel", "check", "(IIJI)I"⟩, prog_14_method_18_code, 8, some .int)
abbrev Y_Mo_findKept : MethodName × ByteArray × Nat × Option FieldType := (⟨"PropertyShrinkModel", "findKept", "(II)Z"⟩, prog_14_method_16_code, 5, some .boolean)
abbrev Y_Mo_go : MethodName × ByteArray × Nat × Option FieldType := (⟨"PropertyShrinkModel", "go", "(II)V"⟩, prog_14_method_9_code, 3, none)
abbrev Y_Mo_push : MethodName × ByteArray × Nat × Option FieldType := (⟨"PropertyShrinkModel", "push", "(I)V"⟩, prog_14_method_8_code, 2, none)
abbrev Y_Mo_turn : MethodName × ByteArray × Nat × Option FieldType := (⟨"PropertyShrinkModel", "turn", "(II)V"⟩, prog_14_method_10_code, 6, none)
abbrev Y_Mo_draw : MethodName × ByteArray × Nat × Option FieldType := (⟨"PropertyShrinkModel", "draw", "(IZ)I"⟩, prog_14_method_7_code, 4, some .int)
abbrev Y_Mo_keep : MethodName × ByteArray × Nat × Option FieldType := (⟨"PropertyShrinkModel", "keep", "(III)V"⟩, prog_14_method_11_code, 6, none)
abbrev Y_Mo_does : MethodName × ByteArray × Nat × Option FieldType := (⟨"PropertyShrinkModel", "does", "(I)I"⟩, prog_14_method_12_code, 8, some .int)
abbrev Y_Mo_isBad : MethodName × ByteArray × Nat × Option FieldType := (⟨"PropertyShrinkModel", "isBad", "(I)Z"⟩, prog_14_method_13_code, 1, some .boolean)
abbrev Y_Mo_find : MethodName × ByteArray × Nat × Option FieldType := (⟨"PropertyShrinkModel", "find", "(III)V"⟩, prog_14_method_15_code, 5, none)
abbrev Y_Mo_tell : MethodName × ByteArray × Nat × Option FieldType := (⟨"PropertyShrinkModel", "tell", "()V"⟩, prog_14_method_14_code, 2, none)
abbrev Y_Mo_keepRow : MethodName × ByteArray × Nat × Option FieldType := (⟨"PropertyShrinkModel", "keepRow", "()V"⟩, prog_14_method_17_code, 2, none)
abbrev Y_Mo_shrink : MethodName × ByteArray × Nat × Option FieldType := (⟨"PropertyShrinkModel", "shrink", "(I)I"⟩, prog_14_method_22_code, 5, some .int)
abbrev Y_Mo_make : MethodName × ByteArray × Nat × Option FieldType := (⟨"PropertyShrinkModel", "make", "(I)Z"⟩, prog_14_method_19_code, 6, some .boolean)
abbrev Y_Mo_drop : MethodName × ByteArray × Nat × Option FieldType := (⟨"PropertyShrinkModel", "drop", "(II)Z"⟩, prog_14_method_21_code, 4, some .boolean)
abbrev Y_Mo_copy : MethodName × ByteArray × Nat × Option FieldType := (⟨"PropertyShrinkModel", "copy", "()V"⟩, prog_14_method_20_code, 2, none)
abbrev Y_Mo_least : MethodName × ByteArray × Nat × Option FieldType := (⟨"PropertyShrinkModel", "least", "()Z"⟩, prog_14_method_23_code, 1, some .boolean)
abbrev Y_Mo_put : MethodName × ByteArray × Nat × Option FieldType := (⟨"PropertyShrinkModel", "put", "(I)Z"⟩, prog_14_method_24_code, 2, some .boolean)
abbrev Y_Mo_replay : MethodName × ByteArray × Nat × Option FieldType := (⟨"PropertyShrinkModel", "replay", "(II)I"⟩, prog_14_method_25_code, 4, some .int)
abbrev Y_Mo_choice : MethodName × ByteArray × Nat × Option FieldType := (⟨"PropertyShrinkModel", "choice", "(I)I"⟩, prog_14_method_26_code, 2, some .int)
abbrev Y_Mo_size : MethodName × ByteArray × Nat × Option FieldType := (⟨"PropertyShrinkModel", "size", "(I)I"⟩, prog_14_method_27_code, 2, some .int)
abbrev Y_Mo_number : MethodName × ByteArray × Nat × Option FieldType := (⟨"PropertyShrinkModel", "number", "(I)I"⟩, prog_14_method_28_code, 2, some .int)
abbrev Y_Mo_all : MethodName × ByteArray × Nat × Option FieldType := (⟨"PropertyShrinkModel", "all", "(II)I"⟩, prog_14_method_30_code, 7, some .int)
abbrev Y_Mo_raise : MethodName × ByteArray × Nat × Option FieldType := (⟨"PropertyShrinkModel", "raise", "()Z"⟩, prog_14_method_29_code, 3, some .boolean)
abbrev Y_Mo_sum : MethodName × ByteArray × Nat × Option FieldType := (⟨"PropertyShrinkModel", "sum", "()J"⟩, prog_14_method_31_code, 1, some .long)
end
section
/-! MEMORY BY HANDLES: the cells that are ours, each under a number of our choosing (its handle); values name handles; 'ad' says at which address a handle lies. Handle 0 is never ours: it stands for the script. -/
abbrev mg_M : Type := Nat → Option va_E
def mg_up (M : mg_M) (k : Nat) (e : va_E) : mg_M := fun j => if j = k then some e else M j
theorem mg_up_s (M : mg_M) (k : Nat) (e : va_E) : mg_up M k e k = some e := by simp [mg_up]
theorem mg_up_n (M : mg_M) {k j : Nat} (e : va_E) (h : j ≠ k) : mg_up M k e j = M j := by simp [mg_up, h]
theorem mg_up_dom {M : mg_M} {k : Nat} {e : va_E} {j : Nat} (h : M j ≠ none) : mg_up M k e j ≠ none := by
  by_cases hj : j = k
  · subst hj; rw [mg_up_s]; exact fun h => by cases h
  · rw [mg_up_n M e hj]; exact h
theorem mg_up_dom' {M : mg_M} {k : Nat} {e : va_E} {j : Nat} (hk : M k ≠ none) (h : mg_up M k e j ≠ none) : M j ≠ none := by
  by_cases hj : j = k
  · subst hj; exact hk
  · rw [mg_up_n M e hj] at h; exact h
def mg_tr (ad : Nat → Nat) (v : Value) : Value := match v with
  | .ref k => .ref (ad k)
  | v => v
def mg_tA (ad : Nat → Nat) (a : vp_A) : vp_A := match a with
  | (n, .inr (.inr (.inr (.inr f)))) => (n, .inr (.inr (.inr (.inr (fun i => (f i).map ad)))))
  | a => a
/-- the first number of an array is the place of its type in the list of array types -/
def mg_tE (gT : Nat → Nat) (ad : Nat → Nat) (e : va_E) : va_E := match e with
  | .inl (t, a) => .inl (gT t, mg_tA ad a)
  | .inr (ci, fs) => .inr (ci, fs.map (mg_tr ad))
def mg_cv (M : mg_M) (v : Value) : Prop := match v with
  | .ref k => k = 0 ∨ M k ≠ none
  | _ => True
def mg_cA (M : mg_M) (a : vp_A) : Prop := match a with
  | (_, .inr (.inr (.inr (.inr f)))) => ∀ i k, f i = some k → k = 0 ∨ M k ≠ none
  | _ => True
def mg_cE (M : mg_M) (e : va_E) : Prop := match e with
  | .inl (_, a) => mg_cA M a
  | .inr (_, fs) => ∀ v ∈ fs, mg_cv M v
theorem mg_cv.mono {M M' : mg_M} {v : Value} (h : mg_cv M v) (hd : ∀ k, M k ≠ none → M' k ≠ none) : mg_cv M' v := by
  cases v with
  | ref k => exact h.imp id (hd k)
  | _ => trivial
theorem mg_cA.mono {M M' : mg_M} {a : vp_A} (h : mg_cA M a) (hd : ∀ k, M k ≠ none → M' k ≠ none) : mg_cA M' a := by
  obtain ⟨n, f | f | f | f | f⟩ := a
  · trivial
  · trivial
  · trivial
  · trivial
  · exact fun i k hk => (h i k hk).imp id (hd k)
theorem mg_cE.mono {M M' : mg_M} {e : va_E} (h : mg_cE M e) (hd : ∀ k, M k ≠ none → M' k ≠ none) : mg_cE M' e := by
  obtain ⟨t, a⟩ | ⟨ci, fs⟩ := e
  · exact mg_cA.mono h hd
  · exact fun v hv => (h v hv).mono hd
theorem mg_tr_eq {M : mg_M} {ad ad' : Nat → Nat} {v : Value} (h : mg_cv M v) (hd : ∀ k, k = 0 ∨ M k ≠ none → ad' k = ad k) : mg_tr ad' v = mg_tr ad v := by
  cases v with
  | ref k => show Value.ref _ = Value.ref _; rw [hd k h]
  | _ => rfl
theorem mg_tA_eq {M : mg_M} {ad ad' : Nat → Nat} {a : vp_A} (h : mg_cA M a) (hd : ∀ k, k = 0 ∨ M k ≠ none → ad' k = ad k) : mg_tA ad' a = mg_tA ad a := by
  obtain ⟨n, f | f | f | f | f⟩ := a
  · rfl
  · rfl
  · rfl
  · rfl
  · have hf : (fun i => (f i).map ad') = (fun i => (f i).map ad) := by
      funext i
      cases hi : f i with
      | none => rfl
      | some k => show some _ = some _; rw [hd k (h i k hi)]
    show (n, _) = (n, _)
    rw [hf]
theorem mg_tE_eq {M : mg_M} {gT ad ad' : Nat → Nat} {e : va_E} (h : mg_cE M e) (hd : ∀ k, k = 0 ∨ M k ≠ none → ad' k = ad k) : mg_tE gT ad' e = mg_tE gT ad e := by
  obtain ⟨t, a⟩ | ⟨ci, fs⟩ := e
  · show Sum.inl _ = Sum.inl _; rw [mg_tA_eq h hd]
  · have hf : fs.map (mg_tr ad') = fs.map (mg_tr ad) := List.map_congr_left fun v hv => mg_tr_eq (h v hv) hd
    show Sum.inr _ = Sum.inr _; rw [hf]
/-- the heap holds the memory -/
def mg_H (D : va_G) (gT : Nat → Nat) (cl : List vw_C) (A : Nat → Prop) (ad : Nat → Nat) (M : mg_M) (H : Heap) : Prop :=
  (∃ ws : va_W, va_P D cl ws H ∧ va_D A ws ∧ ∀ q : Nat × va_E, q ∈ ws ↔ ∃ (k : Nat) (e : va_E), M k = some e ∧ q = (ad k, mg_tE gT ad e)) ∧ (∀ j k : Nat, M j ≠ none → M k ≠ none → ad j = ad k → j = k) ∧ (∀ (k : Nat) (e : va_E), M k = some e → mg_cE M e) ∧ M 0 = none
theorem mg_some {M : mg_M} {k : Nat} {e : va_E} (h : M k = some e) : M k ≠ none := by rw [h]; exact fun h => by cases h
theorem mg_H.use {D : va_G} {gT : Nat → Nat} {cl : List vw_C} {A : Nat → Prop} {ad : Nat → Nat} {M : mg_M} {H : Heap} (h : mg_H D gT cl A ad M H) {k : Nat} {e : va_E} (hk : M k = some e) :
    ∃ (ws : va_W) (q0 : Nat), va_P D cl ws H ∧ va_D A ws ∧ ws[q0]? = some (ad k, mg_tE gT ad e) ∧ (∀ (k2 : Nat) (e2 : va_E), M k2 = some e2 → ∃ q2 : Nat, ws[q2]? = some (ad k2, mg_tE gT ad e2)) ∧
      ∀ (e' : va_E) (H1 : Heap), mg_cE M e' → va_P D cl (ws.set q0 (ad k, mg_tE gT ad e')) H1 → va_D A (ws.set q0 (ad k, mg_tE gT ad e')) → mg_H D gT cl A ad (mg_up M k e') H1 := by
  obtain ⟨⟨ws, hP, hD, hm⟩, hinj, hcl, h0⟩ := h
  obtain ⟨q0, hq0⟩ := List.getElem?_of_mem ((hm _).mpr ⟨k, e, hk, rfl⟩)
  have hlt := (List.getElem?_eq_some_iff.mp hq0).1
  have hkd := mg_some hk
  refine ⟨ws, q0, hP, hD, hq0, fun k2 e2 h2 => List.getElem?_of_mem ((hm _).mpr ⟨k2, e2, h2, rfl⟩), fun e' H1 hc' hP1 hD1 => ⟨⟨_, hP1, hD1, fun q => ⟨fun hq => ?_, fun hq => ?_⟩⟩, fun i j hi hj => hinj i j (mg_up_dom' hkd hi) (mg_up_dom' hkd hj), fun j e2 hj => ?_, ?_⟩⟩
  · obtain ⟨i, hi⟩ := List.getElem?_of_mem hq
    by_cases hi0 : i = q0
    · subst hi0
      rw [List.getElem?_set_self hlt] at hi
      exact ⟨k, e', mg_up_s _ _ _, (Option.some.inj hi).symm⟩
    · rw [List.getElem?_set_ne (Ne.symm hi0)] at hi
      obtain ⟨k2, e2, h2, rfl⟩ := (hm q).mp (List.mem_of_getElem? hi)
      have hne : k2 ≠ k := fun hkk => hi0 (hD.1 i q0 _ _ hi hq0 (by rw [hkk]))
      exact ⟨k2, e2, by rw [mg_up_n M e' hne]; exact h2, rfl⟩
  · obtain ⟨k2, e2, h2, rfl⟩ := hq
    by_cases hkk : k2 = k
    · subst hkk
      rw [mg_up_s] at h2
      cases h2
      exact List.mem_of_getElem? (List.getElem?_set_self hlt)
    · rw [mg_up_n M e' hkk] at h2
      obtain ⟨i, hi⟩ := List.getElem?_of_mem ((hm _).mpr ⟨k2, e2, h2, rfl⟩)
      have hi0 : i ≠ q0 := fun hii => by
        subst hii
        have := hi.symm.trans hq0
        have h3 := congrArg Prod.fst (Option.some.inj this)
        exact hkk (hinj k2 k (mg_some h2) hkd h3)
      exact List.mem_of_getElem? ((List.getElem?_set_ne (Ne.symm hi0)).trans hi)
  · by_cases hjk : j = k
    · subst hjk
      rw [mg_up_s] at hj
      cases hj
      exact hc'.mono fun _ hd => mg_up_dom hd
    · rw [mg_up_n M e' hjk] at hj
      exact (hcl j e2 hj).mono fun _ hd => mg_up_dom hd
  · have h0k : (0 : Nat) ≠ k := fun h => by subst h; exact hkd h0
    rw [mg_up_n M e' h0k]; exact h0
theorem mg_H.new {D : va_G} {gT : Nat → Nat} {cl : List vw_C} {A : Nat → Prop} {ad : Nat → Nat} {M : mg_M} {H : Heap} (h : mg_H D gT cl A ad M H) :
    ∃ ws : va_W, va_P D cl ws H ∧ va_D A ws ∧ ∀ (k : Nat) (e : va_E) (q : Nat) (H1 : Heap), k ≠ 0 → M k = none → mg_cE M e → va_P D cl (ws ++ [(q, mg_tE gT ad e)]) H1 → va_D A (ws ++ [(q, mg_tE gT ad e)]) → mg_H D gT cl A (va_up ad k q) (mg_up M k e) H1 := by
  obtain ⟨⟨ws, hP, hD, hm⟩, hinj, hcl, h0⟩ := h
  refine ⟨ws, hP, hD, fun k e q H1 hk0 hk hc hP1 hD1 => ?_⟩
  have hd : ∀ j, j = 0 ∨ M j ≠ none → va_up ad k q j = ad j := fun j hj => by
    have : j ≠ k := fun hjk => by
      subst hjk
      rcases hj with hj | hj
      · exact hk0 hj
      · exact hj hk
    simp [va_up, this]
  have hq : va_up ad k q k = q := by simp [va_up]
  have hfresh : ∀ j, M j ≠ none → ad j ≠ q := fun j hj hjq => by
    cases hje : M j with
    | none => exact hj hje
    | some e2 =>
      obtain ⟨i, hi⟩ := List.getElem?_of_mem ((hm _).mpr ⟨j, e2, hje, rfl⟩)
      have hil := (List.getElem?_eq_some_iff.mp hi).1
      have h1 : (ws ++ [(q, mg_tE gT ad e)])[i]? = some (ad j, mg_tE gT ad e2) := by rw [List.getElem?_append_left hil]; exact hi
      have h2 : (ws ++ [(q, mg_tE gT ad e)])[ws.length]? = some (q, mg_tE gT ad e) := by simp
      have := hD1.1 i ws.length _ _ h1 h2 hjq
      omega
  refine ⟨⟨_, hP1, hD1, fun x => ⟨fun hx => ?_, fun hx => ?_⟩⟩, fun i j hi hj hij => ?_, fun j e2 hj => ?_, ?_⟩
  · rcases List.mem_append.mp hx with hx | hx
    · obtain ⟨k2, e2, h2, rfl⟩ := (hm x).mp hx
      have hne : k2 ≠ k := fun hkk => by subst hkk; rw [hk] at h2; cases h2
      refine ⟨k2, e2, by rw [mg_up_n M e hne]; exact h2, ?_⟩
      rw [hd k2 (Or.inr (mg_some h2)), mg_tE_eq (hcl k2 e2 h2) hd]
    · rw [List.mem_singleton] at hx
      subst hx
      refine ⟨k, e, mg_up_s _ _ _, ?_⟩
      rw [hq, mg_tE_eq hc hd]
  · obtain ⟨k2, e2, h2, rfl⟩ := hx
    by_cases hkk : k2 = k
    · subst hkk
      rw [mg_up_s] at h2
      cases h2
      rw [hq, mg_tE_eq hc hd]
      exact List.mem_append_right _ (List.mem_singleton.mpr rfl)
    · rw [mg_up_n M e hkk] at h2
      rw [hd k2 (Or.inr (mg_some h2)), mg_tE_eq (hcl k2 e2 h2) hd]
      exact List.mem_append_left _ ((hm _).mpr ⟨k2, e2, h2, rfl⟩)
  · by_cases hik : i = k
    · by_cases hjk : j = k
      · rw [hik, hjk]
      · rw [mg_up_n M e hjk] at hj
        rw [hik, hq, hd j (Or.inr hj)] at hij
        exact absurd hij.symm (hfresh j hj)
    · rw [mg_up_n M e hik] at hi
      by_cases hjk : j = k
      · rw [hjk, hq, hd i (Or.inr hi)] at hij
        exact absurd hij (hfresh i hi)
      · rw [mg_up_n M e hjk] at hj
        rw [hd i (Or.inr hi), hd j (Or.inr hj)] at hij
        exact hinj i j hi hj hij
  · by_cases hjk : j = k
    · subst hjk
      rw [mg_up_s] at hj
      cases hj
      exact hc.mono fun _ hd => mg_up_dom hd
    · rw [mg_up_n M e hjk] at hj
      exact (hcl j e2 hj).mono fun _ hd => mg_up_dom hd
  · rw [mg_up_n M e (Ne.symm hk0)]; exact h0
theorem mg_H.closed {D : va_G} {gT : Nat → Nat} {cl : List vw_C} {A : Nat → Prop} {ad : Nat → Nat} {M : mg_M} {H : Heap} (h : mg_H D gT cl A ad M H) {k : Nat} {e : va_E} (hk : M k = some e) : mg_cE M e := h.2.2.1 k e hk
theorem mg_H.inA {D : va_G} {gT : Nat → Nat} {cl : List vw_C} {A : Nat → Prop} {ad : Nat → Nat} {M : mg_M} {H : Heap} (h : mg_H D gT cl A ad M H) {k : Nat} (hk : M k ≠ none) : A (ad k) ∧ ad k < H.size := by
  cases he : M k with
  | none => exact absurd he hk
  | some e =>
    obtain ⟨ws, q0, hP, hD, hq, -⟩ := h.use he
    exact ⟨hD.2 q0 _ hq, (hP q0 _ hq).lt⟩
theorem mg_H.weaken {D : va_G} {gT : Nat → Nat} {cl : List vw_C} {A B : Nat → Prop} {ad : Nat → Nat} {M : mg_M} {H : Heap} (h : mg_H D gT cl A ad M H) (hAB : ∀ k, M k ≠ none → B (ad k)) : mg_H D gT cl B ad M H := by
  obtain ⟨⟨ws, hP, hD, hm⟩, h2⟩ := h
  refine ⟨⟨ws, hP, hD.weaken (fun k q hq _ => ?_), hm⟩, h2⟩
  obtain ⟨k2, e2, h3, rfl⟩ := (hm q).mp (List.mem_of_getElem? hq)
  exact hAB k2 (mg_some h3)
theorem mg_H.kept {D : va_G} {gT : Nat → Nat} {cl : List vw_C} {A : Nat → Prop} {ad : Nat → Nat} {M : mg_M} {H H1 : Heap} (h : mg_H D gT cl A ad M H) (hq : ∀ k, M k ≠ none → H1[ad k]? = H[ad k]?) : mg_H D gT cl A ad M H1 := by
  obtain ⟨⟨ws, hP, hD, hm⟩, h2⟩ := h
  refine ⟨⟨ws, hP.kept (fun k q hk => ?_), hD, hm⟩, h2⟩
  obtain ⟨k2, e2, h3, rfl⟩ := (hm q).mp (List.mem_of_getElem? hk)
  exact hq k2 (mg_some h3)
end
section
/-! THE JUDGEMENT 'mg_G': a method at a program counter, over the memory by handles. X: what stands still (the machine, the start's memory); Y: the method. -/
abbrev mg_X : Type := Program × Launch × Env × Room × State × MethodId × Array Value × List Frame × Method × Code × va_G × (Nat → Nat) × mg_M × (Nat → Nat)
abbrev mg_Y : Type := MethodName × ByteArray × Nat × Option FieldType
abbrev mg_cc (Y : mg_Y) : ByteArray := Y.2.1
abbrev mg_ret (Y : mg_Y) : Option FieldType := Y.2.2.2
abbrev mg_own (Y : mg_Y) : String := Y.1.cls
abbrev mg_nl (Y : mg_Y) : Nat := Y.2.2.1
abbrev mg_R (X : mg_X) : Room := X.2.2.2.1
abbrev mg_M0 (X : mg_X) : mg_M := X.2.2.2.2.2.2.2.2.2.2.2.2.1
def mg_isN (w : Cond) : Bool := match w with
  | .fieldLinkNest .. => true
  | .methodLinkNest .. => true
  | .declares .. => true
  | .castable .. => true
  | _ => false
theorem mg_NW_ok : ∀ w ∈ mg_NW, mg_isN w = true := by decide +kernel
/-- what is known of the classes, the arrays' classes, and the links among nest mates -/
def mg_K (D : va_G) (gT : Nat → Nat) (U : State) : Prop := (∀ (c : Nat) (q : vw_C), mg_cl[c]? = some q → u_Kn U q.1 q.2.1 q.2.2 (D.1 c) (D.2 c)) ∧ (∀ (t : Nat) (ty : FieldType), mg_at[t]? = some ty → ArrOfT U (gT t) ty ∧ va_RA U (gT t) ty) ∧ (∀ w ∈ mg_NW, va_Nw w U) ∧ ∀ C ∈ mg_AO, va_AO C U
theorem mg_K.va {D : va_G} {gT : Nat → Nat} {U : State} (h : mg_K D gT U) : va_K D mg_cl [] U := ⟨h.1, fun k q hq => by simp at hq⟩
theorem mg_K.va1 {D : va_G} {gT : Nat → Nat} {U : State} (h : mg_K D gT U) {t : Nat} {ty : FieldType} (ht : mg_at[t]? = some ty) : va_K D mg_cl [(gT t, ty)] U := ⟨h.1, fun k q hq => by
  have hk : k = 0 := by
    have := (List.getElem?_eq_some_iff.mp hq).1
    simp at this
    omega
  subst hk
  cases hq
  exact h.2.1 t ty ht⟩
theorem mg_K.warm {D : va_G} {gT : Nat → Nat} {s U : State} (hW : s.WarmedH U.vm) (h : mg_K D gT s) : mg_K D gT U := by
  refine ⟨fun c q hq => u_Kn_moved hW.alike (h.1 c q hq), fun t ty ht => ⟨arrOfT_moved hW.alike (h.2.1 t ty ht).1, (h.2.1 t ty ht).2.moved hW.alike⟩, fun w hw => ?_, fun C hC => (h.2.2.2 C hC).moved hW.alike⟩
  have h1 := h.2.2.1 w hw
  have h2 := mg_NW_ok w hw
  cases w <;> first | exact va_Nw.warmF hW h1 | exact va_Nw.warmM hW h1 | exact va_Nw.warmD hW h1 | exact va_Nw.warmC hW h1 | (simp [mg_isN] at h2; done)
theorem mg_K.call {D : va_G} {gT : Nat → Nat} {U : State} {g : JFrame} {mk : MethodId} {a : Array Value} (h : mg_K D gT U) : mg_K D gT (U.calling g mk a) := by
  have hW : U.vm.Alike (U.calling g mk a).vm := Vm.Alike.refl U.vm
  refine ⟨fun c q hq => u_Kn_moved hW (h.1 c q hq), fun t ty ht => ⟨arrOfT_moved hW (h.2.1 t ty ht).1, (h.2.1 t ty ht).2.moved hW⟩, fun w hw => ?_, fun C hC => (h.2.2.2 C hC).moved hW⟩
  have h1 := h.2.2.1 w hw
  have h2 := mg_NW_ok w hw
  refine va_Nw.same (u := U) (U := U.calling g mk a) ?_ rfl h1
  cases w <;> first | (simp [mg_isN] at h2; done) | rfl
def mg_A (ad : Nat → Nat) (M : mg_M) (sz : Nat) : Nat → Prop := fun q => (∃ k, M k ≠ none ∧ q = ad k) ∨ sz ≤ q
def mg_cS (M : mg_M) (st : List Value) : Prop := ∀ v ∈ st, mg_cv M v
theorem mg_cS.mono {M M' : mg_M} {st : List Value} (h : mg_cS M st) (hd : ∀ k, M k ≠ none → M' k ≠ none) : mg_cS M' st := fun v hv => (h v hv).mono hd
theorem mg_cS.tl {M : mg_M} {st : List Value} {v : Value} (h : mg_cS M (v :: st)) : mg_cS M st := fun w hw => h w (List.mem_cons_of_mem _ hw)
theorem mg_cS.hd {M : mg_M} {st : List Value} {v : Value} (h : mg_cS M (v :: st)) : mg_cv M v := h v List.mem_cons_self
theorem mg_cS.cons {M : mg_M} {st : List Value} {v : Value} (hv : mg_cv M v) (h : mg_cS M st) : mg_cS M (v :: st) := fun w hw => by
  rcases List.mem_cons.mp hw with rfl | hw
  · exact hv
  · exact h w hw
theorem mg_cS.app {M : mg_M} {a b : List Value} (ha : mg_cS M a) (h : mg_cS M b) : mg_cS M (a ++ b) := fun w hw => by
  rcases List.mem_append.mp hw with hw | hw
  · exact ha w hw
  · exact h w hw
def mg_cL (M : mg_M) (lv : List (Option Value)) : Prop := ∀ (i : Nat) (v : Value), lv[i]? = some (some v) → mg_cv M v
/-- the locals: what stands in the list is held -/
def mg_L (ad : Nat → Nat) (n : Nat) (lv : List (Option Value)) (ls : Array Slot) : Prop := ls.size = n ∧ lv_wf ls ∧ ∀ (i : Nat) (v : Value), lv[i]? = some (some v) → ls[i]? = some (.val (mg_tr ad v))
def mg_C (X : mg_X) (Y : mg_Y) : Prop := match X, Y with
  | (p, _, _, _, s, m, args, _, meth, c, D, gT, _, _), (y, cc, n, ret) => p.tables.exec = Jvm.exec ∧ c.code = cc ∧ meth.sig.returnType = ret ∧ c.maxLocals = n ∧ s.vm.findClass y.cls = some m.cls ∧ (∀ w ∈ mg_GT, w.before args s = true) ∧ mg_K D gT s ∧ meth.locks = false ∧ meth.name = y.name
def mg_G (X : mg_X) (Y : mg_Y) (Q : State → Prop) (M : mg_M) (k j pc : Nat) (lv : List (Option Value)) (st : List Value) : Prop := mg_C X Y → match X, Y with
  | (p, l, e, R, s, m, args, below, meth, c, D, gT, M0, ad0), (_, _, n, _) => ∀ (ad : Nat → Nat) (H : Heap) (locs : List Loc) (ls : Array Slot), mg_H D gT mg_cl (mg_A ad0 M0 s.heap.size) ad M H → mg_L ad n lv ls → (∀ q, (q = 0 ∨ M0 q ≠ none) → (q = 0 ∨ M q ≠ none) ∧ ad q = ad0 q) → mg_cL M lv → mg_cS M st → va_S (mg_A ad0 M0 s.heap.size) s.heap H locs → W p l e R s m args below meth c H locs k j Q (F0 m pc ls (st.map (mg_tr ad)))
section MGR
variable {X : mg_X} {Y : mg_Y} {Q : State → Prop} {M : mg_M} {k j pc : Nat} {lv : List (Option Value)} {rest : List Value}

theorem mg_iconst {z : Int} {v : Int32} (hd : decode (mg_cc Y) pc = .ok (.iconst z, 1)) (hv : Int32.ofInt z = v) (kk : mg_G X Y Q M k j (pc + 1) lv (.int v :: rest)) : mg_G X Y Q M k j pc lv (rest) := by
  obtain ⟨p, l, e, R, s, m, args, below, meth, c, D, gT, M0, ad0⟩ := X
  obtain ⟨yy, cc, n, ret⟩ := Y
  intro hC ad H locs ls hH hL hk hlv hst hS
  exact lv_iconst hC.1 hC.2.1 hd hv (kk hC ad H locs ls hH hL hk hlv (hst.cons trivial) hS)
theorem mg_bipush {z : Int} {v : Int32} (hd : decode (mg_cc Y) pc = .ok (.bipush z, 2)) (hv : (Int8.ofInt z).toInt32 = v) (kk : mg_G X Y Q M k j (pc + 2) lv (.int v :: rest)) : mg_G X Y Q M k j pc lv (rest) := by
  obtain ⟨p, l, e, R, s, m, args, below, meth, c, D, gT, M0, ad0⟩ := X
  obtain ⟨yy, cc, n, ret⟩ := Y
  intro hC ad H locs ls hH hL hk hlv hst hS
  exact lv_bipush hC.1 hC.2.1 hd hv (kk hC ad H locs ls hH hL hk hlv (hst.cons trivial) hS)
theorem mg_sipush {z : Int} {v : Int32} (hd : decode (mg_cc Y) pc = .ok (.sipush z, 3)) (hv : (Int16.ofInt z).toInt32 = v) (kk : mg_G X Y Q M k j (pc + 3) lv (.int v :: rest)) : mg_G X Y Q M k j pc lv (rest) := by
  obtain ⟨p, l, e, R, s, m, args, below, meth, c, D, gT, M0, ad0⟩ := X
  obtain ⟨yy, cc, n, ret⟩ := Y
  intro hC ad H locs ls hH hL hk hlv hst hS
  exact lv_sipush hC.1 hC.2.1 hd hv (kk hC ad H locs ls hH hL hk hlv (hst.cons trivial) hS)
theorem mg_lconst {z : Fin 2} {v : Int64} (hd : decode (mg_cc Y) pc = .ok (.lconst z, 1)) (hv : Int64.ofNat (z : Nat) = v) (kk : mg_G X Y Q M k j (pc + 1) lv (.long v :: rest)) : mg_G X Y Q M k j pc lv (rest) := by
  obtain ⟨p, l, e, R, s, m, args, below, meth, c, D, gT, M0, ad0⟩ := X
  obtain ⟨yy, cc, n, ret⟩ := Y
  intro hC ad H locs ls hH hL hk hlv hst hS
  exact lv_lconst hC.1 hC.2.1 hd hv (kk hC ad H locs ls hH hL hk hlv (hst.cons trivial) hS)
theorem mg_ldc {v : Int32} {ix : Nat} (hd : decode (mg_cc Y) pc = .ok (.ldc ix, 2)) (hw : Cond.constant (mg_own Y) ix v ∈ mg_GT) (kk : mg_G X Y Q M k j (pc + 2) lv (.int v :: rest)) : mg_G X Y Q M k j pc lv (rest) := by
  obtain ⟨p, l, e, R, s, m, args, below, meth, c, D, gT, M0, ad0⟩ := X
  obtain ⟨yy, cc, n, ret⟩ := Y
  intro hC ad H locs ls hH hL hk hlv hst hS
  exact lv_ldc hC.1 hC.2.1 hC.2.2.2.2.1 (hC.2.2.2.2.2.1 _ hw) hd (kk hC ad H locs ls hH hL hk hlv (hst.cons trivial) hS)
theorem mg_ldc2 {v : Int64} {ix : Nat} (hd : decode (mg_cc Y) pc = .ok (.ldc2_w ix, 3)) (hw : Cond.constantLong (mg_own Y) ix v ∈ mg_GT) (kk : mg_G X Y Q M k j (pc + 3) lv (.long v :: rest)) : mg_G X Y Q M k j pc lv (rest) := by
  obtain ⟨p, l, e, R, s, m, args, below, meth, c, D, gT, M0, ad0⟩ := X
  obtain ⟨yy, cc, n, ret⟩ := Y
  intro hC ad H locs ls hH hL hk hlv hst hS
  exact lv_ldc2 hC.1 hC.2.1 hC.2.2.2.2.1 (hC.2.2.2.2.2.1 _ hw) hd (kk hC ad H locs ls hH hL hk hlv (hst.cons trivial) hS)
theorem mg_iload_n {q : Fin 4} {i : Nat} {x : Int32} (hd : decode (mg_cc Y) pc = .ok (.iload_n q, 1)) (hi : (q : Nat) = i) (hl : lv[i]? = some (some (.int x))) (kk : mg_G X Y Q M k j (pc + 1) lv (.int x :: rest)) : mg_G X Y Q M k j pc lv (rest) := by
  obtain ⟨p, l, e, R, s, m, args, below, meth, c, D, gT, M0, ad0⟩ := X
  obtain ⟨yy, cc, n, ret⟩ := Y
  intro hC ad H locs ls hH hL hk hlv hst hS
  exact lv_iload_n hC.1 hC.2.1 hd hi (hL.2.2 i _ hl) (kk hC ad H locs ls hH hL hk hlv (hst.cons trivial) hS)
theorem mg_iload {i : Nat} {x : Int32} (hd : decode (mg_cc Y) pc = .ok (.iload i, 2)) (hl : lv[i]? = some (some (.int x))) (kk : mg_G X Y Q M k j (pc + 2) lv (.int x :: rest)) : mg_G X Y Q M k j pc lv (rest) := by
  obtain ⟨p, l, e, R, s, m, args, below, meth, c, D, gT, M0, ad0⟩ := X
  obtain ⟨yy, cc, n, ret⟩ := Y
  intro hC ad H locs ls hH hL hk hlv hst hS
  exact lv_iload hC.1 hC.2.1 hd (hL.2.2 i _ hl) (kk hC ad H locs ls hH hL hk hlv (hst.cons trivial) hS)
theorem mg_lload_n {q : Fin 4} {i : Nat} {x : Int64} (hd : decode (mg_cc Y) pc = .ok (.lload_n q, 1)) (hi : (q : Nat) = i) (hl : lv[i]? = some (some (.long x))) (kk : mg_G X Y Q M k j (pc + 1) lv (.long x :: rest)) : mg_G X Y Q M k j pc lv (rest) := by
  obtain ⟨p, l, e, R, s, m, args, below, meth, c, D, gT, M0, ad0⟩ := X
  obtain ⟨yy, cc, n, ret⟩ := Y
  intro hC ad H locs ls hH hL hk hlv hst hS
  exact lv_lload_n hC.1 hC.2.1 hd hi (hL.2.2 i _ hl) (kk hC ad H locs ls hH hL hk hlv (hst.cons trivial) hS)
theorem mg_lload {i : Nat} {x : Int64} (hd : decode (mg_cc Y) pc = .ok (.lload i, 2)) (hl : lv[i]? = some (some (.long x))) (kk : mg_G X Y Q M k j (pc + 2) lv (.long x :: rest)) : mg_G X Y Q M k j pc lv (rest) := by
  obtain ⟨p, l, e, R, s, m, args, below, meth, c, D, gT, M0, ad0⟩ := X
  obtain ⟨yy, cc, n, ret⟩ := Y
  intro hC ad H locs ls hH hL hk hlv hst hS
  exact lv_lload hC.1 hC.2.1 hd (hL.2.2 i _ hl) (kk hC ad H locs ls hH hL hk hlv (hst.cons trivial) hS)
theorem mg_aload_n {q : Fin 4} {i : Nat} {x : Nat} (hd : decode (mg_cc Y) pc = .ok (.aload_n q, 1)) (hi : (q : Nat) = i) (hl : lv[i]? = some (some (.ref x))) (kk : mg_G X Y Q M k j (pc + 1) lv (.ref x :: rest)) : mg_G X Y Q M k j pc lv (rest) := by
  obtain ⟨p, l, e, R, s, m, args, below, meth, c, D, gT, M0, ad0⟩ := X
  obtain ⟨yy, cc, n, ret⟩ := Y
  intro hC ad H locs ls hH hL hk hlv hst hS
  exact lv_aload_n hC.1 hC.2.1 hd hi (hL.2.2 i _ hl) (kk hC ad H locs ls hH hL hk hlv (hst.cons (hlv i _ hl)) hS)
theorem mg_aload {i : Nat} {x : Nat} (hd : decode (mg_cc Y) pc = .ok (.aload i, 2)) (hl : lv[i]? = some (some (.ref x))) (kk : mg_G X Y Q M k j (pc + 2) lv (.ref x :: rest)) : mg_G X Y Q M k j pc lv (rest) := by
  obtain ⟨p, l, e, R, s, m, args, below, meth, c, D, gT, M0, ad0⟩ := X
  obtain ⟨yy, cc, n, ret⟩ := Y
  intro hC ad H locs ls hH hL hk hlv hst hS
  exact lv_aload hC.1 hC.2.1 hd (hL.2.2 i _ hl) (kk hC ad H locs ls hH hL hk hlv (hst.cons (hlv i _ hl)) hS)
theorem mg_aload_nN {q : Fin 4} {i : Nat} (hd : decode (mg_cc Y) pc = .ok (.aload_n q, 1)) (hi : (q : Nat) = i) (hl : lv[i]? = some (some .null)) (kk : mg_G X Y Q M k j (pc + 1) lv (.null :: rest)) : mg_G X Y Q M k j pc lv (rest) := by
  obtain ⟨p, l, e, R, s, m, args, below, meth, c, D, gT, M0, ad0⟩ := X
  obtain ⟨yy, cc, n, ret⟩ := Y
  intro hC ad H locs ls hH hL hk hlv hst hS
  exact lv_aload_nN hC.1 hC.2.1 hd hi (hL.2.2 i _ hl) (kk hC ad H locs ls hH hL hk hlv (hst.cons trivial) hS)
theorem mg_aloadN {i : Nat} (hd : decode (mg_cc Y) pc = .ok (.aload i, 2)) (hl : lv[i]? = some (some .null)) (kk : mg_G X Y Q M k j (pc + 2) lv (.null :: rest)) : mg_G X Y Q M k j pc lv (rest) := by
  obtain ⟨p, l, e, R, s, m, args, below, meth, c, D, gT, M0, ad0⟩ := X
  obtain ⟨yy, cc, n, ret⟩ := Y
  intro hC ad H locs ls hH hL hk hlv hst hS
  exact lv_aloadN hC.1 hC.2.1 hd (hL.2.2 i _ hl) (kk hC ad H locs ls hH hL hk hlv (hst.cons trivial) hS)
theorem mg_aconst_null (hd : decode (mg_cc Y) pc = .ok (.aconst_null, 1)) (kk : mg_G X Y Q M k j (pc + 1) lv (.null :: rest)) : mg_G X Y Q M k j pc lv (rest) := by
  obtain ⟨p, l, e, R, s, m, args, below, meth, c, D, gT, M0, ad0⟩ := X
  obtain ⟨yy, cc, n, ret⟩ := Y
  intro hC ad H locs ls hH hL hk hlv hst hS
  exact lv_null hC.1 hC.2.1 hd (kk hC ad H locs ls hH hL hk hlv (hst.cons trivial) hS)
theorem mg_iadd {x y : Int32} (hd : decode (mg_cc Y) pc = .ok (.iadd, 1)) (kk : mg_G X Y Q M k j (pc + 1) lv (.int (x + y) :: rest)) : mg_G X Y Q M k j pc lv (.int y :: .int x :: rest) := by
  obtain ⟨p, l, e, R, s, m, args, below, meth, c, D, gT, M0, ad0⟩ := X
  obtain ⟨yy, cc, n, ret⟩ := Y
  intro hC ad H locs ls hH hL hk hlv hst hS
  exact lv_iadd hC.1 hC.2.1 hd (kk hC ad H locs ls hH hL hk hlv (hst.tl.tl.cons trivial) hS)
theorem mg_isub {x y : Int32} (hd : decode (mg_cc Y) pc = .ok (.isub, 1)) (kk : mg_G X Y Q M k j (pc + 1) lv (.int (x - y) :: rest)) : mg_G X Y Q M k j pc lv (.int y :: .int x :: rest) := by
  obtain ⟨p, l, e, R, s, m, args, below, meth, c, D, gT, M0, ad0⟩ := X
  obtain ⟨yy, cc, n, ret⟩ := Y
  intro hC ad H locs ls hH hL hk hlv hst hS
  exact lv_isub hC.1 hC.2.1 hd (kk hC ad H locs ls hH hL hk hlv (hst.tl.tl.cons trivial) hS)
theorem mg_imul {x y : Int32} (hd : decode (mg_cc Y) pc = .ok (.imul, 1)) (kk : mg_G X Y Q M k j (pc + 1) lv (.int (x * y) :: rest)) : mg_G X Y Q M k j pc lv (.int y :: .int x :: rest) := by
  obtain ⟨p, l, e, R, s, m, args, below, meth, c, D, gT, M0, ad0⟩ := X
  obtain ⟨yy, cc, n, ret⟩ := Y
  intro hC ad H locs ls hH hL hk hlv hst hS
  exact lv_imul hC.1 hC.2.1 hd (kk hC ad H locs ls hH hL hk hlv (hst.tl.tl.cons trivial) hS)
theorem mg_iand {x y : Int32} (hd : decode (mg_cc Y) pc = .ok (.iand, 1)) (kk : mg_G X Y Q M k j (pc + 1) lv (.int (x &&& y) :: rest)) : mg_G X Y Q M k j pc lv (.int y :: .int x :: rest) := by
  obtain ⟨p, l, e, R, s, m, args, below, meth, c, D, gT, M0, ad0⟩ := X
  obtain ⟨yy, cc, n, ret⟩ := Y
  intro hC ad H locs ls hH hL hk hlv hst hS
  exact lv_iand hC.1 hC.2.1 hd (kk hC ad H locs ls hH hL hk hlv (hst.tl.tl.cons trivial) hS)
theorem mg_ior {x y : Int32} (hd : decode (mg_cc Y) pc = .ok (.ior, 1)) (kk : mg_G X Y Q M k j (pc + 1) lv (.int (x ||| y) :: rest)) : mg_G X Y Q M k j pc lv (.int y :: .int x :: rest) := by
  obtain ⟨p, l, e, R, s, m, args, below, meth, c, D, gT, M0, ad0⟩ := X
  obtain ⟨yy, cc, n, ret⟩ := Y
  intro hC ad H locs ls hH hL hk hlv hst hS
  exact lv_ior hC.1 hC.2.1 hd (kk hC ad H locs ls hH hL hk hlv (hst.tl.tl.cons trivial) hS)
theorem mg_ixor {x y : Int32} (hd : decode (mg_cc Y) pc = .ok (.ixor, 1)) (kk : mg_G X Y Q M k j (pc + 1) lv (.int (x ^^^ y) :: rest)) : mg_G X Y Q M k j pc lv (.int y :: .int x :: rest) := by
  obtain ⟨p, l, e, R, s, m, args, below, meth, c, D, gT, M0, ad0⟩ := X
  obtain ⟨yy, cc, n, ret⟩ := Y
  intro hC ad H locs ls hH hL hk hlv hst hS
  exact lv_ixor hC.1 hC.2.1 hd (kk hC ad H locs ls hH hL hk hlv (hst.tl.tl.cons trivial) hS)
theorem mg_ishl {x y : Int32} (hd : decode (mg_cc Y) pc = .ok (.ishl, 1)) (kk : mg_G X Y Q M k j (pc + 1) lv (.int (x <<< (y &&& 31)) :: rest)) : mg_G X Y Q M k j pc lv (.int y :: .int x :: rest) := by
  obtain ⟨p, l, e, R, s, m, args, below, meth, c, D, gT, M0, ad0⟩ := X
  obtain ⟨yy, cc, n, ret⟩ := Y
  intro hC ad H locs ls hH hL hk hlv hst hS
  exact lv_ishl hC.1 hC.2.1 hd (kk hC ad H locs ls hH hL hk hlv (hst.tl.tl.cons trivial) hS)
theorem mg_ishr {x y : Int32} (hd : decode (mg_cc Y) pc = .ok (.ishr, 1)) (kk : mg_G X Y Q M k j (pc + 1) lv (.int (x >>> (y &&& 31)) :: rest)) : mg_G X Y Q M k j pc lv (.int y :: .int x :: rest) := by
  obtain ⟨p, l, e, R, s, m, args, below, meth, c, D, gT, M0, ad0⟩ := X
  obtain ⟨yy, cc, n, ret⟩ := Y
  intro hC ad H locs ls hH hL hk hlv hst hS
  exact lv_ishr hC.1 hC.2.1 hd (kk hC ad H locs ls hH hL hk hlv (hst.tl.tl.cons trivial) hS)
theorem mg_idiv {x y : Int32} (hd : decode (mg_cc Y) pc = .ok (.idiv, 1)) (hne : ¬ y = 0) (kk : mg_G X Y Q M k j (pc + 1) lv (.int (x / y) :: rest)) : mg_G X Y Q M k j pc lv (.int y :: .int x :: rest) := by
  obtain ⟨p, l, e, R, s, m, args, below, meth, c, D, gT, M0, ad0⟩ := X
  obtain ⟨yy, cc, n, ret⟩ := Y
  intro hC ad H locs ls hH hL hk hlv hst hS
  exact lv_idiv hC.1 hC.2.1 hd hne (kk hC ad H locs ls hH hL hk hlv (hst.tl.tl.cons trivial) hS)
theorem mg_irem {x y : Int32} (hd : decode (mg_cc Y) pc = .ok (.irem, 1)) (hne : ¬ y = 0) (kk : mg_G X Y Q M k j (pc + 1) lv (.int (x - x / y * y) :: rest)) : mg_G X Y Q M k j pc lv (.int y :: .int x :: rest) := by
  obtain ⟨p, l, e, R, s, m, args, below, meth, c, D, gT, M0, ad0⟩ := X
  obtain ⟨yy, cc, n, ret⟩ := Y
  intro hC ad H locs ls hH hL hk hlv hst hS
  exact lv_irem hC.1 hC.2.1 hd hne (kk hC ad H locs ls hH hL hk hlv (hst.tl.tl.cons trivial) hS)
theorem mg_ineg {x : Int32} (hd : decode (mg_cc Y) pc = .ok (.ineg, 1)) (kk : mg_G X Y Q M k j (pc + 1) lv (.int (-x) :: rest)) : mg_G X Y Q M k j pc lv (.int x :: rest) := by
  obtain ⟨p, l, e, R, s, m, args, below, meth, c, D, gT, M0, ad0⟩ := X
  obtain ⟨yy, cc, n, ret⟩ := Y
  intro hC ad H locs ls hH hL hk hlv hst hS
  exact lv_ineg hC.1 hC.2.1 hd (kk hC ad H locs ls hH hL hk hlv (hst.tl.cons trivial) hS)
theorem mg_ladd {x y : Int64} (hd : decode (mg_cc Y) pc = .ok (.ladd, 1)) (kk : mg_G X Y Q M k j (pc + 1) lv (.long (x + y) :: rest)) : mg_G X Y Q M k j pc lv (.long y :: .long x :: rest) := by
  obtain ⟨p, l, e, R, s, m, args, below, meth, c, D, gT, M0, ad0⟩ := X
  obtain ⟨yy, cc, n, ret⟩ := Y
  intro hC ad H locs ls hH hL hk hlv hst hS
  exact lv_ladd hC.1 hC.2.1 hd (kk hC ad H locs ls hH hL hk hlv (hst.tl.tl.cons trivial) hS)
theorem mg_lsub {x y : Int64} (hd : decode (mg_cc Y) pc = .ok (.lsub, 1)) (kk : mg_G X Y Q M k j (pc + 1) lv (.long (x - y) :: rest)) : mg_G X Y Q M k j pc lv (.long y :: .long x :: rest) := by
  obtain ⟨p, l, e, R, s, m, args, below, meth, c, D, gT, M0, ad0⟩ := X
  obtain ⟨yy, cc, n, ret⟩ := Y
  intro hC ad H locs ls hH hL hk hlv hst hS
  exact lv_lsub hC.1 hC.2.1 hd (kk hC ad H locs ls hH hL hk hlv (hst.tl.tl.cons trivial) hS)
theorem mg_lmul {x y : Int64} (hd : decode (mg_cc Y) pc = .ok (.lmul, 1)) (kk : mg_G X Y Q M k j (pc + 1) lv (.long (x * y) :: rest)) : mg_G X Y Q M k j pc lv (.long y :: .long x :: rest) := by
  obtain ⟨p, l, e, R, s, m, args, below, meth, c, D, gT, M0, ad0⟩ := X
  obtain ⟨yy, cc, n, ret⟩ := Y
  intro hC ad H locs ls hH hL hk hlv hst hS
  exact lv_lmul hC.1 hC.2.1 hd (kk hC ad H locs ls hH hL hk hlv (hst.tl.tl.cons trivial) hS)
theorem mg_land {x y : Int64} (hd : decode (mg_cc Y) pc = .ok (.land, 1)) (kk : mg_G X Y Q M k j (pc + 1) lv (.long (x &&& y) :: rest)) : mg_G X Y Q M k j pc lv (.long y :: .long x :: rest) := by
  obtain ⟨p, l, e, R, s, m, args, below, meth, c, D, gT, M0, ad0⟩ := X
  obtain ⟨yy, cc, n, ret⟩ := Y
  intro hC ad H locs ls hH hL hk hlv hst hS
  exact lv_land hC.1 hC.2.1 hd (kk hC ad H locs ls hH hL hk hlv (hst.tl.tl.cons trivial) hS)
theorem mg_lor {x y : Int64} (hd : decode (mg_cc Y) pc = .ok (.lor, 1)) (kk : mg_G X Y Q M k j (pc + 1) lv (.long (x ||| y) :: rest)) : mg_G X Y Q M k j pc lv (.long y :: .long x :: rest) := by
  obtain ⟨p, l, e, R, s, m, args, below, meth, c, D, gT, M0, ad0⟩ := X
  obtain ⟨yy, cc, n, ret⟩ := Y
  intro hC ad H locs ls hH hL hk hlv hst hS
  exact lv_lor hC.1 hC.2.1 hd (kk hC ad H locs ls hH hL hk hlv (hst.tl.tl.cons trivial) hS)
theorem mg_lxor {x y : Int64} (hd : decode (mg_cc Y) pc = .ok (.lxor, 1)) (kk : mg_G X Y Q M k j (pc + 1) lv (.long (x ^^^ y) :: rest)) : mg_G X Y Q M k j pc lv (.long y :: .long x :: rest) := by
  obtain ⟨p, l, e, R, s, m, args, below, meth, c, D, gT, M0, ad0⟩ := X
  obtain ⟨yy, cc, n, ret⟩ := Y
  intro hC ad H locs ls hH hL hk hlv hst hS
  exact lv_lxor hC.1 hC.2.1 hd (kk hC ad H locs ls hH hL hk hlv (hst.tl.tl.cons trivial) hS)
theorem mg_ldiv {x y : Int64} (hd : decode (mg_cc Y) pc = .ok (.ldiv, 1)) (hne : ¬ y = 0) (kk : mg_G X Y Q M k j (pc + 1) lv (.long (x / y) :: rest)) : mg_G X Y Q M k j pc lv (.long y :: .long x :: rest) := by
  obtain ⟨p, l, e, R, s, m, args, below, meth, c, D, gT, M0, ad0⟩ := X
  obtain ⟨yy, cc, n, ret⟩ := Y
  intro hC ad H locs ls hH hL hk hlv hst hS
  exact lv_ldiv hC.1 hC.2.1 hd hne (kk hC ad H locs ls hH hL hk hlv (hst.tl.tl.cons trivial) hS)
theorem mg_lrem {x y : Int64} (hd : decode (mg_cc Y) pc = .ok (.lrem, 1)) (hne : ¬ y = 0) (kk : mg_G X Y Q M k j (pc + 1) lv (.long (x - x / y * y) :: rest)) : mg_G X Y Q M k j pc lv (.long y :: .long x :: rest) := by
  obtain ⟨p, l, e, R, s, m, args, below, meth, c, D, gT, M0, ad0⟩ := X
  obtain ⟨yy, cc, n, ret⟩ := Y
  intro hC ad H locs ls hH hL hk hlv hst hS
  exact lv_lrem hC.1 hC.2.1 hd hne (kk hC ad H locs ls hH hL hk hlv (hst.tl.tl.cons trivial) hS)
theorem mg_lushr {x : Int64} {y : Int32} (hd : decode (mg_cc Y) pc = .ok (.lushr, 1)) (kk : mg_G X Y Q M k j (pc + 1) lv (.long (x.toUInt64 >>> (y.toInt64.toUInt64 &&& Int64.toUInt64 63)).toInt64 :: rest)) : mg_G X Y Q M k j pc lv (.int y :: .long x :: rest) := by
  obtain ⟨p, l, e, R, s, m, args, below, meth, c, D, gT, M0, ad0⟩ := X
  obtain ⟨yy, cc, n, ret⟩ := Y
  intro hC ad H locs ls hH hL hk hlv hst hS
  exact lv_lushr hC.1 hC.2.1 hd rfl (kk hC ad H locs ls hH hL hk hlv (hst.tl.tl.cons trivial) hS)
theorem mg_lshl {x : Int64} {y : Int32} (hd : decode (mg_cc Y) pc = .ok (.lshl, 1)) (kk : mg_G X Y Q M k j (pc + 1) lv (.long (x <<< (y.toInt64 &&& 63)) :: rest)) : mg_G X Y Q M k j pc lv (.int y :: .long x :: rest) := by
  obtain ⟨p, l, e, R, s, m, args, below, meth, c, D, gT, M0, ad0⟩ := X
  obtain ⟨yy, cc, n, ret⟩ := Y
  intro hC ad H locs ls hH hL hk hlv hst hS
  exact lv_lshl hC.1 hC.2.1 hd rfl (kk hC ad H locs ls hH hL hk hlv (hst.tl.tl.cons trivial) hS)
theorem mg_iushr {x y : Int32} (hd : decode (mg_cc Y) pc = .ok (.iushr, 1)) (kk : mg_G X Y Q M k j (pc + 1) lv (.int (x.toUInt32 >>> (y.toUInt32 &&& Int32.toUInt32 31)).toInt32 :: rest)) : mg_G X Y Q M k j pc lv (.int y :: .int x :: rest) := by
  obtain ⟨p, l, e, R, s, m, args, below, meth, c, D, gT, M0, ad0⟩ := X
  obtain ⟨yy, cc, n, ret⟩ := Y
  intro hC ad H locs ls hH hL hk hlv hst hS
  exact lv_iushr hC.1 hC.2.1 hd rfl (kk hC ad H locs ls hH hL hk hlv (hst.tl.tl.cons trivial) hS)
theorem mg_i2l {x : Int32} (hd : decode (mg_cc Y) pc = .ok (.i2l, 1)) (kk : mg_G X Y Q M k j (pc + 1) lv (.long x.toInt64 :: rest)) : mg_G X Y Q M k j pc lv (.int x :: rest) := by
  obtain ⟨p, l, e, R, s, m, args, below, meth, c, D, gT, M0, ad0⟩ := X
  obtain ⟨yy, cc, n, ret⟩ := Y
  intro hC ad H locs ls hH hL hk hlv hst hS
  exact lv_i2l hC.1 hC.2.1 hd rfl (kk hC ad H locs ls hH hL hk hlv (hst.tl.cons trivial) hS)
theorem mg_l2i {x : Int64} (hd : decode (mg_cc Y) pc = .ok (.l2i, 1)) (kk : mg_G X Y Q M k j (pc + 1) lv (.int x.toInt32 :: rest)) : mg_G X Y Q M k j pc lv (.long x :: rest) := by
  obtain ⟨p, l, e, R, s, m, args, below, meth, c, D, gT, M0, ad0⟩ := X
  obtain ⟨yy, cc, n, ret⟩ := Y
  intro hC ad H locs ls hH hL hk hlv hst hS
  exact lv_l2i hC.1 hC.2.1 hd rfl (kk hC ad H locs ls hH hL hk hlv (hst.tl.cons trivial) hS)
theorem mg_lcmp {x y : Int64} (hd : decode (mg_cc Y) pc = .ok (.lcmp, 1)) (kk : mg_G X Y Q M k j (pc + 1) lv (.int (lg_cmp x y) :: rest)) : mg_G X Y Q M k j pc lv (.long y :: .long x :: rest) := by
  obtain ⟨p, l, e, R, s, m, args, below, meth, c, D, gT, M0, ad0⟩ := X
  obtain ⟨yy, cc, n, ret⟩ := Y
  intro hC ad H locs ls hH hL hk hlv hst hS
  exact W.lcmp hC.1 hC.2.1 hd (kk hC ad H locs ls hH hL hk hlv (hst.tl.tl.cons trivial) hS)
theorem mg_tr_cat (ad : Nat → Nat) (v : Value) : (mg_tr ad v).category = v.category := by cases v <;> rfl
theorem mg_dup {v : Value} (hd : decode (mg_cc Y) pc = .ok (.dup, 1)) (hv : v.category = 1) (kk : mg_G X Y Q M k j (pc + 1) lv (v :: v :: rest)) : mg_G X Y Q M k j pc lv (v :: rest) := by
  obtain ⟨p, l, e, R, s, m, args, below, meth, c, D, gT, M0, ad0⟩ := X
  obtain ⟨yy, cc, n, ret⟩ := Y
  intro hC ad H locs ls hH hL hk hlv hst hS
  exact lv_dup hC.1 hC.2.1 hd ((mg_tr_cat ad v).trans hv) (kk hC ad H locs ls hH hL hk hlv (hst.cons hst.hd) hS)
theorem mg_pop {v : Value} (hd : decode (mg_cc Y) pc = .ok (.pop, 1)) (hv : v.category = 1) (kk : mg_G X Y Q M k j (pc + 1) lv (rest)) : mg_G X Y Q M k j pc lv (v :: rest) := by
  obtain ⟨p, l, e, R, s, m, args, below, meth, c, D, gT, M0, ad0⟩ := X
  obtain ⟨yy, cc, n, ret⟩ := Y
  intro hC ad H locs ls hH hL hk hlv hst hS
  exact lv_pop hC.1 hC.2.1 hd ((mg_tr_cat ad v).trans hv) (kk hC ad H locs ls hH hL hk hlv (hst.tl) hS)
theorem mg_dup_x1 {v w : Value} (hd : decode (mg_cc Y) pc = .ok (.dup_x1, 1)) (hv : v.category = 1) (hw : w.category = 1) (kk : mg_G X Y Q M k j (pc + 1) lv (v :: w :: v :: rest)) : mg_G X Y Q M k j pc lv (v :: w :: rest) := by
  obtain ⟨p, l, e, R, s, m, args, below, meth, c, D, gT, M0, ad0⟩ := X
  obtain ⟨yy, cc, n, ret⟩ := Y
  intro hC ad H locs ls hH hL hk hlv hst hS
  exact lv_dup_x1 hC.1 hC.2.1 hd ((mg_tr_cat ad v).trans hv) ((mg_tr_cat ad w).trans hw) (kk hC ad H locs ls hH hL hk hlv (((hst.tl.tl.cons hst.hd).cons hst.tl.hd).cons hst.hd) hS)
theorem mg_dup_x2 {v w z : Value} (hd : decode (mg_cc Y) pc = .ok (.dup_x2, 1)) (hv : v.category = 1) (hw : w.category = 1) (hz : z.category = 1) (kk : mg_G X Y Q M k j (pc + 1) lv (v :: w :: z :: v :: rest)) : mg_G X Y Q M k j pc lv (v :: w :: z :: rest) := by
  obtain ⟨p, l, e, R, s, m, args, below, meth, c, D, gT, M0, ad0⟩ := X
  obtain ⟨yy, cc, n, ret⟩ := Y
  intro hC ad H locs ls hH hL hk hlv hst hS
  exact lv_dup_x2 hC.1 hC.2.1 hd ((mg_tr_cat ad v).trans hv) ((mg_tr_cat ad w).trans hw) ((mg_tr_cat ad z).trans hz) (kk hC ad H locs ls hH hL hk hlv ((((hst.tl.tl.tl.cons hst.hd).cons hst.tl.tl.hd).cons hst.tl.hd).cons hst.hd) hS)
theorem mg_dup2 {v w : Value} (hd : decode (mg_cc Y) pc = .ok (.dup2, 1)) (hv : v.category = 1) (hw : w.category = 1) (kk : mg_G X Y Q M k j (pc + 1) lv (v :: w :: v :: w :: rest)) : mg_G X Y Q M k j pc lv (v :: w :: rest) := by
  obtain ⟨p, l, e, R, s, m, args, below, meth, c, D, gT, M0, ad0⟩ := X
  obtain ⟨yy, cc, n, ret⟩ := Y
  intro hC ad H locs ls hH hL hk hlv hst hS
  exact lv_dup2_11 hC.1 hC.2.1 hd ((mg_tr_cat ad v).trans hv) ((mg_tr_cat ad w).trans hw) (kk hC ad H locs ls hH hL hk hlv ((hst.cons hst.tl.hd).cons hst.hd) hS)
theorem mg_dup2L {v : Value} (hd : decode (mg_cc Y) pc = .ok (.dup2, 1)) (hv : v.category = 2) (kk : mg_G X Y Q M k j (pc + 1) lv (v :: v :: rest)) : mg_G X Y Q M k j pc lv (v :: rest) := by
  obtain ⟨p, l, e, R, s, m, args, below, meth, c, D, gT, M0, ad0⟩ := X
  obtain ⟨yy, cc, n, ret⟩ := Y
  intro hC ad H locs ls hH hL hk hlv hst hS
  exact lv_dup2_2 hC.1 hC.2.1 hd ((mg_tr_cat ad v).trans hv) (kk hC ad H locs ls hH hL hk hlv (hst.cons hst.hd) hS)
theorem mg_dup2_x1L {v w : Value} (hd : decode (mg_cc Y) pc = .ok (.dup2_x1, 1)) (hv : v.category = 2) (hw : w.category = 1) (kk : mg_G X Y Q M k j (pc + 1) lv (v :: w :: v :: rest)) : mg_G X Y Q M k j pc lv (v :: w :: rest) := by
  obtain ⟨p, l, e, R, s, m, args, below, meth, c, D, gT, M0, ad0⟩ := X
  obtain ⟨yy, cc, n, ret⟩ := Y
  intro hC ad H locs ls hH hL hk hlv hst hS
  exact lv_dup2_x1_2 hC.1 hC.2.1 hd ((mg_tr_cat ad v).trans hv) ((mg_tr_cat ad w).trans hw) (kk hC ad H locs ls hH hL hk hlv (((hst.tl.tl.cons hst.hd).cons hst.tl.hd).cons hst.hd) hS)
theorem mg_if_eq {x : Int32} {off : Int} {tgt : Nat} (hd : decode (mg_cc Y) pc = .ok (.ifCond .eq off, 3)) (ht : (pc : Int) + off = (tgt : Int)) (kt : x = 0 → mg_G X Y Q M k j tgt lv rest) (kf : ¬ x = 0 → mg_G X Y Q M k j (pc + 3) lv rest) : mg_G X Y Q M k j pc lv (.int x :: rest) := by
  obtain ⟨p, l, e, R, s, m, args, below, meth, c, D, gT, M0, ad0⟩ := X
  obtain ⟨yy, cc, n, ret⟩ := Y
  intro hC ad H locs ls hH hL hk hlv hst hS
  exact lv_if_eq hC.1 hC.2.1 hd ht (fun h => kt h hC ad H locs ls hH hL hk hlv hst.tl hS) (fun h => kf h hC ad H locs ls hH hL hk hlv hst.tl hS)
theorem mg_icmp_eq {x y : Int32} {off : Int} {tgt : Nat} (hd : decode (mg_cc Y) pc = .ok (.if_icmp .eq off, 3)) (ht : (pc : Int) + off = (tgt : Int)) (kt : x = y → mg_G X Y Q M k j tgt lv rest) (kf : ¬ x = y → mg_G X Y Q M k j (pc + 3) lv rest) : mg_G X Y Q M k j pc lv (.int y :: .int x :: rest) := by
  obtain ⟨p, l, e, R, s, m, args, below, meth, c, D, gT, M0, ad0⟩ := X
  obtain ⟨yy, cc, n, ret⟩ := Y
  intro hC ad H locs ls hH hL hk hlv hst hS
  exact lv_icmp_eq hC.1 hC.2.1 hd ht (fun h => kt h hC ad H locs ls hH hL hk hlv hst.tl.tl hS) (fun h => kf h hC ad H locs ls hH hL hk hlv hst.tl.tl hS)
theorem mg_if_ne {x : Int32} {off : Int} {tgt : Nat} (hd : decode (mg_cc Y) pc = .ok (.ifCond .ne off, 3)) (ht : (pc : Int) + off = (tgt : Int)) (kt : ¬ x = 0 → mg_G X Y Q M k j tgt lv rest) (kf : x = 0 → mg_G X Y Q M k j (pc + 3) lv rest) : mg_G X Y Q M k j pc lv (.int x :: rest) := by
  obtain ⟨p, l, e, R, s, m, args, below, meth, c, D, gT, M0, ad0⟩ := X
  obtain ⟨yy, cc, n, ret⟩ := Y
  intro hC ad H locs ls hH hL hk hlv hst hS
  exact lv_if_ne hC.1 hC.2.1 hd ht (fun h => kt h hC ad H locs ls hH hL hk hlv hst.tl hS) (fun h => kf h hC ad H locs ls hH hL hk hlv hst.tl hS)
theorem mg_icmp_ne {x y : Int32} {off : Int} {tgt : Nat} (hd : decode (mg_cc Y) pc = .ok (.if_icmp .ne off, 3)) (ht : (pc : Int) + off = (tgt : Int)) (kt : ¬ x = y → mg_G X Y Q M k j tgt lv rest) (kf : x = y → mg_G X Y Q M k j (pc + 3) lv rest) : mg_G X Y Q M k j pc lv (.int y :: .int x :: rest) := by
  obtain ⟨p, l, e, R, s, m, args, below, meth, c, D, gT, M0, ad0⟩ := X
  obtain ⟨yy, cc, n, ret⟩ := Y
  intro hC ad H locs ls hH hL hk hlv hst hS
  exact lv_icmp_ne hC.1 hC.2.1 hd ht (fun h => kt h hC ad H locs ls hH hL hk hlv hst.tl.tl hS) (fun h => kf h hC ad H locs ls hH hL hk hlv hst.tl.tl hS)
theorem mg_if_lt {x : Int32} {off : Int} {tgt : Nat} (hd : decode (mg_cc Y) pc = .ok (.ifCond .lt off, 3)) (ht : (pc : Int) + off = (tgt : Int)) (kt : x < 0 → mg_G X Y Q M k j tgt lv rest) (kf : ¬ x < 0 → mg_G X Y Q M k j (pc + 3) lv rest) : mg_G X Y Q M k j pc lv (.int x :: rest) := by
  obtain ⟨p, l, e, R, s, m, args, below, meth, c, D, gT, M0, ad0⟩ := X
  obtain ⟨yy, cc, n, ret⟩ := Y
  intro hC ad H locs ls hH hL hk hlv hst hS
  exact lv_if_lt hC.1 hC.2.1 hd ht (fun h => kt h hC ad H locs ls hH hL hk hlv hst.tl hS) (fun h => kf h hC ad H locs ls hH hL hk hlv hst.tl hS)
theorem mg_icmp_lt {x y : Int32} {off : Int} {tgt : Nat} (hd : decode (mg_cc Y) pc = .ok (.if_icmp .lt off, 3)) (ht : (pc : Int) + off = (tgt : Int)) (kt : x < y → mg_G X Y Q M k j tgt lv rest) (kf : ¬ x < y → mg_G X Y Q M k j (pc + 3) lv rest) : mg_G X Y Q M k j pc lv (.int y :: .int x :: rest) := by
  obtain ⟨p, l, e, R, s, m, args, below, meth, c, D, gT, M0, ad0⟩ := X
  obtain ⟨yy, cc, n, ret⟩ := Y
  intro hC ad H locs ls hH hL hk hlv hst hS
  exact lv_icmp_lt hC.1 hC.2.1 hd ht (fun h => kt h hC ad H locs ls hH hL hk hlv hst.tl.tl hS) (fun h => kf h hC ad H locs ls hH hL hk hlv hst.tl.tl hS)
theorem mg_if_ge {x : Int32} {off : Int} {tgt : Nat} (hd : decode (mg_cc Y) pc = .ok (.ifCond .ge off, 3)) (ht : (pc : Int) + off = (tgt : Int)) (kt : 0 ≤ x → mg_G X Y Q M k j tgt lv rest) (kf : ¬ 0 ≤ x → mg_G X Y Q M k j (pc + 3) lv rest) : mg_G X Y Q M k j pc lv (.int x :: rest) := by
  obtain ⟨p, l, e, R, s, m, args, below, meth, c, D, gT, M0, ad0⟩ := X
  obtain ⟨yy, cc, n, ret⟩ := Y
  intro hC ad H locs ls hH hL hk hlv hst hS
  exact lv_if_ge hC.1 hC.2.1 hd ht (fun h => kt h hC ad H locs ls hH hL hk hlv hst.tl hS) (fun h => kf h hC ad H locs ls hH hL hk hlv hst.tl hS)
theorem mg_icmp_ge {x y : Int32} {off : Int} {tgt : Nat} (hd : decode (mg_cc Y) pc = .ok (.if_icmp .ge off, 3)) (ht : (pc : Int) + off = (tgt : Int)) (kt : y ≤ x → mg_G X Y Q M k j tgt lv rest) (kf : ¬ y ≤ x → mg_G X Y Q M k j (pc + 3) lv rest) : mg_G X Y Q M k j pc lv (.int y :: .int x :: rest) := by
  obtain ⟨p, l, e, R, s, m, args, below, meth, c, D, gT, M0, ad0⟩ := X
  obtain ⟨yy, cc, n, ret⟩ := Y
  intro hC ad H locs ls hH hL hk hlv hst hS
  exact lv_icmp_ge hC.1 hC.2.1 hd ht (fun h => kt h hC ad H locs ls hH hL hk hlv hst.tl.tl hS) (fun h => kf h hC ad H locs ls hH hL hk hlv hst.tl.tl hS)
theorem mg_if_gt {x : Int32} {off : Int} {tgt : Nat} (hd : decode (mg_cc Y) pc = .ok (.ifCond .gt off, 3)) (ht : (pc : Int) + off = (tgt : Int)) (kt : 0 < x → mg_G X Y Q M k j tgt lv rest) (kf : ¬ 0 < x → mg_G X Y Q M k j (pc + 3) lv rest) : mg_G X Y Q M k j pc lv (.int x :: rest) := by
  obtain ⟨p, l, e, R, s, m, args, below, meth, c, D, gT, M0, ad0⟩ := X
  obtain ⟨yy, cc, n, ret⟩ := Y
  intro hC ad H locs ls hH hL hk hlv hst hS
  exact lv_if_gt hC.1 hC.2.1 hd ht (fun h => kt h hC ad H locs ls hH hL hk hlv hst.tl hS) (fun h => kf h hC ad H locs ls hH hL hk hlv hst.tl hS)
theorem mg_icmp_gt {x y : Int32} {off : Int} {tgt : Nat} (hd : decode (mg_cc Y) pc = .ok (.if_icmp .gt off, 3)) (ht : (pc : Int) + off = (tgt : Int)) (kt : y < x → mg_G X Y Q M k j tgt lv rest) (kf : ¬ y < x → mg_G X Y Q M k j (pc + 3) lv rest) : mg_G X Y Q M k j pc lv (.int y :: .int x :: rest) := by
  obtain ⟨p, l, e, R, s, m, args, below, meth, c, D, gT, M0, ad0⟩ := X
  obtain ⟨yy, cc, n, ret⟩ := Y
  intro hC ad H locs ls hH hL hk hlv hst hS
  exact lv_icmp_gt hC.1 hC.2.1 hd ht (fun h => kt h hC ad H locs ls hH hL hk hlv hst.tl.tl hS) (fun h => kf h hC ad H locs ls hH hL hk hlv hst.tl.tl hS)
theorem mg_if_le {x : Int32} {off : Int} {tgt : Nat} (hd : decode (mg_cc Y) pc = .ok (.ifCond .le off, 3)) (ht : (pc : Int) + off = (tgt : Int)) (kt : x ≤ 0 → mg_G X Y Q M k j tgt lv rest) (kf : ¬ x ≤ 0 → mg_G X Y Q M k j (pc + 3) lv rest) : mg_G X Y Q M k j pc lv (.int x :: rest) := by
  obtain ⟨p, l, e, R, s, m, args, below, meth, c, D, gT, M0, ad0⟩ := X
  obtain ⟨yy, cc, n, ret⟩ := Y
  intro hC ad H locs ls hH hL hk hlv hst hS
  exact lv_if_le hC.1 hC.2.1 hd ht (fun h => kt h hC ad H locs ls hH hL hk hlv hst.tl hS) (fun h => kf h hC ad H locs ls hH hL hk hlv hst.tl hS)
theorem mg_icmp_le {x y : Int32} {off : Int} {tgt : Nat} (hd : decode (mg_cc Y) pc = .ok (.if_icmp .le off, 3)) (ht : (pc : Int) + off = (tgt : Int)) (kt : x ≤ y → mg_G X Y Q M k j tgt lv rest) (kf : ¬ x ≤ y → mg_G X Y Q M k j (pc + 3) lv rest) : mg_G X Y Q M k j pc lv (.int y :: .int x :: rest) := by
  obtain ⟨p, l, e, R, s, m, args, below, meth, c, D, gT, M0, ad0⟩ := X
  obtain ⟨yy, cc, n, ret⟩ := Y
  intro hC ad H locs ls hH hL hk hlv hst hS
  exact lv_icmp_le hC.1 hC.2.1 hd ht (fun h => kt h hC ad H locs ls hH hL hk hlv hst.tl.tl hS) (fun h => kf h hC ad H locs ls hH hL hk hlv hst.tl.tl hS)
theorem mg_goto {off : Int} {tgt : Nat} (hd : decode (mg_cc Y) pc = .ok (.goto off, 3)) (ht : (pc : Int) + off = (tgt : Int)) (kk : mg_G X Y Q M k j tgt lv rest) : mg_G X Y Q M k j pc lv rest := by
  obtain ⟨p, l, e, R, s, m, args, below, meth, c, D, gT, M0, ad0⟩ := X
  obtain ⟨yy, cc, n, ret⟩ := Y
  intro hC ad H locs ls hH hL hk hlv hst hS
  exact lv_goto hC.1 hC.2.1 hd ht (kk hC ad H locs ls hH hL hk hlv hst hS)
theorem mg_ifnonnull {a : Nat} {off : Int} {tgt : Nat} (hd : decode (mg_cc Y) pc = .ok (.ifnonnull off, 3)) (ht : (pc : Int) + off = (tgt : Int)) (kk : mg_G X Y Q M k j tgt lv rest) : mg_G X Y Q M k j pc lv (.ref a :: rest) := by
  obtain ⟨p, l, e, R, s, m, args, below, meth, c, D, gT, M0, ad0⟩ := X
  obtain ⟨yy, cc, n, ret⟩ := Y
  intro hC ad H locs ls hH hL hk hlv hst hS
  exact lv_ifnonnull hC.1 hC.2.1 hd ht (kk hC ad H locs ls hH hL hk hlv hst.tl hS)
theorem mg_ifnonnullN {off : Int} (hd : decode (mg_cc Y) pc = .ok (.ifnonnull off, 3)) (kk : mg_G X Y Q M k j (pc + 3) lv rest) : mg_G X Y Q M k j pc lv (.null :: rest) := by
  obtain ⟨p, l, e, R, s, m, args, below, meth, c, D, gT, M0, ad0⟩ := X
  obtain ⟨yy, cc, n, ret⟩ := Y
  intro hC ad H locs ls hH hL hk hlv hst hS
  exact lv_ifnonnullN hC.1 hC.2.1 hd (kk hC ad H locs ls hH hL hk hlv hst.tl hS)
theorem mg_ifnull {a : Nat} {off : Int} (hd : decode (mg_cc Y) pc = .ok (.ifnull off, 3)) (kk : mg_G X Y Q M k j (pc + 3) lv rest) : mg_G X Y Q M k j pc lv (.ref a :: rest) := by
  obtain ⟨p, l, e, R, s, m, args, below, meth, c, D, gT, M0, ad0⟩ := X
  obtain ⟨yy, cc, n, ret⟩ := Y
  intro hC ad H locs ls hH hL hk hlv hst hS
  exact lv_ifnull hC.1 hC.2.1 hd (kk hC ad H locs ls hH hL hk hlv hst.tl hS)
theorem mg_ifnullN {off : Int} {tgt : Nat} (hd : decode (mg_cc Y) pc = .ok (.ifnull off, 3)) (ht : (pc : Int) + off = (tgt : Int)) (kk : mg_G X Y Q M k j tgt lv rest) : mg_G X Y Q M k j pc lv (.null :: rest) := by
  obtain ⟨p, l, e, R, s, m, args, below, meth, c, D, gT, M0, ad0⟩ := X
  obtain ⟨yy, cc, n, ret⟩ := Y
  intro hC ad H locs ls hH hL hk hlv hst hS
  exact lv_ifnullN hC.1 hC.2.1 hd ht (kk hC ad H locs ls hH hL hk hlv hst.tl hS)
theorem mg_tableIn {dflt lo hi : Int} {offs : Array Int} {len : Nat} {x : Int32} {off : Int} {tgt : Nat} (hd : decode (mg_cc Y) pc = .ok (.tableswitch dflt lo hi offs, len)) (h1 : ¬ x.toInt < lo) (h2 : ¬ hi < x.toInt) (ho : offs[(x.toInt - lo).toNat]? = some off) (ht : (pc : Int) + off = (tgt : Int)) (kk : mg_G X Y Q M k j tgt lv rest) : mg_G X Y Q M k j pc lv (.int x :: rest) := by
  obtain ⟨p, l, e, R, s, m, args, below, meth, c, D, gT, M0, ad0⟩ := X
  obtain ⟨yy, cc, n, ret⟩ := Y
  intro hC ad H locs ls hH hL hk hlv hst hS
  exact lv_tableIn hC.1 hC.2.1 hd h1 h2 ho ht (kk hC ad H locs ls hH hL hk hlv hst.tl hS)
theorem mg_tableOut {dflt lo hi : Int} {offs : Array Int} {len : Nat} {x : Int32} {tgt : Nat} (hd : decode (mg_cc Y) pc = .ok (.tableswitch dflt lo hi offs, len)) (h : x.toInt < lo ∨ hi < x.toInt) (ht : (pc : Int) + dflt = (tgt : Int)) (kk : mg_G X Y Q M k j tgt lv rest) : mg_G X Y Q M k j pc lv (.int x :: rest) := by
  obtain ⟨p, l, e, R, s, m, args, below, meth, c, D, gT, M0, ad0⟩ := X
  obtain ⟨yy, cc, n, ret⟩ := Y
  intro hC ad H locs ls hH hL hk hlv hst hS
  exact lv_tableOut hC.1 hC.2.1 hd h ht (kk hC ad H locs ls hH hL hk hlv hst.tl hS)
theorem mg_lookup {dflt : Int} {ps : Array (Int × Int)} {len : Nat} {x : Int32} {off : Int} {tgt : Nat} (hd : decode (mg_cc Y) pc = .ok (.lookupswitch dflt ps, len)) (hp : (ps.toList.zip (ps.toList.drop 1)).all (fun (a, next) => a.1 < next.1) = true) (ho : Op.lookupswitch.offset ps.toList dflt x.toInt = off) (ht : (pc : Int) + off = (tgt : Int)) (kk : mg_G X Y Q M k j tgt lv rest) : mg_G X Y Q M k j pc lv (.int x :: rest) := by
  obtain ⟨p, l, e, R, s, m, args, below, meth, c, D, gT, M0, ad0⟩ := X
  obtain ⟨yy, cc, n, ret⟩ := Y
  intro hC ad H locs ls hH hL hk hlv hst hS
  exact lv_lookup hC.1 hC.2.1 hd hp ho ht (kk hC ad H locs ls hH hL hk hlv hst.tl hS)
end MGR
end
section
/-! stores into locals -/
def mg_as (ad : Nat → Nat) : Nat → List (Option Value) → List (Nat × Value)
  | _, [] => []
  | i, some v :: r => (i, mg_tr ad v) :: mg_as ad (i + 1) r
  | i, none :: r => mg_as ad (i + 1) r
theorem mg_as_mem (ad : Nat → Nat) : ∀ (lv : List (Option Value)) (i a : Nat) (w : Value), (a, w) ∈ mg_as ad i lv ↔ ∃ (t : Nat) (v : Value), a = i + t ∧ lv[t]? = some (some v) ∧ w = mg_tr ad v
  | [], i, a, w => by simp [mg_as]
  | none :: r, i, a, w => by
    rw [mg_as, mg_as_mem ad r (i + 1) a w]
    constructor
    · rintro ⟨t, v, h1, h2, h3⟩
      exact ⟨t + 1, v, by omega, h2, h3⟩
    · rintro ⟨t, v, h1, h2, h3⟩
      cases t with
      | zero => simp at h2
      | succ t => exact ⟨t, v, by omega, h2, h3⟩
  | some u :: r, i, a, w => by
    rw [mg_as, List.mem_cons, mg_as_mem ad r (i + 1) a w]
    constructor
    · rintro (h | ⟨t, v, h1, h2, h3⟩)
      · cases h
        exact ⟨0, u, rfl, rfl, rfl⟩
      · exact ⟨t + 1, v, by omega, h2, h3⟩
    · rintro ⟨t, v, h1, h2, h3⟩
      cases t with
      | zero =>
        have : u = v := by simpa using h2
        subst this
        exact Or.inl (by rw [h1, h3]; rfl)
      | succ t => exact Or.inr ⟨t, v, by omega, h2, h3⟩
theorem mg_L.has {ad : Nat → Nat} {n : Nat} {lv : List (Option Value)} {ls : Array Slot} (h : mg_L ad n lv ls) : lv_has ls n (mg_as ad 0 lv) := ⟨h.1, h.2.1, fun q hq => by
  obtain ⟨a, w⟩ := q
  obtain ⟨t, v, h1, h2, h3⟩ := (mg_as_mem ad lv 0 a w).mp hq
  have ht : a = t := by omega
  subst ht; subst h3
  exact h.2.2 _ v h2⟩
/-- no long ends where the store begins -/
def mg_ok (lv : List (Option Value)) (i : Nat) : Bool := match i with
  | 0 => true
  | i + 1 => match lv[i]? with
    | some (some v) => !(v.category == 2)
    | _ => true
theorem mg_L.set1 {ad : Nat → Nat} {n i : Nat} {lv : List (Option Value)} {ls' : Array Slot} {v : Value} (hok : mg_ok lv i = true)
    (h' : lv_has ls' n ((i, mg_tr ad v) :: (mg_as ad 0 lv).filter (fun q => !(q.1 == i) && !(q.1 + 1 == i && q.2.category == 2)))) : mg_L ad n (lv.set i (some v)) ls' := by
  refine ⟨h'.1, h'.2.1, fun t w hw => ?_⟩
  by_cases ht : t = i
  · subst ht
    have hw2 : w = v := by
      by_cases hl : t < lv.length
      · rw [List.getElem?_set_self hl] at hw
        exact (Option.some.inj (Option.some.inj hw)).symm
      · rw [List.getElem?_eq_none (by rw [List.length_set]; omega)] at hw
        cases hw
    subst hw2
    exact h'.2.2 _ List.mem_cons_self
  · rw [List.getElem?_set_ne (Ne.symm ht)] at hw
    refine h'.2.2 (t, mg_tr ad w) (List.mem_cons_of_mem _ (List.mem_filter.mpr ⟨(mg_as_mem ad lv 0 t _).mpr ⟨t, w, by omega, hw, rfl⟩, ?_⟩))
    have h1 : (t == i) = false := by simpa using ht
    have h2 : (t + 1 == i && (mg_tr ad w).category == 2) = false := by
      by_cases hti : t + 1 = i
      · subst hti
        simp only [mg_ok, hw] at hok
        rw [mg_tr_cat]
        simpa using hok
      · simp [hti]
    simp only [h1, h2]
    rfl
theorem mg_L.set2 {ad : Nat → Nat} {n i : Nat} {lv : List (Option Value)} {ls' : Array Slot} {v : Value} (hok : mg_ok lv i = true)
    (h' : lv_has ls' n ((i, mg_tr ad v) :: (mg_as ad 0 lv).filter (fun q => !(q.1 == i) && (!(q.1 == i + 1) && !(q.1 + 1 == i && q.2.category == 2))))) : mg_L ad n ((lv.set i (some v)).set (i + 1) none) ls' := by
  refine ⟨h'.1, h'.2.1, fun t w hw => ?_⟩
  by_cases ht1 : t = i + 1
  · subst ht1
    by_cases hl : i + 1 < (lv.set i (some v)).length
    · rw [List.getElem?_set_self hl] at hw
      cases Option.some.inj hw
    · rw [List.getElem?_eq_none (by rw [List.length_set]; omega)] at hw
      cases hw
  · rw [List.getElem?_set_ne (Ne.symm ht1)] at hw
    by_cases ht : t = i
    · subst ht
      have hw2 : w = v := by
        by_cases hl : t < lv.length
        · rw [List.getElem?_set_self hl] at hw
          exact (Option.some.inj (Option.some.inj hw)).symm
        · rw [List.getElem?_eq_none (by rw [List.length_set]; omega)] at hw
          cases hw
      subst hw2
      exact h'.2.2 _ List.mem_cons_self
    · rw [List.getElem?_set_ne (Ne.symm ht)] at hw
      refine h'.2.2 (t, mg_tr ad w) (List.mem_cons_of_mem _ (List.mem_filter.mpr ⟨(mg_as_mem ad lv 0 t _).mpr ⟨t, w, by omega, hw, rfl⟩, ?_⟩))
      have h1 : (t == i) = false := by simpa using ht
      have h3 : (t == i + 1) = false := by simpa using ht1
      have h2 : (t + 1 == i && (mg_tr ad w).category == 2) = false := by
        by_cases hti : t + 1 = i
        · subst hti
          simp only [mg_ok, hw] at hok
          rw [mg_tr_cat]
          simpa using hok
        · simp [hti]
      simp only [h1, h2, h3]
      rfl
theorem mg_cL.set {M : mg_M} {lv : List (Option Value)} {i : Nat} {v : Value} (h : mg_cL M lv) (hv : mg_cv M v) : mg_cL M (lv.set i (some v)) := fun t w hw => by
  by_cases ht : t = i
  · subst ht
    by_cases hl : t < lv.length
    · rw [List.getElem?_set_self hl] at hw
      rw [← Option.some.inj (Option.some.inj hw)]; exact hv
    · rw [List.getElem?_eq_none (by rw [List.length_set]; omega)] at hw
      cases hw
  · rw [List.getElem?_set_ne (Ne.symm ht)] at hw
    exact h t w hw
theorem mg_cL.setN {M : mg_M} {lv : List (Option Value)} {i : Nat} (h : mg_cL M lv) : mg_cL M (lv.set i none) := fun t w hw => by
  by_cases ht : t = i
  · subst ht
    by_cases hl : t < lv.length
    · rw [List.getElem?_set_self hl] at hw
      cases Option.some.inj hw
    · rw [List.getElem?_eq_none (by rw [List.length_set]; omega)] at hw
      cases hw
  · rw [List.getElem?_set_ne (Ne.symm ht)] at hw
    exact h t w hw
theorem mg_cL.mono {M M' : mg_M} {lv : List (Option Value)} (h : mg_cL M lv) (hd : ∀ k, M k ≠ none → M' k ≠ none) : mg_cL M' lv := fun i v hv => (h i v hv).mono hd
section MGS
variable {X : mg_X} {Y : mg_Y} {Q : State → Prop} {M : mg_M} {k j pc : Nat} {lv : List (Option Value)} {rest : List Value}
theorem mg_istore_n {q : Fin 4} {i : Nat} {x : Int32} (hd : decode (mg_cc Y) pc = .ok (.istore_n q, 1)) (hi : (q : Nat) = i) (hn : i < mg_nl Y) (hok : mg_ok lv i = true) (kk : mg_G X Y Q M k j (pc + 1) (lv.set i (some (.int x))) rest) : mg_G X Y Q M k j pc lv (.int x :: rest) := by
  obtain ⟨p, l, e, R, s, m, args, below, meth, c, D, gT, M0, ad0⟩ := X
  obtain ⟨yy, cc, n, ret⟩ := Y
  intro hC ad H locs ls hH hL hk hlv hst hS
  exact lv_istore_n hC.1 hC.2.1 hd hi hL.has hn rfl (fun ls' h' => kk hC ad H locs ls' hH (mg_L.set1 (v := .int x) hok h') hk (hlv.set (trivial)) hst.tl hS)
theorem mg_istore {i : Nat} {x : Int32} (hd : decode (mg_cc Y) pc = .ok (.istore i, 2)) (hn : i < mg_nl Y) (hok : mg_ok lv i = true) (kk : mg_G X Y Q M k j (pc + 2) (lv.set i (some (.int x))) rest) : mg_G X Y Q M k j pc lv (.int x :: rest) := by
  obtain ⟨p, l, e, R, s, m, args, below, meth, c, D, gT, M0, ad0⟩ := X
  obtain ⟨yy, cc, n, ret⟩ := Y
  intro hC ad H locs ls hH hL hk hlv hst hS
  exact lv_istore hC.1 hC.2.1 hd hL.has hn rfl (fun ls' h' => kk hC ad H locs ls' hH (mg_L.set1 (v := .int x) hok h') hk (hlv.set (trivial)) hst.tl hS)
theorem mg_astore_n {q : Fin 4} {i : Nat} {x : Nat} (hd : decode (mg_cc Y) pc = .ok (.astore_n q, 1)) (hi : (q : Nat) = i) (hn : i < mg_nl Y) (hok : mg_ok lv i = true) (kk : mg_G X Y Q M k j (pc + 1) (lv.set i (some (.ref x))) rest) : mg_G X Y Q M k j pc lv (.ref x :: rest) := by
  obtain ⟨p, l, e, R, s, m, args, below, meth, c, D, gT, M0, ad0⟩ := X
  obtain ⟨yy, cc, n, ret⟩ := Y
  intro hC ad H locs ls hH hL hk hlv hst hS
  exact lv_astore_n hC.1 hC.2.1 hd hi hL.has hn rfl (fun ls' h' => kk hC ad H locs ls' hH (mg_L.set1 (v := .ref x) hok h') hk (hlv.set (hst.hd)) hst.tl hS)
theorem mg_astore {i : Nat} {x : Nat} (hd : decode (mg_cc Y) pc = .ok (.astore i, 2)) (hn : i < mg_nl Y) (hok : mg_ok lv i = true) (kk : mg_G X Y Q M k j (pc + 2) (lv.set i (some (.ref x))) rest) : mg_G X Y Q M k j pc lv (.ref x :: rest) := by
  obtain ⟨p, l, e, R, s, m, args, below, meth, c, D, gT, M0, ad0⟩ := X
  obtain ⟨yy, cc, n, ret⟩ := Y
  intro hC ad H locs ls hH hL hk hlv hst hS
  exact lv_astore hC.1 hC.2.1 hd hL.has hn rfl (fun ls' h' => kk hC ad H locs ls' hH (mg_L.set1 (v := .ref x) hok h') hk (hlv.set (hst.hd)) hst.tl hS)
theorem mg_astore_nN {q : Fin 4} {i : Nat} (hd : decode (mg_cc Y) pc = .ok (.astore_n q, 1)) (hi : (q : Nat) = i) (hn : i < mg_nl Y) (hok : mg_ok lv i = true) (kk : mg_G X Y Q M k j (pc + 1) (lv.set i (some .null)) rest) : mg_G X Y Q M k j pc lv (.null :: rest) := by
  obtain ⟨p, l, e, R, s, m, args, below, meth, c, D, gT, M0, ad0⟩ := X
  obtain ⟨yy, cc, n, ret⟩ := Y
  intro hC ad H locs ls hH hL hk hlv hst hS
  exact lv_astore_nN hC.1 hC.2.1 hd hi hL.has hn rfl (fun ls' h' => kk hC ad H locs ls' hH (mg_L.set1 (v := .null) hok h') hk (hlv.set trivial) hst.tl hS)
theorem mg_astoreN {i : Nat} (hd : decode (mg_cc Y) pc = .ok (.astore i, 2)) (hn : i < mg_nl Y) (hok : mg_ok lv i = true) (kk : mg_G X Y Q M k j (pc + 2) (lv.set i (some .null)) rest) : mg_G X Y Q M k j pc lv (.null :: rest) := by
  obtain ⟨p, l, e, R, s, m, args, below, meth, c, D, gT, M0, ad0⟩ := X
  obtain ⟨yy, cc, n, ret⟩ := Y
  intro hC ad H locs ls hH hL hk hlv hst hS
  exact lv_astoreN hC.1 hC.2.1 hd hL.has hn rfl (fun ls' h' => kk hC ad H locs ls' hH (mg_L.set1 (v := .null) hok h') hk (hlv.set trivial) hst.tl hS)
theorem mg_lstore_n {q : Fin 4} {i : Nat} {x : Int64} (hd : decode (mg_cc Y) pc = .ok (.lstore_n q, 1)) (hi : (q : Nat) = i) (hn : i + 1 < mg_nl Y) (hok : mg_ok lv i = true) (kk : mg_G X Y Q M k j (pc + 1) ((lv.set i (some (.long x))).set (i + 1) none) rest) : mg_G X Y Q M k j pc lv (.long x :: rest) := by
  obtain ⟨p, l, e, R, s, m, args, below, meth, c, D, gT, M0, ad0⟩ := X
  obtain ⟨yy, cc, n, ret⟩ := Y
  intro hC ad H locs ls hH hL hk hlv hst hS
  exact lv_lstore_n hC.1 hC.2.1 hd hi hL.has hn rfl (fun ls' h' => kk hC ad H locs ls' hH (mg_L.set2 (v := .long x) hok h') hk (mg_cL.setN (mg_cL.set (v := .long x) hlv trivial)) hst.tl hS)
theorem mg_lstore {i : Nat} {x : Int64} (hd : decode (mg_cc Y) pc = .ok (.lstore i, 2)) (hn : i + 1 < mg_nl Y) (hok : mg_ok lv i = true) (kk : mg_G X Y Q M k j (pc + 2) ((lv.set i (some (.long x))).set (i + 1) none) rest) : mg_G X Y Q M k j pc lv (.long x :: rest) := by
  obtain ⟨p, l, e, R, s, m, args, below, meth, c, D, gT, M0, ad0⟩ := X
  obtain ⟨yy, cc, n, ret⟩ := Y
  intro hC ad H locs ls hH hL hk hlv hst hS
  exact lv_lstore hC.1 hC.2.1 hd hL.has hn rfl (fun ls' h' => kk hC ad H locs ls' hH (mg_L.set2 (v := .long x) hok h') hk (mg_cL.setN (mg_cL.set (v := .long x) hlv trivial)) hst.tl hS)
theorem mg_iinc {i : Nat} {z : Int} {x v : Int32} (hd : decode (mg_cc Y) pc = .ok (.iinc i z, 3)) (hl : lv[i]? = some (some (.int x))) (hv : x + Int32.ofInt z = v) (hn : i < mg_nl Y) (hok : mg_ok lv i = true) (kk : mg_G X Y Q M k j (pc + 3) (lv.set i (some (.int v))) rest) : mg_G X Y Q M k j pc lv rest := by
  obtain ⟨p, l, e, R, s, m, args, below, meth, c, D, gT, M0, ad0⟩ := X
  obtain ⟨yy, cc, n, ret⟩ := Y
  intro hC ad H locs ls hH hL hk hlv hst hS
  obtain ⟨q, hq⟩ := List.getElem?_of_mem ((mg_as_mem ad lv 0 i (.int x)).mpr ⟨i, .int x, by omega, hl, rfl⟩)
  exact lv_iinc hC.1 hC.2.1 hd hL.has hq hv hn rfl (fun ls' h' => kk hC ad H locs ls' hH (mg_L.set1 (v := .int v) hok h') hk (hlv.set trivial) hst hS)
end MGS
/-! fields, arrays, new -/
/-- a field reference of a class: pool index ix names field f of class number ci -/
def mg_FL (own : String) (ix ci f : Nat) : Prop := ∃ (C : String) (T : u_T) (N : Nat) (ref : String), mg_cl[ci]? = some (C, T, N) ∧ f < N ∧ (∀ w ∈ u_ws C T N, w ∈ mg_GT) ∧ (ref = (T f).1 ∨ Cond.sameField ref (T f).1 (T f).2.1 (T f).2.2.1 ∈ mg_GT) ∧ (Cond.fieldLink own ix ref (T f).2.1 (T f).2.2.1 ∈ mg_GT ∨ ∃ host, Cond.fieldLinkNest own ix ref (T f).2.1 (T f).2.2.1 host ∈ mg_NW)
/-- .. that may be written: its type; final ones in their constructor -/
def mg_FW (own nm : String) (ix ci f : Nat) (ty : FieldType) : Prop := ∃ (C : String) (T : u_T) (N : Nat) (t0 : Nat → FieldType) (ref : String), mg_cl[ci]? = some (C, T, N) ∧ f < N ∧ (∀ w ∈ u_ws C T N, w ∈ mg_GT) ∧ ref = (T f).1 ∧ (∀ k, k < N → parseFieldDescriptor (T k).2.2.1 = some (t0 k)) ∧ (∀ a, a < N → ∀ b, b < N → a ≠ b → (T a).2.1 ≠ (T b).2.1) ∧ parseFieldDescriptor (T f).2.2.1 = some ty ∧
  (((T f).2.2.2 = false ∧ (Cond.fieldLink own ix ref (T f).2.1 (T f).2.2.1 ∈ mg_GT ∨ ∃ host, Cond.fieldLinkNest own ix ref (T f).2.1 (T f).2.2.1 host ∈ mg_NW)) ∨ ((T f).2.2.2 = true ∧ nm = "<init>" ∧ (T f).1 = own ∧ Cond.fieldLink own ix ref (T f).2.1 (T f).2.2.1 ∈ mg_GT))
def mg_NL (own : String) (ix ci N : Nat) (fs : List Value) : Prop := ∃ (C : String) (T : u_T) (t0 : Nat → FieldType), mg_cl[ci]? = some (C, T, N) ∧ (∀ w ∈ u_ws C T N, w ∈ mg_GT) ∧ (∀ k, k < N → parseFieldDescriptor (T k).2.2.1 = some (t0 k)) ∧ Cond.classLink own ix C ∈ mg_GT ∧ Cond.instantiable C N ∈ mg_GT ∧ Cond.initialized C ∈ mg_GT ∧ (∀ j, j < N → defaultValue (t0 j) = vp_V fs j) ∧ ∀ ad, fs.map (mg_tr ad) = fs
section MGM
variable {X : mg_X} {Y : mg_Y} {Q : State → Prop} {M : mg_M} {k j pc : Nat} {lv : List (Option Value)} {rest : List Value}
theorem mg_getfield {ix ci f a : Nat} {fs : List Value} {v : Value} (L : mg_FL (mg_own Y) ix ci f) (hd : decode (mg_cc Y) pc = .ok (.getfield ix, 3)) (hM : M a = some (.inr (ci, fs))) (hv : fs[f]? = some v) (kk : mg_G X Y Q M k j (pc + 3) lv (v :: rest)) : mg_G X Y Q M k j pc lv (.ref a :: rest) := by
  obtain ⟨p, l, e, R, s, m, args, below, meth, c, D, gT, M0, ad0⟩ := X
  obtain ⟨yy, cc, n, ret⟩ := Y
  intro hC ad H locs ls hH hL hk hlv hst hS
  obtain ⟨C, T, N, ref, hc, hf, hin, href, hlink⟩ := L
  obtain ⟨hx, hb, hr, hml, hown, hts, hK, hlo, hnm⟩ := id hC
  obtain ⟨ws, q0, hP, hD, hq, -⟩ := hH.use hM
  have hsame : ∀ x, s.fieldFound? (T f).1 (T f).2.1 (T f).2.2.1 = some x → s.fieldFound? ref (T f).2.1 (T f).2.2.1 = some x := fun x hx => by
    rcases href with rfl | href
    · exact hx
    · exact u_same (hts _ href) x hx
  have hv2 : (fs.map (mg_tr ad))[f]? = some (mg_tr ad v) := by rw [List.getElem?_map, hv]; rfl
  have kk := kk hC ad H locs ls hH hL hk hlv (hst.tl.cons (hH.closed hM v (List.mem_of_getElem? hv))) hS
  rcases hlink with hlink | ⟨host, hlink⟩
  · exact va_get hx hb hts hin hown hK.va hP q0 hq hc f hf (hts _ hlink) hsame hv2 hd kk
  · exact va_getN hx hb hts hin hown hK.va hP q0 hq hc f hf (va_Nw.use rfl (hK.2.2.1 _ hlink)) hsame hv2 hd kk
theorem mg_putfield {ix ci f a : Nat} {fs : List Value} {v : Value} {ty : FieldType} (L : mg_FW (mg_own Y) Y.1.name ix ci f ty) (hd : decode (mg_cc Y) pc = .ok (.putfield ix, 3)) (hM : M a = some (.inr (ci, fs))) (hl : f < fs.length) (hfit : ∀ ad, narrow ty (mg_tr ad v) = mg_tr ad v ∧ fits ty (mg_tr ad v) = true) (kk : mg_G X Y Q (mg_up M a (.inr (ci, fs.set f v))) k j (pc + 3) lv rest) : mg_G X Y Q M k j pc lv (v :: .ref a :: rest) := by
  obtain ⟨p, l, e, R, s, m, args, below, meth, c, D, gT, M0, ad0⟩ := X
  obtain ⟨yy, cc, n, ret⟩ := Y
  intro hC ad H locs ls hH hL hk hlv hst hS
  obtain ⟨C, T, N, t0, ref, hc, hf, hin, rfl, hty, hnd, hd2, hw⟩ := L
  obtain ⟨hx, hb, hr, hml, hown, hts, hK, hlo, hnm⟩ := id hC
  obtain ⟨ws, q0, hP, hD, hq, -, hset⟩ := hH.use hM
  have hkd := mg_some hM
  have hcE : mg_cE M (.inr (ci, fs.set f v)) := fun w hw => by
    rcases List.mem_or_eq_of_mem_set hw with hw | rfl
    · exact hH.closed hM w hw
    · exact hst.hd
  have hmap : (fs.map (mg_tr ad)).set f (mg_tr ad v) = (fs.set f v).map (mg_tr ad) := by rw [List.map_set]
  have go : ∀ (H1 : Heap) (locs1 : List Loc), va_P D mg_cl (ws.set q0 (ad a, .inr (ci, (fs.map (mg_tr ad)).set f (mg_tr ad v)))) H1 → va_D (mg_A ad0 M0 s.heap.size) (ws.set q0 (ad a, .inr (ci, (fs.map (mg_tr ad)).set f (mg_tr ad v)))) → va_S (mg_A ad0 M0 s.heap.size) s.heap H1 locs1 → W p l e R s m args below meth c H1 locs1 k j Q (F0 m (pc + 3) ls (rest.map (mg_tr ad))) := fun H1 locs1 hP1 hD1 hS1 => by
    rw [hmap] at hP1 hD1
    exact kk hC ad H1 locs1 ls (hset (.inr (ci, fs.set f v)) H1 hcE hP1 hD1) hL (fun q hq => ⟨((hk q hq).1).imp id mg_up_dom, (hk q hq).2⟩) (hlv.mono fun _ h => mg_up_dom h) (hst.tl.tl.mono fun _ h => mg_up_dom h) hS1
  have hl2 : f < (fs.map (mg_tr ad)).length := by rw [List.length_map]; exact hl
  rcases hw with ⟨hfin, hlink | ⟨host, hlink⟩⟩ | ⟨hfin, hnm2, hdc, hlink⟩
  · exact va_put hx hb hts hin t0 hty hnd hown hK.va hP hD hS q0 hq hc f hf (hts _ hlink) (fun _ h => h) hfin hd2 (hfit ad).1 (hfit ad).2 hl2 hd go
  · exact va_putN hx hb hts hin t0 hty hnd hown hK.va hP hD hS q0 hq hc f hf (va_Nw.use rfl (hK.2.2.1 _ hlink)) (fun _ h => h) hfin hd2 (hfit ad).1 (hfit ad).2 hl2 hd go
  · exact va_putF hx hb hts hin t0 hty hnd hown hK.va hP hD hS q0 hq hc f hf (hts _ hlink) (fun _ h => h) hfin (hnm.trans hnm2) hdc hd2 (hfit ad).1 (hfit ad).2 hl2 hd go
theorem mg_arrlen {t a : Nat} {ty : FieldType} {z : vp_A} {v : Int32} (ht : mg_at[t]? = some ty) (hd : decode (mg_cc Y) pc = .ok (.arraylength, 1)) (hM : M a = some (.inl (t, z))) (hv : Int32.ofNat z.1 = v) (kk : mg_G X Y Q M k j (pc + 1) lv (.int v :: rest)) : mg_G X Y Q M k j pc lv (.ref a :: rest) := by
  obtain ⟨p, l, e, R, s, m, args, below, meth, c, D, gT, M0, ad0⟩ := X
  obtain ⟨yy, cc, n, ret⟩ := Y
  intro hC ad H locs ls hH hL hk hlv hst hS
  obtain ⟨hx, hb, hr, hml, hown, hts, hK, hlo, hnm⟩ := id hC
  obtain ⟨ws, q0, hP, hD, hq, -⟩ := hH.use hM
  have hv2 : Int32.ofNat (mg_tA ad z).1 = v := by
    obtain ⟨nn, f | f | f | f | f⟩ := z <;> exact hv
  exact va_alen hx hb (hK.va1 ht) hP q0 0 hq rfl hv2 hd (kk hC ad H locs ls hH hL hk hlv (hst.tl.cons trivial) hS)
theorem mg_iaload {t a nn : Nat} {f : Nat → Int32} {i : Int32} (ht : mg_at[t]? = some .int) (hd : decode (mg_cc Y) pc = .ok (.iaload, 1)) (hM : M a = some (.inl (t, nn, .inl f))) (hin : vp_in i nn) (kk : mg_G X Y Q M k j (pc + 1) lv (.int (f i.toNatClampNeg) :: rest)) : mg_G X Y Q M k j pc lv (.int i :: .ref a :: rest) := by
  obtain ⟨p, l, e, R, s, m, args, below, meth, c, D, gT, M0, ad0⟩ := X
  obtain ⟨yy, cc, n, ret⟩ := Y
  intro hC ad H locs ls hH hL hk hlv hst hS
  obtain ⟨hx, hb, hr, hml, hown, hts, hK, hlo, hnm⟩ := id hC
  obtain ⟨ws, q0, hP, hD, hq, -⟩ := hH.use hM
  exact va_iald hx hb (hK.va1 ht) hP q0 0 hq rfl hin hd (kk hC ad H locs ls hH hL hk hlv (hst.tl.tl.cons trivial) hS)
theorem mg_iastore {t a nn : Nat} {f : Nat → Int32} {i x : Int32} (ht : mg_at[t]? = some .int) (hd : decode (mg_cc Y) pc = .ok (.iastore, 1)) (hM : M a = some (.inl (t, nn, .inl f))) (hin : vp_in i nn) (kk : mg_G X Y Q (mg_up M a (.inl (t, nn, .inl (upd f i.toNatClampNeg x)))) k j (pc + 1) lv rest) : mg_G X Y Q M k j pc lv (.int x :: .int i :: .ref a :: rest) := by
  obtain ⟨p, l, e, R, s, m, args, below, meth, c, D, gT, M0, ad0⟩ := X
  obtain ⟨yy, cc, n, ret⟩ := Y
  intro hC ad H locs ls hH hL hk hlv hst hS
  obtain ⟨hx, hb, hr, hml, hown, hts, hK, hlo, hnm⟩ := id hC
  obtain ⟨ws, q0, hP, hD, hq, -, hset⟩ := hH.use hM
  exact va_iast hx hb (hK.va1 ht) hP hD hS q0 0 hq rfl hin hd (fun H1 locs1 hP1 hD1 hS1 => kk hC ad H1 locs1 ls (hset (.inl (t, nn, .inl (upd f i.toNatClampNeg x))) H1 trivial hP1 hD1) hL (fun q hq => ⟨((hk q hq).1).imp id mg_up_dom, (hk q hq).2⟩) (hlv.mono fun _ h => mg_up_dom h) (hst.tl.tl.tl.mono fun _ h => mg_up_dom h) hS1)
theorem mg_zaload {t a nn : Nat} {f : Nat → Int32} {i : Int32} (ht : mg_at[t]? = some .boolean) (hd : decode (mg_cc Y) pc = .ok (.baload, 1)) (hM : M a = some (.inl (t, nn, .inl f))) (hin : vp_in i nn) (kk : mg_G X Y Q M k j (pc + 1) lv (.int (f i.toNatClampNeg) :: rest)) : mg_G X Y Q M k j pc lv (.int i :: .ref a :: rest) := by
  obtain ⟨p, l, e, R, s, m, args, below, meth, c, D, gT, M0, ad0⟩ := X
  obtain ⟨yy, cc, n, ret⟩ := Y
  intro hC ad H locs ls hH hL hk hlv hst hS
  obtain ⟨hx, hb, hr, hml, hown, hts, hK, hlo, hnm⟩ := id hC
  obtain ⟨ws, q0, hP, hD, hq, -⟩ := hH.use hM
  exact va_zald hx hb (hK.va1 ht) hP q0 0 hq rfl hin hd (kk hC ad H locs ls hH hL hk hlv (hst.tl.tl.cons trivial) hS)
theorem mg_laload {t a nn : Nat} {f : Nat → Int64} {i : Int32} (ht : mg_at[t]? = some .long) (hd : decode (mg_cc Y) pc = .ok (.laload, 1)) (hM : M a = some (.inl (t, nn, .inr (.inl f)))) (hin : vp_in i nn) (kk : mg_G X Y Q M k j (pc + 1) lv (.long (f i.toNatClampNeg) :: rest)) : mg_G X Y Q M k j pc lv (.int i :: .ref a :: rest) := by
  obtain ⟨p, l, e, R, s, m, args, below, meth, c, D, gT, M0, ad0⟩ := X
  obtain ⟨yy, cc, n, ret⟩ := Y
  intro hC ad H locs ls hH hL hk hlv hst hS
  obtain ⟨hx, hb, hr, hml, hown, hts, hK, hlo, hnm⟩ := id hC
  obtain ⟨ws, q0, hP, hD, hq, -⟩ := hH.use hM
  exact va_lald hx hb (hK.va1 ht) hP q0 0 hq rfl hin hd (kk hC ad H locs ls hH hL hk hlv (hst.tl.tl.cons trivial) hS)
theorem mg_rf_tr (ad : Nat → Nat) (r : Option Nat) : mg_tr ad (va_rf r) = va_rf (r.map ad) := by cases r <;> rfl
theorem mg_aaload {t a nn : Nat} {C : String} {f : Nat → Option Nat} {i : Int32} (ht : mg_at[t]? = some (.object C)) (hd : decode (mg_cc Y) pc = .ok (.aaload, 1)) (hM : M a = some (.inl (t, nn, .inr (.inr (.inr (.inr f)))))) (hin : vp_in i nn) (kk : mg_G X Y Q M k j (pc + 1) lv (va_rf (f i.toNatClampNeg) :: rest)) : mg_G X Y Q M k j pc lv (.int i :: .ref a :: rest) := by
  obtain ⟨p, l, e, R, s, m, args, below, meth, c, D, gT, M0, ad0⟩ := X
  obtain ⟨yy, cc, n, ret⟩ := Y
  intro hC ad H locs ls hH hL hk hlv hst hS
  obtain ⟨hx, hb, hr, hml, hown, hts, hK, hlo, hnm⟩ := id hC
  obtain ⟨ws, q0, hP, hD, hq, -⟩ := hH.use hM
  have hcl : mg_cv M (va_rf (f i.toNatClampNeg)) := by
    cases hfi : f i.toNatClampNeg with
    | none => trivial
    | some z => exact (hH.closed hM) _ z hfi
  have kk := kk hC ad H locs ls hH hL hk hlv (hst.tl.tl.cons hcl) hS
  rw [List.map_cons, mg_rf_tr] at kk
  exact va_aldq hx hb (hK.va1 ht) hP q0 0 hq rfl hin hd kk
theorem mg_aastore {t a nn v ci : Nat} {E : String} {r : vw_C} {vs : List Value} {f : Nat → Option Nat} {i : Int32} (ht : mg_at[t]? = some (.object E)) (hc : mg_cl[ci]? = some r) (hca : r.1 = E ∨ Cond.castable r.1 E ∈ mg_NW) (hd : decode (mg_cc Y) pc = .ok (.aastore, 1)) (hM : M a = some (.inl (t, nn, .inr (.inr (.inr (.inr f)))))) (hV : M v = some (.inr (ci, vs))) (hin : vp_in i nn) (kk : mg_G X Y Q (mg_up M a (.inl (t, nn, .inr (.inr (.inr (.inr (va_up f i.toNatClampNeg (some v)))))))) k j (pc + 1) lv rest) : mg_G X Y Q M k j pc lv (.ref v :: .int i :: .ref a :: rest) := by
  obtain ⟨p, l, e, R, s, m, args, below, meth, c, D, gT, M0, ad0⟩ := X
  obtain ⟨yy, cc, n, ret⟩ := Y
  intro hC ad H locs ls hH hL hk hlv hst hS
  obtain ⟨hx, hb, hr, hml, hown, hts, hK, hlo, hnm⟩ := id hC
  obtain ⟨ws, q0, hP, hD, hq, hoth, hset⟩ := hH.use hM
  obtain ⟨q2, hq2⟩ := hoth v _ hV
  have hcE : mg_cE M (.inl (t, nn, .inr (.inr (.inr (.inr (va_up f i.toNatClampNeg (some v))))))) := fun z w hzw => by
    by_cases hz : z = i.toNatClampNeg
    · subst hz
      rw [show va_up f i.toNatClampNeg (some v) i.toNatClampNeg = some v by simp [va_up]] at hzw
      cases hzw
      exact Or.inr (mg_some hV)
    · rw [show va_up f i.toNatClampNeg (some v) z = f z by simp [va_up, hz]] at hzw
      exact (hH.closed hM) z w hzw
  have hmap : (fun z => ((va_up f i.toNatClampNeg (some v)) z).map ad) = va_up (fun z => (f z).map ad) i.toNatClampNeg (some (ad v)) := by
    funext z
    by_cases hz : z = i.toNatClampNeg
    · subst hz; simp [va_up]
    · simp [va_up, hz]
  have go : ∀ (H1 : Heap) (locs1 : List Loc), va_P D mg_cl (ws.set q0 (ad a, .inl (gT t, nn, .inr (.inr (.inr (.inr (va_up (fun z => (f z).map ad) i.toNatClampNeg (some (ad v))))))))) H1 → va_D (mg_A ad0 M0 s.heap.size) (ws.set q0 (ad a, .inl (gT t, nn, .inr (.inr (.inr (.inr (va_up (fun z => (f z).map ad) i.toNatClampNeg (some (ad v))))))))) → va_S (mg_A ad0 M0 s.heap.size) s.heap H1 locs1 → W p l e R s m args below meth c H1 locs1 k j Q (F0 m (pc + 1) ls (rest.map (mg_tr ad))) := fun H1 locs1 hP1 hD1 hS1 => by
    rw [← hmap] at hP1 hD1
    exact kk hC ad H1 locs1 ls (hset (.inl (t, nn, .inr (.inr (.inr (.inr (va_up f i.toNatClampNeg (some v))))))) H1 hcE hP1 hD1) hL (fun q hq => ⟨((hk q hq).1).imp id mg_up_dom, (hk q hq).2⟩) (hlv.mono fun _ h => mg_up_dom h) (hst.tl.tl.tl.mono fun _ h => mg_up_dom h) hS1
  rcases hca with rfl | hca
  · exact va_astq hx hb (hK.va1 ht) hP hD hS q0 0 q2 ci hq rfl hq2 hc hin hd go
  · exact va_astqO hx hb (hK.va1 ht) hP hD hS q0 0 q2 ci hq rfl (hK.2.2.1 _ hca) hq2 hc hin hd go
theorem mg_new {ix ci N h : Nat} {fs : List Value} (L : mg_NL (mg_own Y) ix ci N fs) (hd : decode (mg_cc Y) pc = .ok (.new ix, 3)) (hk0 : h ≠ 0) (hM : M h = none) (hcl : ∀ v ∈ fs, mg_cv M v) (hc1 : k + 1 ≤ (mg_R X).cells) (hc2 : j + N ≤ (mg_R X).slots) (kk : mg_G X Y Q (mg_up M h (.inr (ci, fs))) (k + 1) (j + N) (pc + 3) lv (.ref h :: rest)) : mg_G X Y Q M k j pc lv rest := by
  obtain ⟨p, l, e, R, s, m, args, below, meth, c, D, gT, M0, ad0⟩ := X
  obtain ⟨yy, cc, n, ret⟩ := Y
  intro hC ad H locs ls hH hL hk hlv hst hS
  obtain ⟨C, T, t0, hc, hin, hty, hw1, hw2, hw3, hfs, hmap⟩ := L
  obtain ⟨hx, hb, hr, hml, hown, hts, hK, hlo, hnm⟩ := id hC
  obtain ⟨ws, hP, hD, hnew⟩ := hH.new
  refine va_new hx hb hts hin t0 hty hown (hts _ hw1) (hts _ hw2) (hts _ hw3) hK.va hP hD hS (fun q hq => Or.inr hq) hc hfs hc1 hc2 hd (fun q H1 hP1 hD1 hS1 => ?_)
  have hE : mg_tE gT ad (.inr (ci, fs)) = .inr (ci, fs) := by show Sum.inr (ci, fs.map (mg_tr ad)) = _; rw [hmap]
  rw [← hE] at hP1 hD1
  have hH1 := hnew h (.inr (ci, fs)) q H1 hk0 hM hcl hP1 hD1
  have had : ∀ z, z = 0 ∨ M z ≠ none → va_up ad h q z = ad z := fun z hz => by
    have hne : z ≠ h := fun hzh => by
      subst hzh
      rcases hz with hz | hz
      · exact hk0 hz
      · exact hz hM
    simp [va_up, hne]
  have hLn : mg_L (va_up ad h q) n lv ls := ⟨hL.1, hL.2.1, fun i v hv => by rw [mg_tr_eq (hlv i v hv) had]; exact hL.2.2 i v hv⟩
  have hmp : rest.map (mg_tr ad) = rest.map (mg_tr (va_up ad h q)) := List.map_congr_left fun v hv => (mg_tr_eq (hst v hv) had).symm
  have hhd : (.ref q : Value) = mg_tr (va_up ad h q) (.ref h) := by show _ = Value.ref _; simp [va_up]
  rw [hmp, hhd]
  exact kk hC (va_up ad h q) H1 locs ls hH1 hLn (fun z hz => ⟨((hk z hz).1).imp id mg_up_dom, (had z (hk z hz).1).trans (hk z hz).2⟩) (hlv.mono fun _ hh => mg_up_dom hh) ((hst.mono fun _ hh => mg_up_dom hh).cons (Or.inr (by rw [mg_up_s]; exact fun hh => by cases hh))) hS1
theorem mg_newarr {t nn h : Nat} {z : Int32} (ht : mg_at[t]? = some .int) (hw : Cond.arrayClass .int ∈ mg_GT) (hd : decode (mg_cc Y) pc = .ok (.newarray .int, 2)) (hk0 : h ≠ 0) (hM : M h = none) (hz : ¬ z < 0) (hN : z.toNatClampNeg = nn) (hby : nn * 4 ≤ 536870912) (hc1 : k + 1 ≤ (mg_R X).cells) (hc2 : j + nn ≤ (mg_R X).slots) (kk : mg_G X Y Q (mg_up M h (.inl (t, nn, .inl (fun _ => 0)))) (k + 1) (j + nn) (pc + 2) lv (.ref h :: rest)) : mg_G X Y Q M k j pc lv (.int z :: rest) := by
  obtain ⟨p, l, e, R, s, m, args, below, meth, c, D, gT, M0, ad0⟩ := X
  obtain ⟨yy, cc, n, ret⟩ := Y
  intro hC ad H locs ls hH hL hk hlv hst hS
  obtain ⟨hx, hb, hr, hml, hown, hts, hK, hlo, hnm⟩ := id hC
  obtain ⟨ws, hP, hD, hnew⟩ := hH.new
  refine va_newa (atype := .int) (a0 := (nn, .inl (fun _ => 0))) hx hb (hts _ hw) rfl hK.va hP hD hS (fun q hq => Or.inr hq) (fun _ => rfl) hz hN hby hc1 hc2 hd (fun q cA H1 hKn hP1 hD1 hS1 => ?_)
  have hcA : cA = gT t := by
    have h1 := (hKn.2 0 _ rfl).2
    have h2 := (hK.2.1 t _ ht).2
    exact Option.some.inj (h1.symm.trans h2)
  subst hcA
  have hH1 := hnew h (.inl (t, nn, .inl (fun _ => 0))) q H1 hk0 hM trivial hP1 hD1
  have had : ∀ z, z = 0 ∨ M z ≠ none → va_up ad h q z = ad z := fun z hz => by
    have hne : z ≠ h := fun hzh => by
      subst hzh
      rcases hz with hz | hz
      · exact hk0 hz
      · exact hz hM
    simp [va_up, hne]
  have hLn : mg_L (va_up ad h q) n lv ls := ⟨hL.1, hL.2.1, fun i v hv => by rw [mg_tr_eq (hlv i v hv) had]; exact hL.2.2 i v hv⟩
  have hmp : rest.map (mg_tr ad) = rest.map (mg_tr (va_up ad h q)) := List.map_congr_left fun v hv => (mg_tr_eq (hst.tl v hv) had).symm
  have hhd : (.ref q : Value) = mg_tr (va_up ad h q) (.ref h) := by show _ = Value.ref _; simp [va_up]
  rw [hmp, hhd]
  exact kk hC (va_up ad h q) H1 locs ls hH1 hLn (fun z hz => ⟨((hk z hz).1).imp id mg_up_dom, (had z (hk z hz).1).trans (hk z hz).2⟩) (hlv.mono fun _ hh => mg_up_dom hh) ((hst.tl.mono fun _ hh => mg_up_dom hh).cons (Or.inr (by rw [mg_up_s]; exact fun hh => by cases hh))) hS1
theorem mg_anewarr {ix t nn h : Nat} {C : String} {z : Int32} (ht : mg_at[t]? = some (.object C)) (hw : Cond.classLink (mg_own Y) ix C ∈ mg_GT) (hao : C ∈ mg_AO) (hd : decode (mg_cc Y) pc = .ok (.anewarray ix, 3)) (hk0 : h ≠ 0) (hM : M h = none) (hz : ¬ z < 0) (hN : z.toNatClampNeg = nn) (hby : nn * 4 ≤ 536870912) (hc1 : k + 1 ≤ (mg_R X).cells) (hc2 : j + nn ≤ (mg_R X).slots) (kk : mg_G X Y Q (mg_up M h (.inl (t, nn, .inr (.inr (.inr (.inr (fun _ => none))))))) (k + 1) (j + nn) (pc + 3) lv (.ref h :: rest)) : mg_G X Y Q M k j pc lv (.int z :: rest) := by
  obtain ⟨p, l, e, R, s, m, args, below, meth, c, D, gT, M0, ad0⟩ := X
  obtain ⟨yy, cc, n, ret⟩ := Y
  intro hC ad H locs ls hH hL hk hlv hst hS
  obtain ⟨hx, hb, hr, hml, hown, hts, hK, hlo, hnm⟩ := id hC
  obtain ⟨ws, hP, hD, hnew⟩ := hH.new
  refine va_newq hx hb hown (hts _ hw) (hK.2.2.2 C hao) hK.va hP hD hS (fun q hq => Or.inr hq) hz hN hby hc1 hc2 hd (fun q cA H1 hKn hP1 hD1 hS1 => ?_)
  have hcA : cA = gT t := by
    obtain ⟨_, _, -, -, -, h1⟩ := (hKn.2 0 _ rfl).2
    obtain ⟨_, _, -, -, -, h2⟩ := (hK.2.1 t _ ht).2
    exact Option.some.inj (h1.symm.trans h2)
  subst hcA
  have hH1 := hnew h (.inl (t, nn, .inr (.inr (.inr (.inr (fun _ => none)))))) q H1 hk0 hM (fun _ _ hh => by cases hh) hP1 hD1
  have had : ∀ z, z = 0 ∨ M z ≠ none → va_up ad h q z = ad z := fun z hz => by
    have hne : z ≠ h := fun hzh => by
      subst hzh
      rcases hz with hz | hz
      · exact hk0 hz
      · exact hz hM
    simp [va_up, hne]
  have hLn : mg_L (va_up ad h q) n lv ls := ⟨hL.1, hL.2.1, fun i v hv => by rw [mg_tr_eq (hlv i v hv) had]; exact hL.2.2 i v hv⟩
  have hmp : rest.map (mg_tr ad) = rest.map (mg_tr (va_up ad h q)) := List.map_congr_left fun v hv => (mg_tr_eq (hst.tl v hv) had).symm
  have hhd : (.ref q : Value) = mg_tr (va_up ad h q) (.ref h) := by show _ = Value.ref _; simp [va_up]
  rw [hmp, hhd]
  exact kk hC (va_up ad h q) H1 locs ls hH1 hLn (fun z hz => ⟨((hk z hz).1).imp id mg_up_dom, (had z (hk z hz).1).trans (hk z hz).2⟩) (hlv.mono fun _ hh => mg_up_dom hh) ((hst.tl.mono fun _ hh => mg_up_dom hh).cons (Or.inr (by rw [mg_up_s]; exact fun hh => by cases hh))) hS1
end MGM
end
section
/-! CONTRACTS over the memory by handles -/
def mg_Pc (D : va_G) (gT ad : Nat → Nat) (M : mg_M) (av : List Value) (sz : Nat) : Array Value → State → Prop := va_Pc (av.map (mg_tr ad)) (fun U => U.heap.size = sz ∧ mg_H D gT mg_cl (fun _ => True) ad M U.heap ∧ mg_cS M av ∧ mg_K D gT U)
def mg_Qc (D : va_G) (gT ad : Nat → Nat) (M : mg_M) (post : Option Value → mg_M → Prop) (sz : Nat) : Array Value → State → Outcome → State → Prop := fun _ st oc t => (∃ (v : Option Value) (M' : mg_M) (ad' : Nat → Nat), oc = .returned (v.map (mg_tr ad')) ∧ post v M' ∧ (∀ q, (q = 0 ∨ M q ≠ none) → (q = 0 ∨ M' q ≠ none) ∧ ad' q = ad q) ∧ (∀ x, v = some x → mg_cv M' x) ∧ mg_H D gT mg_cl (mg_A ad M sz) ad' M' t.heap) ∧ va_F (mg_A ad M sz) st t
/-- a method's words: its code, and all the tables' -/
abbrev mg_ws (Y : mg_Y) : List Cond := Cond.code Y.1 (mg_cc Y) (mg_nl Y) (mg_ret Y) :: mg_GT
/-- THE CONTRACT of the method Y in the room rm: called with av over the memory M it returns, and answer and memory are as post says -/
def mg_Ct (Y : mg_Y) (rm : Room) (av : List Value) (M : mg_M) (post : Option Value → mg_M → Prop) : Prop := ∀ (l : Launch) (D : va_G) (gT ad : Nat → Nat) (sz : Nat), Met l Y.1 (mg_ws Y) rm (mg_Pc D gT ad M av sz) (mg_Qc D gT ad M post sz) rm.cells rm.slots (mg_A ad M sz)
def mg_Q (X : mg_X) (post : Option Value → mg_M → Prop) (rm : Room) : State → Prop := match X with
  | (_, _, _, _, s, _, args, below, _, _, D, gT, M0, ad0) => MQ below (mg_Qc D gT ad0 M0 post s.heap.size) args s rm.cells rm.slots (mg_A ad0 M0 s.heap.size)
def mg_en : List Value → List (Option Value)
  | [] => []
  | v :: r => match v.category with
    | 2 => some v :: none :: mg_en r
    | _ => some v :: mg_en r
def mg_ent (av : List Value) (n : Nat) : List (Option Value) := mg_en av ++ List.replicate (n - (mg_en av).length) none
theorem mg_en_mem (ad : Nat → Nat) : ∀ (av : List Value) (i t : Nat) (v : Value), (mg_en av)[t]? = some (some v) → (i + t, mg_tr ad v) ∈ lv_args i (av.map (mg_tr ad))
  | [], i, t, v, h => by simp [mg_en] at h
  | u :: r, i, t, v, h => by
    rcases lv_cat u with hc | hc
    · have e1 : mg_en (u :: r) = some u :: mg_en r := by simp [mg_en, hc]
      rw [e1] at h
      rw [List.map_cons, lv_args, mg_tr_cat, hc]
      cases t with
      | zero =>
        have : u = v := by simpa using h
        subst this
        exact List.mem_cons_self
      | succ t =>
        have h2 := mg_en_mem ad r (i + 1) t v (by simpa using h)
        refine List.mem_cons_of_mem _ ?_
        simpa [show i + 1 + t = i + (t + 1) by omega] using h2
    · have e1 : mg_en (u :: r) = some u :: none :: mg_en r := by simp [mg_en, hc]
      rw [e1] at h
      rw [List.map_cons, lv_args, mg_tr_cat, hc]
      cases t with
      | zero =>
        have : u = v := by simpa using h
        subst this
        exact List.mem_cons_self
      | succ t =>
        cases t with
        | zero => simp at h
        | succ t =>
          have h2 := mg_en_mem ad r (i + 2) t v (by simpa using h)
          refine List.mem_cons_of_mem _ ?_
          simpa [show i + 2 + t = i + (t + 1 + 1) by omega] using h2
theorem mg_en_len (ad : Nat → Nat) : ∀ av : List Value, (lg_sl (av.map (mg_tr ad))).length = (mg_en av).length
  | [] => rfl
  | u :: r => by
    have ih := mg_en_len ad r
    rcases lv_cat u with hc | hc
    · simp only [lg_sl, List.map_cons, List.flatMap_cons, mg_tr_cat, hc, mg_en] at ih ⊢
      simp at ih ⊢
      omega
    · simp only [lg_sl, List.map_cons, List.flatMap_cons, mg_tr_cat, hc, mg_en] at ih ⊢
      simp at ih ⊢
      omega
theorem mg_en_val : ∀ (av : List Value) (t : Nat) (v : Value), (mg_en av)[t]? = some (some v) → v ∈ av
  | [], t, v, h => by simp [mg_en] at h
  | u :: r, t, v, h => by
    rcases lv_cat u with hc | hc
    · have e1 : mg_en (u :: r) = some u :: mg_en r := by simp [mg_en, hc]
      rw [e1] at h
      cases t with
      | zero =>
        have : u = v := by simpa using h
        subst this
        exact List.mem_cons_self
      | succ t => exact List.mem_cons_of_mem _ (mg_en_val r t v (by simpa using h))
    · have e1 : mg_en (u :: r) = some u :: none :: mg_en r := by simp [mg_en, hc]
      rw [e1] at h
      cases t with
      | zero =>
        have : u = v := by simpa using h
        subst this
        exact List.mem_cons_self
      | succ t =>
        cases t with
        | zero => simp at h
        | succ t => exact List.mem_cons_of_mem _ (mg_en_val r t v (by simpa using h))
theorem mg_ent_get {av : List Value} {n t : Nat} {v : Value} (h : (mg_ent av n)[t]? = some (some v)) : (mg_en av)[t]? = some (some v) := by
  unfold mg_ent at h
  by_cases hl : t < (mg_en av).length
  · rw [List.getElem?_append_left hl] at h; exact h
  · rw [List.getElem?_append_right (by omega)] at h
    have := List.mem_of_getElem? h
    rw [List.mem_replicate] at this
    cases this.2
theorem mg_met {Y : mg_Y} {rm : Room} {av : List Value} {M : mg_M} {post : Option Value → mg_M → Prop} (lv : List (Option Value)) (hy : plainName Y.1.cls = true) (hlv : mg_ent av (mg_nl Y) = lv) (hle : (mg_en av).length ≤ mg_nl Y)
    (body : ∀ X : mg_X, mg_R X = rm → mg_M0 X = M → mg_G X Y (mg_Q X post rm) M 0 0 0 lv []) : mg_Ct Y rm av M post := by
  obtain ⟨y, cc, n, ret⟩ := Y
  intro l D gT ad sz
  refine Met.ofW (cc := cc) (maxL := n) (ret := ret) hy rfl ?_
  intro p e s m args below meth c s₁ B hml hv
  obtain ⟨rfl, hsz, hH, hcS, hK⟩ := hv
  have hts := fun w hw => atoms_spec (ws := Cond.code y cc n ret :: mg_GT) B.pre w (List.mem_cons_of_mem _ hw)
  have hown : s.vm.findClass y.cls = some m.cls := findClass_of_methodNamed B.named
  have hnm : meth.name = y.name := (name_of_methodNamed B.named B.method).1
  subst hsz
  subst hlv
  rw [lg_entry_eq]
  have hle2 : (lg_sl (av.map (mg_tr ad))).length ≤ n := by rw [mg_en_len]; exact hle
  have hl := lv_entry (av.map (mg_tr ad)) (n := n) hle2
  refine body (p, l, e, rm, s, m, (av.map (mg_tr ad)).toArray, below, meth, c, D, gT, M, ad) rfl rfl ⟨B.exec, B.bytes, B.returns, hml, hown, hts, hK, B.notSynchronized, hnm⟩ ad s.heap [] _ (hH.weaken fun k hk => Or.inl ⟨k, hk, rfl⟩) ⟨hl.1, hl.2.1, fun i v hv => ?_⟩ (fun q hq => ⟨hq, rfl⟩) (fun i v hv => hcS v (mg_en_val av i v (mg_ent_get hv))) (fun v hv => by cases hv) va_S.rf
  have h1 := mg_en_mem ad av 0 i v (mg_ent_get hv)
  rw [Nat.zero_add] at h1
  exact hl.2.2 _ h1
section MGRet
variable {X : mg_X} {Y : mg_Y} {M : mg_M} {k j pc : Nat} {lv : List (Option Value)} {post : Option Value → mg_M → Prop} {rm : Room}
theorem mg_qc {D : va_G} {gT ad0 ad : Nat → Nat} {M0 : mg_M} {s t : State} {H : Heap} {v : Option Value} {a : Array Value} {locs : List Loc} (hH : mg_H D gT mg_cl (mg_A ad0 M0 s.heap.size) ad M H) (hk : ∀ q, (q = 0 ∨ M0 q ≠ none) → (q = 0 ∨ M q ≠ none) ∧ ad q = ad0 q) (hv : ∀ x, v = some x → mg_cv M x) (hp : post v M) (hS : va_S (mg_A ad0 M0 s.heap.size) s.heap H locs) (ht : t.heap = H) : mg_Qc D gT ad0 M0 post s.heap.size a s (.returned (v.map (mg_tr ad))) t :=
  ⟨⟨v, M, ad, rfl, hp, hk, hv, by rw [ht]; exact hH⟩, hS.F ht⟩
theorem mg_ireturn {v : Int32} {ty : FieldType} (hd : decode (mg_cc Y) pc = .ok (.ireturn, 1)) (hr : mg_ret Y = some ty) (hn : narrow ty (.int v) = .int v) (hc1 : k ≤ rm.cells) (hc2 : j ≤ rm.slots) (hp : post (some (.int v)) M) : mg_G X Y (mg_Q X post rm) M k j pc lv [.int v] := by
  obtain ⟨p, l, e, R, s, m, args, below, meth, c, D, gT, M0, ad0⟩ := X
  obtain ⟨yy, cc, n, ret⟩ := Y
  intro hC ad H locs ls hH hL hk hlv hst hS
  refine W.widen hc1 hc2 ?_
  exact W.zret hC.1 hC.2.1 (hC.2.2.1.trans hr) hn (fun t ht hW => mg_qc (v := some (.int v)) hH hk (fun x hx => by cases hx; trivial) hp hS ht) hS.2.2 hd hC.2.2.2.2.2.2.2.1
theorem mg_lreturn {v : Int64} (hd : decode (mg_cc Y) pc = .ok (.lreturn, 1)) (hr : mg_ret Y = some .long) (hc1 : k ≤ rm.cells) (hc2 : j ≤ rm.slots) (hp : post (some (.long v)) M) : mg_G X Y (mg_Q X post rm) M k j pc lv [.long v] := by
  obtain ⟨p, l, e, R, s, m, args, below, meth, c, D, gT, M0, ad0⟩ := X
  obtain ⟨yy, cc, n, ret⟩ := Y
  intro hC ad H locs ls hH hL hk hlv hst hS
  refine W.widen hc1 hc2 ?_
  exact W.lret hC.1 hC.2.1 (hC.2.2.1.trans hr) (fun t ht hW => mg_qc (v := some (.long v)) hH hk (fun x hx => by cases hx; trivial) hp hS ht) hS.2.2 hd hC.2.2.2.2.2.2.2.1
theorem mg_return (hd : decode (mg_cc Y) pc = .ok (.return_, 1)) (hr : mg_ret Y = none) (hc1 : k ≤ rm.cells) (hc2 : j ≤ rm.slots) (hp : post none M) : mg_G X Y (mg_Q X post rm) M k j pc lv [] := by
  obtain ⟨p, l, e, R, s, m, args, below, meth, c, D, gT, M0, ad0⟩ := X
  obtain ⟨yy, cc, n, ret⟩ := Y
  intro hC ad H locs ls hH hL hk hlv hst hS
  refine W.widen hc1 hc2 ?_
  exact W.vret hC.1 hC.2.1 (hC.2.2.1.trans hr) (fun t ht hW => mg_qc (v := none) hH hk (fun x hx => by cases hx) hp hS ht) hS.2.2 hd hC.2.2.2.2.2.2.2.1
theorem mg_areturn {v : Value} {C : String} (hd : decode (mg_cc Y) pc = .ok (.areturn, 1)) (hr : mg_ret Y = some (.object C)) (hv : v = .null ∨ ∃ a, v = .ref a) (hc1 : k ≤ rm.cells) (hc2 : j ≤ rm.slots) (hp : post (some v) M) : mg_G X Y (mg_Q X post rm) M k j pc lv [v] := by
  obtain ⟨p, l, e, R, s, m, args, below, meth, c, D, gT, M0, ad0⟩ := X
  obtain ⟨yy, cc, n, ret⟩ := Y
  intro hC ad H locs ls hH hL hk hlv hst hS
  refine W.widen hc1 hc2 ?_
  have hv2 : mg_tr ad v = .null ∨ ∃ a, mg_tr ad v = .ref a := by
    rcases hv with rfl | ⟨a, rfl⟩
    · exact Or.inl rfl
    · exact Or.inr ⟨ad a, rfl⟩
  exact W.aret hC.1 hC.2.1 (hC.2.2.1.trans hr) (Or.inl ⟨C, rfl⟩) hv2 (fun t ht hW => mg_qc (v := some v) hH hk (fun x hx => by cases hx; exact hst.hd) hp hS ht) hS.2.2 hd hC.2.2.2.2.2.2.2.1
end MGRet
/-! CALLS -/
theorem mg_blind {D : va_G} {gT ad : Nat → Nat} {M : mg_M} {av : List Value} {sz : Nat} : FrameBlind (mg_Pc D gT ad M av sz) := fun a U g mk h => ⟨h.1, h.2.1, h.2.2.1, h.2.2.2.1, h.2.2.2.2.call⟩
section MGCall
variable {p : Program} {l : Launch} {e : Env} {R : Room} {s : State} {m : MethodId} {args : Array Value} {below : List Frame} {meth : Method} {c : Code} {D : va_G} {gT : Nat → Nat} {M0 : mg_M} {ad0 : Nat → Nat}
variable {Y : mg_Y} {Q : State → Prop} {M : mg_M} {k j pc : Nat} {lv : List (Option Value)} {rest st0 : List Value} {post : Option Value → mg_M → Prop} {rm : Room}
/-- behind a call -/
theorem mg_behind {ad : Nat → Nat} {H : Heap} {locs : List Loc} {ls : Array Slot} {a : Array Value} (hC : mg_C (p, l, e, R, s, m, args, below, meth, c, D, gT, M0, ad0) Y) (hH : mg_H D gT mg_cl (mg_A ad0 M0 s.heap.size) ad M H) (hL : mg_L ad (mg_nl Y) lv ls) (hk : ∀ q, (q = 0 ∨ M0 q ≠ none) → (q = 0 ∨ M q ≠ none) ∧ ad q = ad0 q) (hlv : mg_cL M lv) (hst : mg_cS M rest) (hS : va_S (mg_A ad0 M0 s.heap.size) s.heap H locs)
    (hr : va_Run p l e R s m args below meth c H locs k j rm.cells rm.slots (F0 m pc ls st0) (rest.map (mg_tr ad)) (mg_Qc D gT ad M post H.size a) (mg_A ad M H.size))
    (kk : ∀ (v : Option Value) (M' : mg_M), post v M' → mg_G (p, l, e, R, s, m, args, below, meth, c, D, gT, M0, ad0) Y Q M' (k + rm.cells) (j + rm.slots) (pc + 3) lv (v.toList ++ rest)) : W p l e R s m args below meth c H locs k j Q (F0 m pc ls st0) := by
  intro T hT X
  obtain ⟨v0, st₀, t, T', L, h0, X', hL2, e1, e2, ⟨⟨v, M', ad', hv, hp, hdom, hcv, hH'⟩, hz, hkp⟩, st⟩ := hr T hT X
  rw [h0] at hz hkp
  have hv0 : v0 = v.map (mg_tr ad') := Outcome.returned.inj hv
  subst hv0
  have hAA : ∀ q, mg_A ad M H.size q → mg_A ad0 M0 s.heap.size q := fun q hq => by
    rcases hq with ⟨z, hz1, rfl⟩ | hq
    · exact (hH.inA hz1).1
    · exact Or.inr (Nat.le_trans hS.1 hq)
  have hdm : ∀ q, M q ≠ none → M' q ≠ none := fun q hq => by
    rcases (hdom q (Or.inr hq)).1 with h | h
    · subst h; exact absurd hH.2.2.2 hq
    · exact h
  have hH2 : mg_H D gT mg_cl (mg_A ad0 M0 s.heap.size) ad' M' T'.heap := by
    rw [e1]
    exact hH'.weaken fun q hq => hAA _ (hH'.inA hq).1
  have hLn : mg_L ad' (mg_nl Y) lv ls := ⟨hL.1, hL.2.1, fun i w hw => by rw [mg_tr_eq (hlv i w hw) (fun q hq => (hdom q hq).2)]; exact hL.2.2 i w hw⟩
  have hS2 : va_S (mg_A ad0 M0 s.heap.size) s.heap T'.heap (locs ++ L) := ⟨Nat.le_trans hS.1 (by rw [e1]; exact hz), fun q h1 h2 => by rw [e1, hkp q (Nat.lt_of_lt_of_le h1 hS.1) (fun z => h2 (hAA q z))]; exact hS.2.1 q h1 h2, fun q hq => by
      rcases List.mem_append.mp hq with h | h
      · exact hS.2.2 q h
      · exact hAA _ (hL2 q h)⟩
  have hmp : (v.map (mg_tr ad')).toList = v.toList.map (mg_tr ad') := by cases v <;> rfl
  have hrs : rest.map (mg_tr ad) = rest.map (mg_tr ad') := List.map_congr_left fun w hw => (mg_tr_eq (hst w hw) (fun q hq => (hdom q hq).2)).symm
  have hcs : mg_cS M' (v.toList ++ rest) := mg_cS.app (fun x hx => hcv x (by cases v with
    | none => simp at hx
    | some y => simp at hx; rw [hx])) (hst.mono hdm)
  have K := kk v M' hp hC ad' T'.heap (locs ++ L) ls hH2 hLn (fun q hq => ⟨((hk q hq).1).imp id (hdm q), ((hdom q (hk q hq).1).2).trans (hk q hq).2⟩) (hlv.mono hdm) hcs hS2
  obtain ⟨t2, a1, b1⟩ := K T' rfl X'
  refine ⟨t2, st t2 ?_, b1⟩
  rw [List.map_append, ← hmp, ← hrs] at a1
  exact a1
end MGCall
end
section
/-! a call's static facts, and the call -/
def mg_BL (Y' : mg_Y) (n : Nat) : Prop := Cond.code Y'.1 (mg_cc Y') (mg_nl Y') (mg_ret Y') ∈ mg_GT ∧ Cond.initialized Y'.1.cls ∈ mg_GT ∧ (Y'.1.cls ≠ "java/lang/invoke/MethodHandle" ∧ Y'.1.cls ≠ "java/lang/invoke/VarHandle" ∧ (parseMethodDescriptor Y'.1.desc).map (fun d => d.parameters.length) = some n)
theorem mg_good {Y' : mg_Y} (h : Cond.code Y'.1 (mg_cc Y') (mg_nl Y') (mg_ret Y') ∈ mg_GT) : GoodIn mg_GT (mg_ws Y') := fun w hw => by
  rcases List.mem_cons.mp hw with rfl | hw
  · exact ⟨h, mg_GT_good _ h⟩
  · exact ⟨hw, mg_GT_good _ hw⟩
def mg_KL (Y Y' : mg_Y) (ix : Nat) : Prop := Cond.methodLink (mg_own Y) ix Y'.1 ∈ mg_GT ∨ ∃ host, Cond.methodLinkNest (mg_own Y) ix Y'.1 host ∈ mg_NW
def mg_VL (Y Y' : mg_Y) (ix n : Nat) : Prop := mg_BL Y' n ∧ mg_KL Y Y' ix ∧ Cond.instanceMethod Y'.1 ∈ mg_GT ∧ Cond.selects Y'.1.cls Y'.1 Y'.1 ∈ mg_GT
def mg_IL (Y Y' : mg_Y) (ix n : Nat) : Prop := mg_BL Y' n ∧ mg_KL Y Y' ix ∧ Cond.instanceMethod Y'.1 ∈ mg_GT ∧ Y'.1.name = "<init>" ∧ mg_ret Y' = none
def mg_SL (Y Y' : mg_Y) (ix n : Nat) : Prop := mg_BL Y' n ∧ mg_KL Y Y' ix ∧ Cond.static Y'.1 ∈ mg_GT
/-- the named method x is abstract, declared by owner -/
def mg_UL (Y Y' : mg_Y) (x : MethodName) (ix n : Nat) : Prop := mg_BL Y' n ∧ Cond.methodLink (mg_own Y) ix x ∈ mg_GT ∧ Cond.sameMethod x.cls x.cls x.name x.desc ∈ mg_GT ∧ Cond.selects Y'.1.cls x Y'.1 ∈ mg_GT ∧ Cond.instanceMethod Y'.1 ∈ mg_GT ∧ Cond.declares ⟨x.cls, x.name, x.desc⟩ ∈ mg_NW ∧ (x.cls ≠ "java/lang/invoke/MethodHandle" ∧ x.cls ≠ "java/lang/invoke/VarHandle" ∧ (parseMethodDescriptor x.desc).map (fun d => d.parameters.length) = some n)
theorem mg_cats (ad : Nat → Nat) (rest : List Value) : ((rest.map (mg_tr ad)).map fun v => v.category) = rest.map fun v => v.category := by
  rw [List.map_map]
  exact List.map_congr_left fun v _ => mg_tr_cat ad v
section MGCalls
variable {X : mg_X} {Y Y' : mg_Y} {Q : State → Prop} {M : mg_M} {k j pc ix n : Nat} {lv : List (Option Value)} {rest st0 As : List Value} {post : Option Value → mg_M → Prop} {rm : Room}
theorem mg_callV {b ci : Nat} {fs : List Value} {r : vw_C} (V : mg_VL Y Y' ix n) (hd : decode (mg_cc Y) pc = .ok (.invokevirtual ix, 3)) (hM : M b = some (.inr (ci, fs))) (hc : mg_cl[ci]? = some r) (hrc : r.1 = Y'.1.cls) (ct : mg_Ct Y' rm (.ref b :: As) M post) (hs0 : st0 = As.reverse ++ .ref b :: rest) (hn : As.length = n) (hf : rm.frames + 1 ≤ (mg_R X).frames ∧ 8 + (mg_nl Y' + 11) + rm.locals ≤ (mg_R X).locals) (hcs : k + rm.cells ≤ (mg_R X).cells ∧ j + rm.slots ≤ (mg_R X).slots) (hrs : (rest.map fun v => v.category).sum ≤ 8)
    (kk : ∀ (v : Option Value) (M' : mg_M), post v M' → mg_G X Y Q M' (k + rm.cells) (j + rm.slots) (pc + 3) lv (v.toList ++ rest)) : mg_G X Y Q M k j pc lv st0 := by
  obtain ⟨p, l, e, R, s, m, args, below, meth, c, D, gT, M0, ad0⟩ := X
  obtain ⟨yy, cc, nn, ret⟩ := Y
  intro hC ad H locs ls hH hL hk hlv hst hS
  obtain ⟨hx, hb, hr, hml, hown, hts, hK, hlo, hnm⟩ := id hC
  obtain ⟨⟨hG0, hini, hdd⟩, hl, hin, hsel⟩ := V
  subst hs0
  have hcl1 : mg_cS M As := fun v hv => hst v (List.mem_append_left _ (List.mem_reverse.mpr hv))
  have hcl2 : mg_cS M (.ref b :: rest) := fun v hv => hst v (List.mem_append_right _ hv)
  obtain ⟨ws, q0, hP, hD, hq, -⟩ := hH.use hM
  have hrecv := va_recv hK.va hP hc hq
  rw [hrc] at hrecv
  have hpre : PreV s H Y'.1.cls (ad b) (mg_Pc D gT ad M (.ref b :: As) H.size) (As.map (mg_tr ad)) := ⟨mg_blind, hrecv, fun U hU hW => ⟨rfl, by rw [hU], by rw [hU]; exact hH.weaken fun _ _ => trivial, hcl1.cons hcl2.hd, hK.warm hW⟩⟩
  have hroom : 2 * (F0 m pc ls ((As.reverse ++ Value.ref b :: rest).map (mg_tr ad))).monitorRoom + ((rest.map (mg_tr ad)).map fun v => v.category).sum ≤ 8 := lv_room (by rw [mg_cats]; exact hrs)
  have hstk : (F0 m pc ls ((As.reverse ++ Value.ref b :: rest).map (mg_tr ad))).stack = (As.map (mg_tr ad)).reverse ++ Value.ref (ad b) :: rest.map (mg_tr ad) := by
    show (As.reverse ++ Value.ref b :: rest).map (mg_tr ad) = _
    rw [List.map_append, List.map_reverse]; rfl
  refine mg_behind (a := (Value.ref (ad b) :: As.map (mg_tr ad)).toArray) (rm := rm) (post := post) hC hH hL hk hlv hcl2.tl hS ?_ kk
  rcases hl with hl | ⟨host, hl⟩
  · exact va_runV (n := n) (C := Y'.1.cls) ⟨hx, hb, hml, hown, hts⟩ (ct l D gT ad H.size) ⟨callB_of n hts (mg_good hG0) rfl rfl rfl (hts _ hini) (hts _ hl) hdd hf, hts _ hin, hts _ hsel⟩ hpre rfl (by rw [List.length_map]; exact hn) hL.1 hstk hroom hd hcs
  · exact va_runVN (n := n) (C := Y'.1.cls) (host := host) ⟨hx, hb, hml, hown, hts⟩ (ct l D gT ad H.size) ⟨va_cnB n hts (mg_good hG0) rfl rfl rfl (hK.2.2.1 _ hl) (hts _ hini) hdd hf, hts _ hin, hts _ hsel⟩ hpre rfl (by rw [List.length_map]; exact hn) hL.1 hstk hroom hd hcs
theorem mg_callI {b : Nat} (V : mg_IL Y Y' ix n) (hd : decode (mg_cc Y) pc = .ok (.invokespecial ix, 3)) (ct : mg_Ct Y' rm (.ref b :: As) M post) (hs0 : st0 = As.reverse ++ .ref b :: rest) (hn : As.length = n) (hf : rm.frames + 1 ≤ (mg_R X).frames ∧ 8 + (mg_nl Y' + 11) + rm.locals ≤ (mg_R X).locals) (hcs : k + rm.cells ≤ (mg_R X).cells ∧ j + rm.slots ≤ (mg_R X).slots) (hrs : (rest.map fun v => v.category).sum ≤ 8)
    (kk : ∀ (v : Option Value) (M' : mg_M), post v M' → mg_G X Y Q M' (k + rm.cells) (j + rm.slots) (pc + 3) lv (v.toList ++ rest)) : mg_G X Y Q M k j pc lv st0 := by
  obtain ⟨p, l, e, R, s, m, args, below, meth, c, D, gT, M0, ad0⟩ := X
  obtain ⟨yy, cc, nn, ret⟩ := Y
  obtain ⟨y', cc', nn', ret'⟩ := Y'
  intro hC ad H locs ls hH hL hk hlv hst hS
  obtain ⟨hx, hb, hr, hml, hown, hts, hK, hlo, hnm⟩ := id hC
  obtain ⟨⟨hG0, hini, hdd⟩, hl, hin, hnmi, hret⟩ := V
  have hret2 : ret' = none := hret
  subst hret2
  subst hs0
  have hcl1 : mg_cS M As := fun v hv => hst v (List.mem_append_left _ (List.mem_reverse.mpr hv))
  have hcl2 : mg_cS M (.ref b :: rest) := fun v hv => hst v (List.mem_append_right _ hv)
  have hpre : PreS s H (mg_Pc D gT ad M (.ref b :: As) H.size) (.ref (ad b) :: As.map (mg_tr ad)) := ⟨mg_blind, fun U hU hW => ⟨rfl, by rw [hU], by rw [hU]; exact hH.weaken fun _ _ => trivial, hcl1.cons hcl2.hd, hK.warm hW⟩⟩
  have hroom : 2 * (F0 m pc ls ((As.reverse ++ Value.ref b :: rest).map (mg_tr ad))).monitorRoom + ((rest.map (mg_tr ad)).map fun v => v.category).sum ≤ 8 := lv_room (by rw [mg_cats]; exact hrs)
  have hstk : (F0 m pc ls ((As.reverse ++ Value.ref b :: rest).map (mg_tr ad))).stack = (As.map (mg_tr ad)).reverse ++ Value.ref (ad b) :: rest.map (mg_tr ad) := by
    show (As.reverse ++ Value.ref b :: rest).map (mg_tr ad) = _
    rw [List.map_append, List.map_reverse]; rfl
  refine mg_behind (a := (Value.ref (ad b) :: As.map (mg_tr ad)).toArray) (rm := rm) (post := post) hC hH hL hk hlv hcl2.tl hS ?_ kk
  rcases hl with hl | ⟨host, hl⟩
  · exact va_runI (n := n) ⟨hx, hb, hml, hown, hts⟩ (ct l D gT ad H.size) ⟨callB_of n hts (mg_good hG0) rfl rfl rfl (hts _ hini) (hts _ hl) hdd hf, hnmi, hts _ hin⟩ hpre rfl (by rw [List.length_map]; exact hn) hL.1 hstk hroom hd hcs
  · exact va_runIN (n := n) (host := host) ⟨hx, hb, hml, hown, hts⟩ (ct l D gT ad H.size) ⟨va_cnB n hts (mg_good hG0) rfl rfl rfl (hK.2.2.1 _ hl) (hts _ hini) hdd hf, hnmi, hts _ hin⟩ hpre rfl (by rw [List.length_map]; exact hn) hL.1 hstk hroom hd hcs
theorem mg_callS (V : mg_SL Y Y' ix n) (hd : decode (mg_cc Y) pc = .ok (.invokestatic ix, 3)) (ct : mg_Ct Y' rm As M post) (hs0 : st0 = As.reverse ++ rest) (hn : As.length = n) (hf : rm.frames + 1 ≤ (mg_R X).frames ∧ 8 + (mg_nl Y' + 11) + rm.locals ≤ (mg_R X).locals) (hcs : k + rm.cells ≤ (mg_R X).cells ∧ j + rm.slots ≤ (mg_R X).slots) (hrs : (rest.map fun v => v.category).sum ≤ 8)
    (kk : ∀ (v : Option Value) (M' : mg_M), post v M' → mg_G X Y Q M' (k + rm.cells) (j + rm.slots) (pc + 3) lv (v.toList ++ rest)) : mg_G X Y Q M k j pc lv st0 := by
  obtain ⟨p, l, e, R, s, m, args, below, meth, c, D, gT, M0, ad0⟩ := X
  obtain ⟨yy, cc, nn, ret⟩ := Y
  intro hC ad H locs ls hH hL hk hlv hst hS
  obtain ⟨hx, hb, hr, hml, hown, hts, hK, hlo, hnm⟩ := id hC
  obtain ⟨⟨hG0, hini, hdd⟩, hl, hstc⟩ := V
  subst hs0
  have hcl1 : mg_cS M As := fun v hv => hst v (List.mem_append_left _ (List.mem_reverse.mpr hv))
  have hcl2 : mg_cS M rest := fun v hv => hst v (List.mem_append_right _ hv)
  have hpre : PreS s H (mg_Pc D gT ad M As H.size) (As.map (mg_tr ad)) := ⟨mg_blind, fun U hU hW => ⟨rfl, by rw [hU], by rw [hU]; exact hH.weaken fun _ _ => trivial, hcl1, hK.warm hW⟩⟩
  have hroom : 2 * (F0 m pc ls ((As.reverse ++ rest).map (mg_tr ad))).monitorRoom + ((rest.map (mg_tr ad)).map fun v => v.category).sum ≤ 8 := lv_room (by rw [mg_cats]; exact hrs)
  have hstk : (F0 m pc ls ((As.reverse ++ rest).map (mg_tr ad))).stack = (As.map (mg_tr ad)).reverse ++ rest.map (mg_tr ad) := by
    show (As.reverse ++ rest).map (mg_tr ad) = _
    rw [List.map_append, List.map_reverse]
  refine mg_behind (a := (As.map (mg_tr ad)).toArray) (rm := rm) (post := post) hC hH hL hk hlv hcl2 hS ?_ kk
  rcases hl with hl | ⟨host, hl⟩
  · exact va_runS (n := n) ⟨hx, hb, hml, hown, hts⟩ (ct l D gT ad H.size) ⟨callB_of n hts (mg_good hG0) rfl rfl rfl (hts _ hini) (hts _ hl) hdd hf, hts _ hstc⟩ hpre rfl (by rw [List.length_map]; exact hn) hL.1 hstk hroom hd hcs
  · exact va_runSN (n := n) (host := host) ⟨hx, hb, hml, hown, hts⟩ (ct l D gT ad H.size) ⟨va_cnB n hts (mg_good hG0) rfl rfl rfl (hK.2.2.1 _ hl) (hts _ hini) hdd hf, hts _ hstc, trivial⟩ hpre rfl (by rw [List.length_map]; exact hn) hL.1 hstk hroom hd hcs
theorem mg_callU {b ci : Nat} {fs : List Value} {r : vw_C} {x : MethodName} (V : mg_UL Y Y' x ix n) (hd : decode (mg_cc Y) pc = .ok (.invokevirtual ix, 3)) (hM : M b = some (.inr (ci, fs))) (hc : mg_cl[ci]? = some r) (hrc : r.1 = Y'.1.cls) (ct : mg_Ct Y' rm (.ref b :: As) M post) (hs0 : st0 = As.reverse ++ .ref b :: rest) (hn : As.length = n) (hf : rm.frames + 1 ≤ (mg_R X).frames ∧ 8 + (mg_nl Y' + 11) + rm.locals ≤ (mg_R X).locals) (hcs : k + rm.cells ≤ (mg_R X).cells ∧ j + rm.slots ≤ (mg_R X).slots) (hrs : (rest.map fun v => v.category).sum ≤ 8)
    (kk : ∀ (v : Option Value) (M' : mg_M), post v M' → mg_G X Y Q M' (k + rm.cells) (j + rm.slots) (pc + 3) lv (v.toList ++ rest)) : mg_G X Y Q M k j pc lv st0 := by
  obtain ⟨p, l, e, R, s, m, args, below, meth, c, D, gT, M0, ad0⟩ := X
  obtain ⟨yy, cc, nn, ret⟩ := Y
  intro hC ad H locs ls hH hL hk hlv hst hS
  obtain ⟨hx, hb, hr, hml, hown, hts, hK, hlo, hnm⟩ := id hC
  obtain ⟨⟨hG0, hini, hdd⟩, hl, hsm, hsel, hin, hdec, hxx⟩ := V
  subst hs0
  have hcl1 : mg_cS M As := fun v hv => hst v (List.mem_append_left _ (List.mem_reverse.mpr hv))
  have hcl2 : mg_cS M (.ref b :: rest) := fun v hv => hst v (List.mem_append_right _ hv)
  obtain ⟨ws, q0, hP, hD, hq, -⟩ := hH.use hM
  have hrecv := va_recv hK.va hP hc hq
  rw [hrc] at hrecv
  have hpre : PreV s H Y'.1.cls (ad b) (mg_Pc D gT ad M (.ref b :: As) H.size) (As.map (mg_tr ad)) := ⟨mg_blind, hrecv, fun U hU hW => ⟨rfl, by rw [hU], by rw [hU]; exact hH.weaken fun _ _ => trivial, hcl1.cons hcl2.hd, hK.warm hW⟩⟩
  have hroom : 2 * (F0 m pc ls ((As.reverse ++ Value.ref b :: rest).map (mg_tr ad))).monitorRoom + ((rest.map (mg_tr ad)).map fun v => v.category).sum ≤ 8 := lv_room (by rw [mg_cats]; exact hrs)
  have hstk : (F0 m pc ls ((As.reverse ++ Value.ref b :: rest).map (mg_tr ad))).stack = (As.map (mg_tr ad)).reverse ++ Value.ref (ad b) :: rest.map (mg_tr ad) := by
    show (As.reverse ++ Value.ref b :: rest).map (mg_tr ad) = _
    rw [List.map_append, List.map_reverse]; rfl
  have hcode : Cond.code Y'.1 (mg_cc Y') (mg_nl Y') (mg_ret Y') ∈ mg_ws Y' := List.mem_cons_self
  have hlen : ∀ sig, parseMethodDescriptor x.desc = some sig → n = sig.parameters.length := fun sig h => by
    have h2 := hxx.2.2
    rw [h] at h2
    exact (Option.some.inj h2).symm
  refine mg_behind (a := (Value.ref (ad b) :: As.map (mg_tr ad)).toArray) (rm := rm) (post := post) hC hH hL hk hlv hcl2.tl hS ?_ kk
  exact va_runU (n := n) (C := Y'.1.cls) (owner := x.cls) (x := x) ⟨hx, hb, hml, hown, hts⟩ (ct l D gT ad H.size) ⟨⟨rfl, rfl, hf.1, hf.2, pay_in hts (mg_good hG0), hcode⟩, hts _ hG0, hts _ hini, ⟨hxx.1, hxx.2.1⟩, hlen, hts _ hl, hts _ hsm, va_Decl.abs (hK.2.2.1 _ hdec), hts _ hsel, hts _ hin⟩ hpre rfl (by rw [List.length_map]; exact hn) hL.1 hstk hroom hd hcs
/-- Object.<init> -/
theorem mg_objInit {a : Nat} (hw1 : Cond.methodLink (mg_own Y) ix Lib.objectInit ∈ mg_GT) (hw2 : Cond.instanceMethod Lib.objectInit ∈ mg_GT) (hw3 : Cond.code Lib.objectInit ⟨#[0xb1]⟩ 1 none ∈ mg_GT) (hd : decode (mg_cc Y) pc = .ok (.invokespecial ix, 3)) (hf : 1 ≤ (mg_R X).frames) (hlo : (rest.map fun v => v.category).sum + 12 ≤ (mg_R X).locals) (kk : mg_G X Y Q M k j (pc + 3) lv rest) : mg_G X Y Q M k j pc lv (.ref a :: rest) := by
  obtain ⟨p, l, e, R, s, m, args, below, meth, c, D, gT, M0, ad0⟩ := X
  obtain ⟨yy, cc, nn, ret⟩ := Y
  intro hC ad H locs ls hH hL hk hlv hst hS
  obtain ⟨hx, hb, hr, hml, hown, hts, hK, hlo2, hnm⟩ := id hC
  refine W.objInit hx hb hown (hts _ hw1) (hts _ hw2) (hts _ hw3) rfl (by rw [hml]; exact hL.1) rfl hd hf ?_ (kk hC ad H locs ls hH hL hk hlv hst.tl hS)
  rw [mg_cats]
  have hlo3 : (rest.map fun v => v.category).sum + 12 ≤ R.locals := hlo
  show 2 * 0 + _ + 12 ≤ _
  omega
theorem mg_max {x y : Int32} (hw1 : Cond.methodLink (mg_own Y) ix Lib.Math.max.name ∈ mg_GT) (hw2 : Cond.static Lib.Math.max.name ∈ mg_GT) (hw3 : Cond.initialized "java/lang/Math" ∈ mg_GT) (hw4 : Cond.code Lib.Math.max.name Lib.Math.max.code 2 (some .int) ∈ mg_GT) (hd : decode (mg_cc Y) pc = .ok (.invokestatic ix, 3)) (hf : 1 ≤ (mg_R X).frames) (hlo : (rest.map fun v => v.category).sum + 13 ≤ (mg_R X).locals) (hc1 : k ≤ (mg_R X).cells) (hc2 : j ≤ (mg_R X).slots) (kk : mg_G X Y Q M k j (pc + 3) lv (.int (if x < y then y else x) :: rest)) : mg_G X Y Q M k j pc lv (.int y :: .int x :: rest) := by
  obtain ⟨p, l, e, R, s, m, args, below, meth, c, D, gT, M0, ad0⟩ := X
  obtain ⟨yy, cc, nn, ret⟩ := Y
  intro hC ad H locs ls hH hL hk hlv hst hS
  obtain ⟨hx, hb, hr, hml, hown, hts, hK, hlo2, hnm⟩ := id hC
  exact va_mmax hx hb (by rw [hml]; exact hL.1.symm) hown (hts _ hw1) (hts _ hw2) (hts _ hw3) (hts _ hw4) hf (by rw [mg_cats]; exact hlo) hc1 hc2 hd (kk hC ad H locs ls hH hL hk hlv (hst.tl.tl.cons trivial) hS)
theorem mg_min {x y : Int32} (hw1 : Cond.methodLink (mg_own Y) ix Lib.Math.min.name ∈ mg_GT) (hw2 : Cond.static Lib.Math.min.name ∈ mg_GT) (hw3 : Cond.initialized "java/lang/Math" ∈ mg_GT) (hw4 : Cond.code Lib.Math.min.name Lib.Math.min.code 2 (some .int) ∈ mg_GT) (hd : decode (mg_cc Y) pc = .ok (.invokestatic ix, 3)) (hf : 1 ≤ (mg_R X).frames) (hlo : (rest.map fun v => v.category).sum + 13 ≤ (mg_R X).locals) (hc1 : k ≤ (mg_R X).cells) (hc2 : j ≤ (mg_R X).slots) (kk : mg_G X Y Q M k j (pc + 3) lv (.int (if y < x then y else x) :: rest)) : mg_G X Y Q M k j pc lv (.int y :: .int x :: rest) := by
  obtain ⟨p, l, e, R, s, m, args, below, meth, c, D, gT, M0, ad0⟩ := X
  obtain ⟨yy, cc, nn, ret⟩ := Y
  intro hC ad H locs ls hH hL hk hlv hst hS
  obtain ⟨hx, hb, hr, hml, hown, hts, hK, hlo2, hnm⟩ := id hC
  exact va_mmin hx hb (by rw [hml]; exact hL.1.symm) hown (hts _ hw1) (hts _ hw2) (hts _ hw3) (hts _ hw4) hf (by rw [mg_cats]; exact hlo) hc1 hc2 hd (kk hC ad H locs ls hH hL hk hlv (hst.tl.tl.cons trivial) hS)
end MGCalls
end
section
/-! links: fields, classes, methods -/
theorem fl_In_9 : mg_FL "PropertyShrink$Ints" 9 1 0 := ⟨"PropertyShrink$Ints", FT_In, 2, "PropertyShrink$Ints", rfl, by decide, iw_In, Or.inl rfl, Or.inl (mg_in 64 (by decide +kernel) (by decide +kernel))⟩
theorem fl_In_15 : mg_FL "PropertyShrink$Ints" 15 1 1 := ⟨"PropertyShrink$Ints", FT_In, 2, "PropertyShrink$Ints", rfl, by decide, iw_In, Or.inl rfl, Or.inl (mg_in 65 (by decide +kernel) (by decide +kernel))⟩
theorem fl_Dr_12 : mg_FL "PropertyShrink$Draws" 12 2 0 := ⟨"PropertyShrink$Draws", FT_Dr, 8, "PropertyShrink$Draws", rfl, by decide, iw_Dr, Or.inl rfl, Or.inl (mg_in 80 (by decide +kernel) (by decide +kernel))⟩
theorem fl_PS_227 : mg_FL "PropertyShrink" 227 2 0 := ⟨"PropertyShrink$Draws", FT_Dr, 8, "PropertyShrink$Draws", rfl, by decide, iw_Dr, Or.inl rfl, Or.inl (mg_in 81 (by decide +kernel) (by decide +kernel))⟩
theorem fl_Dr_18 : mg_FL "PropertyShrink$Draws" 18 2 1 := ⟨"PropertyShrink$Draws", FT_Dr, 8, "PropertyShrink$Draws", rfl, by decide, iw_Dr, Or.inl rfl, Or.inl (mg_in 82 (by decide +kernel) (by decide +kernel))⟩
theorem fl_AT_20 : mg_FL "PropertyShrink$AddTo" 20 2 1 := ⟨"PropertyShrink$Draws", FT_Dr, 8, "PropertyShrink$Draws", rfl, by decide, iw_Dr, Or.inl rfl, Or.inl (mg_in 83 (by decide +kernel) (by decide +kernel))⟩
theorem fl_KO_22 : mg_FL "PropertyShrink$KeepOf" 22 2 1 := ⟨"PropertyShrink$Draws", FT_Dr, 8, "PropertyShrink$Draws", rfl, by decide, iw_Dr, Or.inl rfl, Or.inl (mg_in 84 (by decide +kernel) (by decide +kernel))⟩
theorem fl_PS_122 : mg_FL "PropertyShrink" 122 2 1 := ⟨"PropertyShrink$Draws", FT_Dr, 8, "PropertyShrink$Draws", rfl, by decide, iw_Dr, Or.inl rfl, Or.inl (mg_in 85 (by decide +kernel) (by decide +kernel))⟩
theorem fl_OO_31 : mg_FL "PropertyShrink$OneOf" 31 2 2 := ⟨"PropertyShrink$Draws", FT_Dr, 8, "PropertyShrink$Draws", rfl, by decide, iw_Dr, Or.inl rfl, Or.inl (mg_in 86 (by decide +kernel) (by decide +kernel))⟩
theorem fl_PO_30 : mg_FL "PropertyShrink$PairOf" 30 2 2 := ⟨"PropertyShrink$Draws", FT_Dr, 8, "PropertyShrink$Draws", rfl, by decide, iw_Dr, Or.inl rfl, Or.inl (mg_in 87 (by decide +kernel) (by decide +kernel))⟩
theorem fl_KO_34 : mg_FL "PropertyShrink$KeepOf" 34 2 2 := ⟨"PropertyShrink$Draws", FT_Dr, 8, "PropertyShrink$Draws", rfl, by decide, iw_Dr, Or.inl rfl, Or.inl (mg_in 88 (by decide +kernel) (by decide +kernel))⟩
theorem fl_Dr_36 : mg_FL "PropertyShrink$Draws" 36 2 2 := ⟨"PropertyShrink$Draws", FT_Dr, 8, "PropertyShrink$Draws", rfl, by decide, iw_Dr, Or.inl rfl, Or.inl (mg_in 89 (by decide +kernel) (by decide +kernel))⟩
theorem fl_PS_149 : mg_FL "PropertyShrink" 149 2 2 := ⟨"PropertyShrink$Draws", FT_Dr, 8, "PropertyShrink$Draws", rfl, by decide, iw_Dr, Or.inl rfl, Or.inl (mg_in 90 (by decide +kernel) (by decide +kernel))⟩
theorem fl_Dr_21 : mg_FL "PropertyShrink$Draws" 21 2 3 := ⟨"PropertyShrink$Draws", FT_Dr, 8, "PropertyShrink$Draws", rfl, by decide, iw_Dr, Or.inl rfl, Or.inl (mg_in 91 (by decide +kernel) (by decide +kernel))⟩
theorem fl_Dr_25 : mg_FL "PropertyShrink$Draws" 25 2 4 := ⟨"PropertyShrink$Draws", FT_Dr, 8, "PropertyShrink$Draws", rfl, by decide, iw_Dr, Or.inl rfl, Or.inl (mg_in 92 (by decide +kernel) (by decide +kernel))⟩
theorem fl_Dr_28 : mg_FL "PropertyShrink$Draws" 28 2 5 := ⟨"PropertyShrink$Draws", FT_Dr, 8, "PropertyShrink$Draws", rfl, by decide, iw_Dr, Or.inl rfl, Or.inl (mg_in 93 (by decide +kernel) (by decide +kernel))⟩
theorem fl_Dr_47 : mg_FL "PropertyShrink$Draws" 47 2 6 := ⟨"PropertyShrink$Draws", FT_Dr, 8, "PropertyShrink$Draws", rfl, by decide, iw_Dr, Or.inl rfl, Or.inl (mg_in 94 (by decide +kernel) (by decide +kernel))⟩
theorem fl_Dr_51 : mg_FL "PropertyShrink$Draws" 51 2 7 := ⟨"PropertyShrink$Draws", FT_Dr, 8, "PropertyShrink$Draws", rfl, by decide, iw_Dr, Or.inl rfl, Or.inl (mg_in 95 (by decide +kernel) (by decide +kernel))⟩
theorem fl_PS_11 : mg_FL "PropertyShrink" 11 0 0 := ⟨"PropertyShrink", FT_PS, 17, "PropertyShrink", rfl, by decide, iw_PS, Or.inl rfl, Or.inl (mg_in 113 (by decide +kernel) (by decide +kernel))⟩
theorem fl_PS_44 : mg_FL "PropertyShrink" 44 0 1 := ⟨"PropertyShrink", FT_PS, 17, "PropertyShrink", rfl, by decide, iw_PS, Or.inl rfl, Or.inl (mg_in 114 (by decide +kernel) (by decide +kernel))⟩
theorem fl_PS_17 : mg_FL "PropertyShrink" 17 0 2 := ⟨"PropertyShrink", FT_PS, 17, "PropertyShrink", rfl, by decide, iw_PS, Or.inl rfl, Or.inl (mg_in 115 (by decide +kernel) (by decide +kernel))⟩
theorem fl_PS_55 : mg_FL "PropertyShrink" 55 0 3 := ⟨"PropertyShrink", FT_PS, 17, "PropertyShrink", rfl, by decide, iw_PS, Or.inl rfl, Or.inl (mg_in 116 (by decide +kernel) (by decide +kernel))⟩
theorem fl_PS_82 : mg_FL "PropertyShrink" 82 0 4 := ⟨"PropertyShrink", FT_PS, 17, "PropertyShrink", rfl, by decide, iw_PS, Or.inl rfl, Or.inl (mg_in 117 (by decide +kernel) (by decide +kernel))⟩
theorem fl_PS_89 : mg_FL "PropertyShrink" 89 0 5 := ⟨"PropertyShrink", FT_PS, 17, "PropertyShrink", rfl, by decide, iw_PS, Or.inl rfl, Or.inl (mg_in 118 (by decide +kernel) (by decide +kernel))⟩
theorem fl_PS_69 : mg_FL "PropertyShrink" 69 0 6 := ⟨"PropertyShrink", FT_PS, 17, "PropertyShrink", rfl, by decide, iw_PS, Or.inl rfl, Or.inl (mg_in 119 (by decide +kernel) (by decide +kernel))⟩
theorem fl_PS_92 : mg_FL "PropertyShrink" 92 0 7 := ⟨"PropertyShrink", FT_PS, 17, "PropertyShrink", rfl, by decide, iw_PS, Or.inl rfl, Or.inl (mg_in 120 (by decide +kernel) (by decide +kernel))⟩
theorem fl_PS_96 : mg_FL "PropertyShrink" 96 0 8 := ⟨"PropertyShrink", FT_PS, 17, "PropertyShrink", rfl, by decide, iw_PS, Or.inl rfl, Or.inl (mg_in 121 (by decide +kernel) (by decide +kernel))⟩
theorem fl_PS_115 : mg_FL "PropertyShrink" 115 0 9 := ⟨"PropertyShrink", FT_PS, 17, "PropertyShrink", rfl, by decide, iw_PS, Or.inl rfl, Or.inl (mg_in 122 (by decide +kernel) (by decide +kernel))⟩
theorem fl_PS_111 : mg_FL "PropertyShrink" 111 0 10 := ⟨"PropertyShrink", FT_PS, 17, "PropertyShrink", rfl, by decide, iw_PS, Or.inl rfl, Or.inl (mg_in 123 (by decide +kernel) (by decide +kernel))⟩
theorem fl_PS_24 : mg_FL "PropertyShrink" 24 0 11 := ⟨"PropertyShrink", FT_PS, 17, "PropertyShrink", rfl, by decide, iw_PS, Or.inl rfl, Or.inl (mg_in 124 (by decide +kernel) (by decide +kernel))⟩
theorem fl_PS_28 : mg_FL "PropertyShrink" 28 0 12 := ⟨"PropertyShrink", FT_PS, 17, "PropertyShrink", rfl, by decide, iw_PS, Or.inl rfl, Or.inl (mg_in 125 (by decide +kernel) (by decide +kernel))⟩
theorem fl_PS_31 : mg_FL "PropertyShrink" 31 0 13 := ⟨"PropertyShrink", FT_PS, 17, "PropertyShrink", rfl, by decide, iw_PS, Or.inl rfl, Or.inl (mg_in 126 (by decide +kernel) (by decide +kernel))⟩
theorem fl_PS_34 : mg_FL "PropertyShrink" 34 0 14 := ⟨"PropertyShrink", FT_PS, 17, "PropertyShrink", rfl, by decide, iw_PS, Or.inl rfl, Or.inl (mg_in 127 (by decide +kernel) (by decide +kernel))⟩
theorem fl_PS_40 : mg_FL "PropertyShrink" 40 0 15 := ⟨"PropertyShrink", FT_PS, 17, "PropertyShrink", rfl, by decide, iw_PS, Or.inl rfl, Or.inl (mg_in 128 (by decide +kernel) (by decide +kernel))⟩
theorem fl_PS_138 : mg_FL "PropertyShrink" 138 0 16 := ⟨"PropertyShrink", FT_PS, 17, "PropertyShrink", rfl, by decide, iw_PS, Or.inl rfl, Or.inl (mg_in 129 (by decide +kernel) (by decide +kernel))⟩
theorem fl_IR_7 : mg_FL "PropertyShrink$IntRange" 7 3 1 := ⟨"PropertyShrink$IntRange", FT_IR, 3, "PropertyShrink$IntRange", rfl, by decide, iw_IR, Or.inl rfl, Or.inl (mg_in 185 (by decide +kernel) (by decide +kernel))⟩
theorem fl_IR_13 : mg_FL "PropertyShrink$IntRange" 13 3 2 := ⟨"PropertyShrink$IntRange", FT_IR, 3, "PropertyShrink$IntRange", rfl, by decide, iw_IR, Or.inl rfl, Or.inl (mg_in 186 (by decide +kernel) (by decide +kernel))⟩
theorem fl_LO_1_IR : mg_FL "PropertyShrink$ListOf" 1 3 0 := ⟨"PropertyShrink$IntRange", FT_IR, 3, "PropertyShrink$Generator", rfl, by decide, iw_IR, Or.inl rfl, Or.inl (mg_in 187 (by decide +kernel) (by decide +kernel))⟩
theorem fl_LO_1_LO : mg_FL "PropertyShrink$ListOf" 1 4 0 := ⟨"PropertyShrink$ListOf", FT_LO, 3, "PropertyShrink$Generator", rfl, by decide, iw_LO, Or.inl rfl, Or.inl (mg_in 187 (by decide +kernel) (by decide +kernel))⟩
theorem fl_LO_1_PO : mg_FL "PropertyShrink$ListOf" 1 5 0 := ⟨"PropertyShrink$PairOf", FT_PO, 3, "PropertyShrink$Generator", rfl, by decide, iw_PO, Or.inl rfl, Or.inl (mg_in 187 (by decide +kernel) (by decide +kernel))⟩
theorem fl_LO_1_OO : mg_FL "PropertyShrink$ListOf" 1 6 0 := ⟨"PropertyShrink$OneOf", FT_OO, 3, "PropertyShrink$Generator", rfl, by decide, iw_OO, Or.inl rfl, Or.inl (mg_in 187 (by decide +kernel) (by decide +kernel))⟩
theorem fl_LO_1_KO : mg_FL "PropertyShrink$ListOf" 1 7 0 := ⟨"PropertyShrink$KeepOf", FT_KO, 3, "PropertyShrink$Generator", rfl, by decide, iw_KO, Or.inl rfl, Or.inl (mg_in 187 (by decide +kernel) (by decide +kernel))⟩
theorem fl_LO_1_AT : mg_FL "PropertyShrink$ListOf" 1 8 0 := ⟨"PropertyShrink$AddTo", FT_AT, 3, "PropertyShrink$Generator", rfl, by decide, iw_AT, Or.inl rfl, Or.inl (mg_in 187 (by decide +kernel) (by decide +kernel))⟩
theorem fl_KO_3_IR : mg_FL "PropertyShrink$KeepOf" 3 3 0 := ⟨"PropertyShrink$IntRange", FT_IR, 3, "PropertyShrink$Generator", rfl, by decide, iw_IR, Or.inl rfl, Or.inl (mg_in 188 (by decide +kernel) (by decide +kernel))⟩
theorem fl_KO_3_LO : mg_FL "PropertyShrink$KeepOf" 3 4 0 := ⟨"PropertyShrink$ListOf", FT_LO, 3, "PropertyShrink$Generator", rfl, by decide, iw_LO, Or.inl rfl, Or.inl (mg_in 188 (by decide +kernel) (by decide +kernel))⟩
theorem fl_KO_3_PO : mg_FL "PropertyShrink$KeepOf" 3 5 0 := ⟨"PropertyShrink$PairOf", FT_PO, 3, "PropertyShrink$Generator", rfl, by decide, iw_PO, Or.inl rfl, Or.inl (mg_in 188 (by decide +kernel) (by decide +kernel))⟩
theorem fl_KO_3_OO : mg_FL "PropertyShrink$KeepOf" 3 6 0 := ⟨"PropertyShrink$OneOf", FT_OO, 3, "PropertyShrink$Generator", rfl, by decide, iw_OO, Or.inl rfl, Or.inl (mg_in 188 (by decide +kernel) (by decide +kernel))⟩
theorem fl_KO_3_KO : mg_FL "PropertyShrink$KeepOf" 3 7 0 := ⟨"PropertyShrink$KeepOf", FT_KO, 3, "PropertyShrink$Generator", rfl, by decide, iw_KO, Or.inl rfl, Or.inl (mg_in 188 (by decide +kernel) (by decide +kernel))⟩
theorem fl_KO_3_AT : mg_FL "PropertyShrink$KeepOf" 3 8 0 := ⟨"PropertyShrink$AddTo", FT_AT, 3, "PropertyShrink$Generator", rfl, by decide, iw_AT, Or.inl rfl, Or.inl (mg_in 188 (by decide +kernel) (by decide +kernel))⟩
theorem fl_AT_1_IR : mg_FL "PropertyShrink$AddTo" 1 3 0 := ⟨"PropertyShrink$IntRange", FT_IR, 3, "PropertyShrink$Generator", rfl, by decide, iw_IR, Or.inl rfl, Or.inl (mg_in 189 (by decide +kernel) (by decide +kernel))⟩
theorem fl_AT_1_LO : mg_FL "PropertyShrink$AddTo" 1 4 0 := ⟨"PropertyShrink$ListOf", FT_LO, 3, "PropertyShrink$Generator", rfl, by decide, iw_LO, Or.inl rfl, Or.inl (mg_in 189 (by decide +kernel) (by decide +kernel))⟩
theorem fl_AT_1_PO : mg_FL "PropertyShrink$AddTo" 1 5 0 := ⟨"PropertyShrink$PairOf", FT_PO, 3, "PropertyShrink$Generator", rfl, by decide, iw_PO, Or.inl rfl, Or.inl (mg_in 189 (by decide +kernel) (by decide +kernel))⟩
theorem fl_AT_1_OO : mg_FL "PropertyShrink$AddTo" 1 6 0 := ⟨"PropertyShrink$OneOf", FT_OO, 3, "PropertyShrink$Generator", rfl, by decide, iw_OO, Or.inl rfl, Or.inl (mg_in 189 (by decide +kernel) (by decide +kernel))⟩
theorem fl_AT_1_KO : mg_FL "PropertyShrink$AddTo" 1 7 0 := ⟨"PropertyShrink$KeepOf", FT_KO, 3, "PropertyShrink$Generator", rfl, by decide, iw_KO, Or.inl rfl, Or.inl (mg_in 189 (by decide +kernel) (by decide +kernel))⟩
theorem fl_AT_1_AT : mg_FL "PropertyShrink$AddTo" 1 8 0 := ⟨"PropertyShrink$AddTo", FT_AT, 3, "PropertyShrink$Generator", rfl, by decide, iw_AT, Or.inl rfl, Or.inl (mg_in 189 (by decide +kernel) (by decide +kernel))⟩
theorem fl_PO_1_IR : mg_FL "PropertyShrink$PairOf" 1 3 0 := ⟨"PropertyShrink$IntRange", FT_IR, 3, "PropertyShrink$Generator", rfl, by decide, iw_IR, Or.inl rfl, Or.inl (mg_in 190 (by decide +kernel) (by decide +kernel))⟩
theorem fl_PO_1_LO : mg_FL "PropertyShrink$PairOf" 1 4 0 := ⟨"PropertyShrink$ListOf", FT_LO, 3, "PropertyShrink$Generator", rfl, by decide, iw_LO, Or.inl rfl, Or.inl (mg_in 190 (by decide +kernel) (by decide +kernel))⟩
theorem fl_PO_1_PO : mg_FL "PropertyShrink$PairOf" 1 5 0 := ⟨"PropertyShrink$PairOf", FT_PO, 3, "PropertyShrink$Generator", rfl, by decide, iw_PO, Or.inl rfl, Or.inl (mg_in 190 (by decide +kernel) (by decide +kernel))⟩
theorem fl_PO_1_OO : mg_FL "PropertyShrink$PairOf" 1 6 0 := ⟨"PropertyShrink$OneOf", FT_OO, 3, "PropertyShrink$Generator", rfl, by decide, iw_OO, Or.inl rfl, Or.inl (mg_in 190 (by decide +kernel) (by decide +kernel))⟩
theorem fl_PO_1_KO : mg_FL "PropertyShrink$PairOf" 1 7 0 := ⟨"PropertyShrink$KeepOf", FT_KO, 3, "PropertyShrink$Generator", rfl, by decide, iw_KO, Or.inl rfl, Or.inl (mg_in 190 (by decide +kernel) (by decide +kernel))⟩
theorem fl_PO_1_AT : mg_FL "PropertyShrink$PairOf" 1 8 0 := ⟨"PropertyShrink$AddTo", FT_AT, 3, "PropertyShrink$Generator", rfl, by decide, iw_AT, Or.inl rfl, Or.inl (mg_in 190 (by decide +kernel) (by decide +kernel))⟩
theorem fl_OO_1_IR : mg_FL "PropertyShrink$OneOf" 1 3 0 := ⟨"PropertyShrink$IntRange", FT_IR, 3, "PropertyShrink$Generator", rfl, by decide, iw_IR, Or.inl rfl, Or.inl (mg_in 191 (by decide +kernel) (by decide +kernel))⟩
theorem fl_OO_1_LO : mg_FL "PropertyShrink$OneOf" 1 4 0 := ⟨"PropertyShrink$ListOf", FT_LO, 3, "PropertyShrink$Generator", rfl, by decide, iw_LO, Or.inl rfl, Or.inl (mg_in 191 (by decide +kernel) (by decide +kernel))⟩
theorem fl_OO_1_PO : mg_FL "PropertyShrink$OneOf" 1 5 0 := ⟨"PropertyShrink$PairOf", FT_PO, 3, "PropertyShrink$Generator", rfl, by decide, iw_PO, Or.inl rfl, Or.inl (mg_in 191 (by decide +kernel) (by decide +kernel))⟩
theorem fl_OO_1_OO : mg_FL "PropertyShrink$OneOf" 1 6 0 := ⟨"PropertyShrink$OneOf", FT_OO, 3, "PropertyShrink$Generator", rfl, by decide, iw_OO, Or.inl rfl, Or.inl (mg_in 191 (by decide +kernel) (by decide +kernel))⟩
theorem fl_OO_1_KO : mg_FL "PropertyShrink$OneOf" 1 7 0 := ⟨"PropertyShrink$KeepOf", FT_KO, 3, "PropertyShrink$Generator", rfl, by decide, iw_KO, Or.inl rfl, Or.inl (mg_in 191 (by decide +kernel) (by decide +kernel))⟩
theorem fl_OO_1_AT : mg_FL "PropertyShrink$OneOf" 1 8 0 := ⟨"PropertyShrink$AddTo", FT_AT, 3, "PropertyShrink$Generator", rfl, by decide, iw_AT, Or.inl rfl, Or.inl (mg_in 191 (by decide +kernel) (by decide +kernel))⟩
theorem fl_Ge_7_IR : mg_FL "PropertyShrink$Generator" 7 3 0 := ⟨"PropertyShrink$IntRange", FT_IR, 3, "PropertyShrink$Generator", rfl, by decide, iw_IR, Or.inl rfl, Or.inl (mg_in 192 (by decide +kernel) (by decide +kernel))⟩
theorem fl_Ge_7_LO : mg_FL "PropertyShrink$Generator" 7 4 0 := ⟨"PropertyShrink$ListOf", FT_LO, 3, "PropertyShrink$Generator", rfl, by decide, iw_LO, Or.inl rfl, Or.inl (mg_in 192 (by decide +kernel) (by decide +kernel))⟩
theorem fl_Ge_7_PO : mg_FL "PropertyShrink$Generator" 7 5 0 := ⟨"PropertyShrink$PairOf", FT_PO, 3, "PropertyShrink$Generator", rfl, by decide, iw_PO, Or.inl rfl, Or.inl (mg_in 192 (by decide +kernel) (by decide +kernel))⟩
theorem fl_Ge_7_OO : mg_FL "PropertyShrink$Generator" 7 6 0 := ⟨"PropertyShrink$OneOf", FT_OO, 3, "PropertyShrink$Generator", rfl, by decide, iw_OO, Or.inl rfl, Or.inl (mg_in 192 (by decide +kernel) (by decide +kernel))⟩
theorem fl_Ge_7_KO : mg_FL "PropertyShrink$Generator" 7 7 0 := ⟨"PropertyShrink$KeepOf", FT_KO, 3, "PropertyShrink$Generator", rfl, by decide, iw_KO, Or.inl rfl, Or.inl (mg_in 192 (by decide +kernel) (by decide +kernel))⟩
theorem fl_Ge_7_AT : mg_FL "PropertyShrink$Generator" 7 8 0 := ⟨"PropertyShrink$AddTo", FT_AT, 3, "PropertyShrink$Generator", rfl, by decide, iw_AT, Or.inl rfl, Or.inl (mg_in 192 (by decide +kernel) (by decide +kernel))⟩
theorem fl_PS_52_IR : mg_FL "PropertyShrink" 52 3 0 := ⟨"PropertyShrink$IntRange", FT_IR, 3, "PropertyShrink$Generator", rfl, by decide, iw_IR, Or.inl rfl, Or.inl (mg_in 193 (by decide +kernel) (by decide +kernel))⟩
theorem fl_PS_52_LO : mg_FL "PropertyShrink" 52 4 0 := ⟨"PropertyShrink$ListOf", FT_LO, 3, "PropertyShrink$Generator", rfl, by decide, iw_LO, Or.inl rfl, Or.inl (mg_in 193 (by decide +kernel) (by decide +kernel))⟩
theorem fl_PS_52_PO : mg_FL "PropertyShrink" 52 5 0 := ⟨"PropertyShrink$PairOf", FT_PO, 3, "PropertyShrink$Generator", rfl, by decide, iw_PO, Or.inl rfl, Or.inl (mg_in 193 (by decide +kernel) (by decide +kernel))⟩
theorem fl_PS_52_OO : mg_FL "PropertyShrink" 52 6 0 := ⟨"PropertyShrink$OneOf", FT_OO, 3, "PropertyShrink$Generator", rfl, by decide, iw_OO, Or.inl rfl, Or.inl (mg_in 193 (by decide +kernel) (by decide +kernel))⟩
theorem fl_PS_52_KO : mg_FL "PropertyShrink" 52 7 0 := ⟨"PropertyShrink$KeepOf", FT_KO, 3, "PropertyShrink$Generator", rfl, by decide, iw_KO, Or.inl rfl, Or.inl (mg_in 193 (by decide +kernel) (by decide +kernel))⟩
theorem fl_PS_52_AT : mg_FL "PropertyShrink" 52 8 0 := ⟨"PropertyShrink$AddTo", FT_AT, 3, "PropertyShrink$Generator", rfl, by decide, iw_AT, Or.inl rfl, Or.inl (mg_in 193 (by decide +kernel) (by decide +kernel))⟩
theorem fl_LO_11 : mg_FL "PropertyShrink$ListOf" 11 4 1 := ⟨"PropertyShrink$ListOf", FT_LO, 3, "PropertyShrink$ListOf", rfl, by decide, iw_LO, Or.inl rfl, Or.inl (mg_in 211 (by decide +kernel) (by decide +kernel))⟩
theorem fl_LO_17 : mg_FL "PropertyShrink$ListOf" 17 4 2 := ⟨"PropertyShrink$ListOf", FT_LO, 3, "PropertyShrink$ListOf", rfl, by decide, iw_LO, Or.inl rfl, Or.inl (mg_in 212 (by decide +kernel) (by decide +kernel))⟩
theorem fl_KO_13 : mg_FL "PropertyShrink$KeepOf" 13 7 1 := ⟨"PropertyShrink$KeepOf", FT_KO, 3, "PropertyShrink$KeepOf", rfl, by decide, iw_KO, Or.inl rfl, Or.inl (mg_in 225 (by decide +kernel) (by decide +kernel))⟩
theorem fl_KO_19 : mg_FL "PropertyShrink$KeepOf" 19 7 2 := ⟨"PropertyShrink$KeepOf", FT_KO, 3, "PropertyShrink$KeepOf", rfl, by decide, iw_KO, Or.inl rfl, Or.inl (mg_in 226 (by decide +kernel) (by decide +kernel))⟩
theorem fl_AT_11 : mg_FL "PropertyShrink$AddTo" 11 8 1 := ⟨"PropertyShrink$AddTo", FT_AT, 3, "PropertyShrink$AddTo", rfl, by decide, iw_AT, Or.inl rfl, Or.inl (mg_in 239 (by decide +kernel) (by decide +kernel))⟩
theorem fl_AT_17 : mg_FL "PropertyShrink$AddTo" 17 8 2 := ⟨"PropertyShrink$AddTo", FT_AT, 3, "PropertyShrink$AddTo", rfl, by decide, iw_AT, Or.inl rfl, Or.inl (mg_in 240 (by decide +kernel) (by decide +kernel))⟩
theorem fl_PO_17 : mg_FL "PropertyShrink$PairOf" 17 5 1 := ⟨"PropertyShrink$PairOf", FT_PO, 3, "PropertyShrink$PairOf", rfl, by decide, iw_PO, Or.inl rfl, Or.inl (mg_in 259 (by decide +kernel) (by decide +kernel))⟩
theorem fl_PO_23 : mg_FL "PropertyShrink$PairOf" 23 5 2 := ⟨"PropertyShrink$PairOf", FT_PO, 3, "PropertyShrink$PairOf", rfl, by decide, iw_PO, Or.inl rfl, Or.inl (mg_in 260 (by decide +kernel) (by decide +kernel))⟩
theorem fl_OO_17 : mg_FL "PropertyShrink$OneOf" 17 6 1 := ⟨"PropertyShrink$OneOf", FT_OO, 3, "PropertyShrink$OneOf", rfl, by decide, iw_OO, Or.inl rfl, Or.inl (mg_in 274 (by decide +kernel) (by decide +kernel))⟩
theorem fl_OO_23 : mg_FL "PropertyShrink$OneOf" 23 6 2 := ⟨"PropertyShrink$OneOf", FT_OO, 3, "PropertyShrink$OneOf", rfl, by decide, iw_OO, Or.inl rfl, Or.inl (mg_in 275 (by decide +kernel) (by decide +kernel))⟩
theorem fl_Pr_9 : mg_FL "PropertyShrink$Property" 9 9 0 := ⟨"PropertyShrink$Property", FT_Pr, 3, "PropertyShrink$Property", rfl, by decide, iw_Pr, Or.inl rfl, Or.inl (mg_in 291 (by decide +kernel) (by decide +kernel))⟩
theorem fl_Pr_15 : mg_FL "PropertyShrink$Property" 15 9 1 := ⟨"PropertyShrink$Property", FT_Pr, 3, "PropertyShrink$Property", rfl, by decide, iw_Pr, Or.inl rfl, Or.inl (mg_in 292 (by decide +kernel) (by decide +kernel))⟩
theorem fl_Pr_18 : mg_FL "PropertyShrink$Property" 18 9 2 := ⟨"PropertyShrink$Property", FT_Pr, 3, "PropertyShrink$Property", rfl, by decide, iw_Pr, Or.inl rfl, Or.inl (mg_in 293 (by decide +kernel) (by decide +kernel))⟩
theorem fl_Kp_16 : mg_FL "PropertyShrink$Kept" 16 10 0 := ⟨"PropertyShrink$Kept", FT_Kp, 4, "PropertyShrink$Kept", rfl, by decide, iw_Kp, Or.inl rfl, Or.inl (mg_in 467 (by decide +kernel) (by decide +kernel))⟩
theorem fl_PS_201 : mg_FL "PropertyShrink" 201 10 0 := ⟨"PropertyShrink$Kept", FT_Kp, 4, "PropertyShrink$Kept", rfl, by decide, iw_Kp, Or.inl rfl, Or.inl (mg_in 468 (by decide +kernel) (by decide +kernel))⟩
theorem fl_Kp_20 : mg_FL "PropertyShrink$Kept" 20 10 1 := ⟨"PropertyShrink$Kept", FT_Kp, 4, "PropertyShrink$Kept", rfl, by decide, iw_Kp, Or.inl rfl, Or.inl (mg_in 469 (by decide +kernel) (by decide +kernel))⟩
theorem fl_PS_204 : mg_FL "PropertyShrink" 204 10 1 := ⟨"PropertyShrink$Kept", FT_Kp, 4, "PropertyShrink$Kept", rfl, by decide, iw_Kp, Or.inl rfl, Or.inl (mg_in 470 (by decide +kernel) (by decide +kernel))⟩
theorem fl_Kp_10 : mg_FL "PropertyShrink$Kept" 10 10 2 := ⟨"PropertyShrink$Kept", FT_Kp, 4, "PropertyShrink$Kept", rfl, by decide, iw_Kp, Or.inl rfl, Or.inl (mg_in 471 (by decide +kernel) (by decide +kernel))⟩
theorem fl_PS_207 : mg_FL "PropertyShrink" 207 10 2 := ⟨"PropertyShrink$Kept", FT_Kp, 4, "PropertyShrink$Kept", rfl, by decide, iw_Kp, Or.inl rfl, Or.inl (mg_in 472 (by decide +kernel) (by decide +kernel))⟩
theorem fl_Kp_23 : mg_FL "PropertyShrink$Kept" 23 10 3 := ⟨"PropertyShrink$Kept", FT_Kp, 4, "PropertyShrink$Kept", rfl, by decide, iw_Kp, Or.inl rfl, Or.inl (mg_in 473 (by decide +kernel) (by decide +kernel))⟩
theorem fl_PS_217 : mg_FL "PropertyShrink" 217 10 3 := ⟨"PropertyShrink$Kept", FT_Kp, 4, "PropertyShrink$Kept", rfl, by decide, iw_Kp, Or.inl rfl, Or.inl (mg_in 474 (by decide +kernel) (by decide +kernel))⟩
theorem fl_Mo_80 : mg_FL "PropertyShrinkModel" 80 11 0 := ⟨"PropertyShrinkModel", FT_Mo, 43, "PropertyShrinkModel", rfl, by decide, iw_Mo, Or.inl rfl, Or.inl (mg_in 567 (by decide +kernel) (by decide +kernel))⟩
theorem fl_Mo_83 : mg_FL "PropertyShrinkModel" 83 11 1 := ⟨"PropertyShrinkModel", FT_Mo, 43, "PropertyShrinkModel", rfl, by decide, iw_Mo, Or.inl rfl, Or.inl (mg_in 568 (by decide +kernel) (by decide +kernel))⟩
theorem fl_Mo_94 : mg_FL "PropertyShrinkModel" 94 11 2 := ⟨"PropertyShrinkModel", FT_Mo, 43, "PropertyShrinkModel", rfl, by decide, iw_Mo, Or.inl rfl, Or.inl (mg_in 569 (by decide +kernel) (by decide +kernel))⟩
theorem fl_Mo_7 : mg_FL "PropertyShrinkModel" 7 11 3 := ⟨"PropertyShrinkModel", FT_Mo, 43, "PropertyShrinkModel", rfl, by decide, iw_Mo, Or.inl rfl, Or.inl (mg_in 570 (by decide +kernel) (by decide +kernel))⟩
theorem fl_Mo_13 : mg_FL "PropertyShrinkModel" 13 11 4 := ⟨"PropertyShrinkModel", FT_Mo, 43, "PropertyShrinkModel", rfl, by decide, iw_Mo, Or.inl rfl, Or.inl (mg_in 571 (by decide +kernel) (by decide +kernel))⟩
theorem fl_Mo_16 : mg_FL "PropertyShrinkModel" 16 11 5 := ⟨"PropertyShrinkModel", FT_Mo, 43, "PropertyShrinkModel", rfl, by decide, iw_Mo, Or.inl rfl, Or.inl (mg_in 572 (by decide +kernel) (by decide +kernel))⟩
theorem fl_Mo_19 : mg_FL "PropertyShrinkModel" 19 11 6 := ⟨"PropertyShrinkModel", FT_Mo, 43, "PropertyShrinkModel", rfl, by decide, iw_Mo, Or.inl rfl, Or.inl (mg_in 573 (by decide +kernel) (by decide +kernel))⟩
theorem fl_Mo_22 : mg_FL "PropertyShrinkModel" 22 11 7 := ⟨"PropertyShrinkModel", FT_Mo, 43, "PropertyShrinkModel", rfl, by decide, iw_Mo, Or.inl rfl, Or.inl (mg_in 574 (by decide +kernel) (by decide +kernel))⟩
theorem fl_Mo_25 : mg_FL "PropertyShrinkModel" 25 11 8 := ⟨"PropertyShrinkModel", FT_Mo, 43, "PropertyShrinkModel", rfl, by decide, iw_Mo, Or.inl rfl, Or.inl (mg_in 575 (by decide +kernel) (by decide +kernel))⟩
theorem fl_Mo_28 : mg_FL "PropertyShrinkModel" 28 11 9 := ⟨"PropertyShrinkModel", FT_Mo, 43, "PropertyShrinkModel", rfl, by decide, iw_Mo, Or.inl rfl, Or.inl (mg_in 576 (by decide +kernel) (by decide +kernel))⟩
theorem fl_Mo_97 : mg_FL "PropertyShrinkModel" 97 11 10 := ⟨"PropertyShrinkModel", FT_Mo, 43, "PropertyShrinkModel", rfl, by decide, iw_Mo, Or.inl rfl, Or.inl (mg_in 577 (by decide +kernel) (by decide +kernel))⟩
theorem fl_Mo_108 : mg_FL "PropertyShrinkModel" 108 11 11 := ⟨"PropertyShrinkModel", FT_Mo, 43, "PropertyShrinkModel", rfl, by decide, iw_Mo, Or.inl rfl, Or.inl (mg_in 578 (by decide +kernel) (by decide +kernel))⟩
theorem fl_Mo_124 : mg_FL "PropertyShrinkModel" 124 11 12 := ⟨"PropertyShrinkModel", FT_Mo, 43, "PropertyShrinkModel", rfl, by decide, iw_Mo, Or.inl rfl, Or.inl (mg_in 579 (by decide +kernel) (by decide +kernel))⟩
theorem fl_Mo_118 : mg_FL "PropertyShrinkModel" 118 11 13 := ⟨"PropertyShrinkModel", FT_Mo, 43, "PropertyShrinkModel", rfl, by decide, iw_Mo, Or.inl rfl, Or.inl (mg_in 580 (by decide +kernel) (by decide +kernel))⟩
theorem fl_Mo_100 : mg_FL "PropertyShrinkModel" 100 11 14 := ⟨"PropertyShrinkModel", FT_Mo, 43, "PropertyShrinkModel", rfl, by decide, iw_Mo, Or.inl rfl, Or.inl (mg_in 581 (by decide +kernel) (by decide +kernel))⟩
theorem fl_Mo_114 : mg_FL "PropertyShrinkModel" 114 11 15 := ⟨"PropertyShrinkModel", FT_Mo, 43, "PropertyShrinkModel", rfl, by decide, iw_Mo, Or.inl rfl, Or.inl (mg_in 582 (by decide +kernel) (by decide +kernel))⟩
theorem fl_Mo_31 : mg_FL "PropertyShrinkModel" 31 11 16 := ⟨"PropertyShrinkModel", FT_Mo, 43, "PropertyShrinkModel", rfl, by decide, iw_Mo, Or.inl rfl, Or.inl (mg_in 583 (by decide +kernel) (by decide +kernel))⟩
theorem fl_Mo_34 : mg_FL "PropertyShrinkModel" 34 11 17 := ⟨"PropertyShrinkModel", FT_Mo, 43, "PropertyShrinkModel", rfl, by decide, iw_Mo, Or.inl rfl, Or.inl (mg_in 584 (by decide +kernel) (by decide +kernel))⟩
theorem fl_Mo_37 : mg_FL "PropertyShrinkModel" 37 11 18 := ⟨"PropertyShrinkModel", FT_Mo, 43, "PropertyShrinkModel", rfl, by decide, iw_Mo, Or.inl rfl, Or.inl (mg_in 585 (by decide +kernel) (by decide +kernel))⟩
theorem fl_Mo_40 : mg_FL "PropertyShrinkModel" 40 11 19 := ⟨"PropertyShrinkModel", FT_Mo, 43, "PropertyShrinkModel", rfl, by decide, iw_Mo, Or.inl rfl, Or.inl (mg_in 586 (by decide +kernel) (by decide +kernel))⟩
theorem fl_Mo_111 : mg_FL "PropertyShrinkModel" 111 11 20 := ⟨"PropertyShrinkModel", FT_Mo, 43, "PropertyShrinkModel", rfl, by decide, iw_Mo, Or.inl rfl, Or.inl (mg_in 587 (by decide +kernel) (by decide +kernel))⟩
theorem fl_Mo_43 : mg_FL "PropertyShrinkModel" 43 11 21 := ⟨"PropertyShrinkModel", FT_Mo, 43, "PropertyShrinkModel", rfl, by decide, iw_Mo, Or.inl rfl, Or.inl (mg_in 588 (by decide +kernel) (by decide +kernel))⟩
theorem fl_Mo_46 : mg_FL "PropertyShrinkModel" 46 11 22 := ⟨"PropertyShrinkModel", FT_Mo, 43, "PropertyShrinkModel", rfl, by decide, iw_Mo, Or.inl rfl, Or.inl (mg_in 589 (by decide +kernel) (by decide +kernel))⟩
theorem fl_Mo_49 : mg_FL "PropertyShrinkModel" 49 11 23 := ⟨"PropertyShrinkModel", FT_Mo, 43, "PropertyShrinkModel", rfl, by decide, iw_Mo, Or.inl rfl, Or.inl (mg_in 590 (by decide +kernel) (by decide +kernel))⟩
theorem fl_Mo_52 : mg_FL "PropertyShrinkModel" 52 11 24 := ⟨"PropertyShrinkModel", FT_Mo, 43, "PropertyShrinkModel", rfl, by decide, iw_Mo, Or.inl rfl, Or.inl (mg_in 591 (by decide +kernel) (by decide +kernel))⟩
theorem fl_Mo_121 : mg_FL "PropertyShrinkModel" 121 11 25 := ⟨"PropertyShrinkModel", FT_Mo, 43, "PropertyShrinkModel", rfl, by decide, iw_Mo, Or.inl rfl, Or.inl (mg_in 592 (by decide +kernel) (by decide +kernel))⟩
theorem fl_Mo_55 : mg_FL "PropertyShrinkModel" 55 11 26 := ⟨"PropertyShrinkModel", FT_Mo, 43, "PropertyShrinkModel", rfl, by decide, iw_Mo, Or.inl rfl, Or.inl (mg_in 593 (by decide +kernel) (by decide +kernel))⟩
theorem fl_Mo_146 : mg_FL "PropertyShrinkModel" 146 11 27 := ⟨"PropertyShrinkModel", FT_Mo, 43, "PropertyShrinkModel", rfl, by decide, iw_Mo, Or.inl rfl, Or.inl (mg_in 594 (by decide +kernel) (by decide +kernel))⟩
theorem fl_Mo_149 : mg_FL "PropertyShrinkModel" 149 11 28 := ⟨"PropertyShrinkModel", FT_Mo, 43, "PropertyShrinkModel", rfl, by decide, iw_Mo, Or.inl rfl, Or.inl (mg_in 595 (by decide +kernel) (by decide +kernel))⟩
theorem fl_Mo_152 : mg_FL "PropertyShrinkModel" 152 11 29 := ⟨"PropertyShrinkModel", FT_Mo, 43, "PropertyShrinkModel", rfl, by decide, iw_Mo, Or.inl rfl, Or.inl (mg_in 596 (by decide +kernel) (by decide +kernel))⟩
theorem fl_Mo_158 : mg_FL "PropertyShrinkModel" 158 11 30 := ⟨"PropertyShrinkModel", FT_Mo, 43, "PropertyShrinkModel", rfl, by decide, iw_Mo, Or.inl rfl, Or.inl (mg_in 597 (by decide +kernel) (by decide +kernel))⟩
theorem fl_Mo_174 : mg_FL "PropertyShrinkModel" 174 11 31 := ⟨"PropertyShrinkModel", FT_Mo, 43, "PropertyShrinkModel", rfl, by decide, iw_Mo, Or.inl rfl, Or.inl (mg_in 598 (by decide +kernel) (by decide +kernel))⟩
theorem fl_Mo_59 : mg_FL "PropertyShrinkModel" 59 11 32 := ⟨"PropertyShrinkModel", FT_Mo, 43, "PropertyShrinkModel", rfl, by decide, iw_Mo, Or.inl rfl, Or.inl (mg_in 599 (by decide +kernel) (by decide +kernel))⟩
theorem fl_Mo_62 : mg_FL "PropertyShrinkModel" 62 11 33 := ⟨"PropertyShrinkModel", FT_Mo, 43, "PropertyShrinkModel", rfl, by decide, iw_Mo, Or.inl rfl, Or.inl (mg_in 600 (by decide +kernel) (by decide +kernel))⟩
theorem fl_Mo_65 : mg_FL "PropertyShrinkModel" 65 11 34 := ⟨"PropertyShrinkModel", FT_Mo, 43, "PropertyShrinkModel", rfl, by decide, iw_Mo, Or.inl rfl, Or.inl (mg_in 601 (by decide +kernel) (by decide +kernel))⟩
theorem fl_Mo_68 : mg_FL "PropertyShrinkModel" 68 11 35 := ⟨"PropertyShrinkModel", FT_Mo, 43, "PropertyShrinkModel", rfl, by decide, iw_Mo, Or.inl rfl, Or.inl (mg_in 602 (by decide +kernel) (by decide +kernel))⟩
theorem fl_Mo_71 : mg_FL "PropertyShrinkModel" 71 11 36 := ⟨"PropertyShrinkModel", FT_Mo, 43, "PropertyShrinkModel", rfl, by decide, iw_Mo, Or.inl rfl, Or.inl (mg_in 603 (by decide +kernel) (by decide +kernel))⟩
theorem fl_Mo_181 : mg_FL "PropertyShrinkModel" 181 11 37 := ⟨"PropertyShrinkModel", FT_Mo, 43, "PropertyShrinkModel", rfl, by decide, iw_Mo, Or.inl rfl, Or.inl (mg_in 604 (by decide +kernel) (by decide +kernel))⟩
theorem fl_Mo_74 : mg_FL "PropertyShrinkModel" 74 11 38 := ⟨"PropertyShrinkModel", FT_Mo, 43, "PropertyShrinkModel", rfl, by decide, iw_Mo, Or.inl rfl, Or.inl (mg_in 605 (by decide +kernel) (by decide +kernel))⟩
theorem fl_Mo_77 : mg_FL "PropertyShrinkModel" 77 11 39 := ⟨"PropertyShrinkModel", FT_Mo, 43, "PropertyShrinkModel", rfl, by decide, iw_Mo, Or.inl rfl, Or.inl (mg_in 606 (by decide +kernel) (by decide +kernel))⟩
theorem fl_Mo_143 : mg_FL "PropertyShrinkModel" 143 11 40 := ⟨"PropertyShrinkModel", FT_Mo, 43, "PropertyShrinkModel", rfl, by decide, iw_Mo, Or.inl rfl, Or.inl (mg_in 607 (by decide +kernel) (by decide +kernel))⟩
theorem fl_Mo_196 : mg_FL "PropertyShrinkModel" 196 11 41 := ⟨"PropertyShrinkModel", FT_Mo, 43, "PropertyShrinkModel", rfl, by decide, iw_Mo, Or.inl rfl, Or.inl (mg_in 608 (by decide +kernel) (by decide +kernel))⟩
theorem fl_Mo_199 : mg_FL "PropertyShrinkModel" 199 11 42 := ⟨"PropertyShrinkModel", FT_Mo, 43, "PropertyShrinkModel", rfl, by decide, iw_Mo, Or.inl rfl, Or.inl (mg_in 609 (by decide +kernel) (by decide +kernel))⟩
theorem fw_PS_11 : mg_FW "PropertyShrink" "<init>" 11 0 0 (.array (.object "PropertyShrink$Generator")) := ⟨"PropertyShrink", FT_PS, 17, ty_PS, "PropertyShrink", rfl, by decide, iw_PS, rfl, tk_PS, nm_PS, by decide +kernel, Or.inr ⟨rfl, rfl, rfl, mg_in 113 (by decide +kernel) (by decide +kernel)⟩⟩
theorem fw_PS_17 : mg_FW "PropertyShrink" "<init>" 17 0 2 (.array (.object "PropertyShrink$Property")) := ⟨"PropertyShrink", FT_PS, 17, ty_PS, "PropertyShrink", rfl, by decide, iw_PS, rfl, tk_PS, nm_PS, by decide +kernel, Or.inr ⟨rfl, rfl, rfl, mg_in 115 (by decide +kernel) (by decide +kernel)⟩⟩
theorem fw_PS_24 : mg_FW "PropertyShrink" "<init>" 24 0 11 (.object "PropertyShrink$Ints") := ⟨"PropertyShrink", FT_PS, 17, ty_PS, "PropertyShrink", rfl, by decide, iw_PS, rfl, tk_PS, nm_PS, by decide +kernel, Or.inr ⟨rfl, rfl, rfl, mg_in 124 (by decide +kernel) (by decide +kernel)⟩⟩
theorem fw_PS_28 : mg_FW "PropertyShrink" "<init>" 28 0 12 (.object "PropertyShrink$Ints") := ⟨"PropertyShrink", FT_PS, 17, ty_PS, "PropertyShrink", rfl, by decide, iw_PS, rfl, tk_PS, nm_PS, by decide +kernel, Or.inr ⟨rfl, rfl, rfl, mg_in 125 (by decide +kernel) (by decide +kernel)⟩⟩
theorem fw_PS_31 : mg_FW "PropertyShrink" "<init>" 31 0 13 (.object "PropertyShrink$Ints") := ⟨"PropertyShrink", FT_PS, 17, ty_PS, "PropertyShrink", rfl, by decide, iw_PS, rfl, tk_PS, nm_PS, by decide +kernel, Or.inr ⟨rfl, rfl, rfl, mg_in 126 (by decide +kernel) (by decide +kernel)⟩⟩
theorem fw_PS_34 : mg_FW "PropertyShrink" "<init>" 34 0 14 (.object "PropertyShrink$Ints") := ⟨"PropertyShrink", FT_PS, 17, ty_PS, "PropertyShrink", rfl, by decide, iw_PS, rfl, tk_PS, nm_PS, by decide +kernel, Or.inr ⟨rfl, rfl, rfl, mg_in 127 (by decide +kernel) (by decide +kernel)⟩⟩
theorem fw_PS_40 : mg_FW "PropertyShrink" "<init>" 40 0 15 (.object "PropertyShrink$Draws") := ⟨"PropertyShrink", FT_PS, 17, ty_PS, "PropertyShrink", rfl, by decide, iw_PS, rfl, tk_PS, nm_PS, by decide +kernel, Or.inr ⟨rfl, rfl, rfl, mg_in 128 (by decide +kernel) (by decide +kernel)⟩⟩
theorem fw_PS_44 (nm : String) : mg_FW "PropertyShrink" nm 44 0 1 (.int) := ⟨"PropertyShrink", FT_PS, 17, ty_PS, "PropertyShrink", rfl, by decide, iw_PS, rfl, tk_PS, nm_PS, by decide +kernel, Or.inl ⟨rfl, Or.inl (mg_in 114 (by decide +kernel) (by decide +kernel))⟩⟩
theorem fw_PS_55 (nm : String) : mg_FW "PropertyShrink" nm 55 0 3 (.int) := ⟨"PropertyShrink", FT_PS, 17, ty_PS, "PropertyShrink", rfl, by decide, iw_PS, rfl, tk_PS, nm_PS, by decide +kernel, Or.inl ⟨rfl, Or.inl (mg_in 116 (by decide +kernel) (by decide +kernel))⟩⟩
theorem fw_PS_69 (nm : String) : mg_FW "PropertyShrink" nm 69 0 6 (.int) := ⟨"PropertyShrink", FT_PS, 17, ty_PS, "PropertyShrink", rfl, by decide, iw_PS, rfl, tk_PS, nm_PS, by decide +kernel, Or.inl ⟨rfl, Or.inl (mg_in 119 (by decide +kernel) (by decide +kernel))⟩⟩
theorem fw_PS_82 (nm : String) : mg_FW "PropertyShrink" nm 82 0 4 (.object "PropertyShrink$Kept") := ⟨"PropertyShrink", FT_PS, 17, ty_PS, "PropertyShrink", rfl, by decide, iw_PS, rfl, tk_PS, nm_PS, by decide +kernel, Or.inl ⟨rfl, Or.inl (mg_in 117 (by decide +kernel) (by decide +kernel))⟩⟩
theorem fw_PS_89 (nm : String) : mg_FW "PropertyShrink" nm 89 0 5 (.int) := ⟨"PropertyShrink", FT_PS, 17, ty_PS, "PropertyShrink", rfl, by decide, iw_PS, rfl, tk_PS, nm_PS, by decide +kernel, Or.inl ⟨rfl, Or.inl (mg_in 118 (by decide +kernel) (by decide +kernel))⟩⟩
theorem fw_PS_111 (nm : String) : mg_FW "PropertyShrink" nm 111 0 10 (.boolean) := ⟨"PropertyShrink", FT_PS, 17, ty_PS, "PropertyShrink", rfl, by decide, iw_PS, rfl, tk_PS, nm_PS, by decide +kernel, Or.inl ⟨rfl, Or.inl (mg_in 123 (by decide +kernel) (by decide +kernel))⟩⟩
theorem fw_PS_138 (nm : String) : mg_FW "PropertyShrink" nm 138 0 16 (.long) := ⟨"PropertyShrink", FT_PS, 17, ty_PS, "PropertyShrink", rfl, by decide, iw_PS, rfl, tk_PS, nm_PS, by decide +kernel, Or.inl ⟨rfl, Or.inl (mg_in 129 (by decide +kernel) (by decide +kernel))⟩⟩
theorem fw_PS_92 (nm : String) : mg_FW "PropertyShrink" nm 92 0 7 (.object "PropertyShrink$Generator") := ⟨"PropertyShrink", FT_PS, 17, ty_PS, "PropertyShrink", rfl, by decide, iw_PS, rfl, tk_PS, nm_PS, by decide +kernel, Or.inl ⟨rfl, Or.inl (mg_in 120 (by decide +kernel) (by decide +kernel))⟩⟩
theorem fw_PS_96 (nm : String) : mg_FW "PropertyShrink" nm 96 0 8 (.object "PropertyShrink$Property") := ⟨"PropertyShrink", FT_PS, 17, ty_PS, "PropertyShrink", rfl, by decide, iw_PS, rfl, tk_PS, nm_PS, by decide +kernel, Or.inl ⟨rfl, Or.inl (mg_in 121 (by decide +kernel) (by decide +kernel))⟩⟩
theorem fw_PS_115 (nm : String) : mg_FW "PropertyShrink" nm 115 0 9 (.int) := ⟨"PropertyShrink", FT_PS, 17, ty_PS, "PropertyShrink", rfl, by decide, iw_PS, rfl, tk_PS, nm_PS, by decide +kernel, Or.inl ⟨rfl, Or.inl (mg_in 122 (by decide +kernel) (by decide +kernel))⟩⟩
theorem fw_Mo_7 : mg_FW "PropertyShrinkModel" "<init>" 7 11 3 (.array .int) := ⟨"PropertyShrinkModel", FT_Mo, 43, ty_Mo, "PropertyShrinkModel", rfl, by decide, iw_Mo, rfl, tk_Mo, nm_Mo, by decide +kernel, Or.inr ⟨rfl, rfl, rfl, mg_in 570 (by decide +kernel) (by decide +kernel)⟩⟩
theorem fw_Mo_13 : mg_FW "PropertyShrinkModel" "<init>" 13 11 4 (.array .int) := ⟨"PropertyShrinkModel", FT_Mo, 43, ty_Mo, "PropertyShrinkModel", rfl, by decide, iw_Mo, rfl, tk_Mo, nm_Mo, by decide +kernel, Or.inr ⟨rfl, rfl, rfl, mg_in 571 (by decide +kernel) (by decide +kernel)⟩⟩
theorem fw_Mo_16 : mg_FW "PropertyShrinkModel" "<init>" 16 11 5 (.array .int) := ⟨"PropertyShrinkModel", FT_Mo, 43, ty_Mo, "PropertyShrinkModel", rfl, by decide, iw_Mo, rfl, tk_Mo, nm_Mo, by decide +kernel, Or.inr ⟨rfl, rfl, rfl, mg_in 572 (by decide +kernel) (by decide +kernel)⟩⟩
theorem fw_Mo_19 : mg_FW "PropertyShrinkModel" "<init>" 19 11 6 (.array .int) := ⟨"PropertyShrinkModel", FT_Mo, 43, ty_Mo, "PropertyShrinkModel", rfl, by decide, iw_Mo, rfl, tk_Mo, nm_Mo, by decide +kernel, Or.inr ⟨rfl, rfl, rfl, mg_in 573 (by decide +kernel) (by decide +kernel)⟩⟩
theorem fw_Mo_22 : mg_FW "PropertyShrinkModel" "<init>" 22 11 7 (.array .int) := ⟨"PropertyShrinkModel", FT_Mo, 43, ty_Mo, "PropertyShrinkModel", rfl, by decide, iw_Mo, rfl, tk_Mo, nm_Mo, by decide +kernel, Or.inr ⟨rfl, rfl, rfl, mg_in 574 (by decide +kernel) (by decide +kernel)⟩⟩
theorem fw_Mo_25 : mg_FW "PropertyShrinkModel" "<init>" 25 11 8 (.array .int) := ⟨"PropertyShrinkModel", FT_Mo, 43, ty_Mo, "PropertyShrinkModel", rfl, by decide, iw_Mo, rfl, tk_Mo, nm_Mo, by decide +kernel, Or.inr ⟨rfl, rfl, rfl, mg_in 575 (by decide +kernel) (by decide +kernel)⟩⟩
theorem fw_Mo_28 : mg_FW "PropertyShrinkModel" "<init>" 28 11 9 (.array .int) := ⟨"PropertyShrinkModel", FT_Mo, 43, ty_Mo, "PropertyShrinkModel", rfl, by decide, iw_Mo, rfl, tk_Mo, nm_Mo, by decide +kernel, Or.inr ⟨rfl, rfl, rfl, mg_in 576 (by decide +kernel) (by decide +kernel)⟩⟩
theorem fw_Mo_31 : mg_FW "PropertyShrinkModel" "<init>" 31 11 16 (.array .int) := ⟨"PropertyShrinkModel", FT_Mo, 43, ty_Mo, "PropertyShrinkModel", rfl, by decide, iw_Mo, rfl, tk_Mo, nm_Mo, by decide +kernel, Or.inr ⟨rfl, rfl, rfl, mg_in 583 (by decide +kernel) (by decide +kernel)⟩⟩
theorem fw_Mo_34 : mg_FW "PropertyShrinkModel" "<init>" 34 11 17 (.array .int) := ⟨"PropertyShrinkModel", FT_Mo, 43, ty_Mo, "PropertyShrinkModel", rfl, by decide, iw_Mo, rfl, tk_Mo, nm_Mo, by decide +kernel, Or.inr ⟨rfl, rfl, rfl, mg_in 584 (by decide +kernel) (by decide +kernel)⟩⟩
theorem fw_Mo_37 : mg_FW "PropertyShrinkModel" "<init>" 37 11 18 (.array .int) := ⟨"PropertyShrinkModel", FT_Mo, 43, ty_Mo, "PropertyShrinkModel", rfl, by decide, iw_Mo, rfl, tk_Mo, nm_Mo, by decide +kernel, Or.inr ⟨rfl, rfl, rfl, mg_in 585 (by decide +kernel) (by decide +kernel)⟩⟩
theorem fw_Mo_40 : mg_FW "PropertyShrinkModel" "<init>" 40 11 19 (.array .int) := ⟨"PropertyShrinkModel", FT_Mo, 43, ty_Mo, "PropertyShrinkModel", rfl, by decide, iw_Mo, rfl, tk_Mo, nm_Mo, by decide +kernel, Or.inr ⟨rfl, rfl, rfl, mg_in 586 (by decide +kernel) (by decide +kernel)⟩⟩
theorem fw_Mo_43 : mg_FW "PropertyShrinkModel" "<init>" 43 11 21 (.array .int) := ⟨"PropertyShrinkModel", FT_Mo, 43, ty_Mo, "PropertyShrinkModel", rfl, by decide, iw_Mo, rfl, tk_Mo, nm_Mo, by decide +kernel, Or.inr ⟨rfl, rfl, rfl, mg_in 588 (by decide +kernel) (by decide +kernel)⟩⟩
theorem fw_Mo_46 : mg_FW "PropertyShrinkModel" "<init>" 46 11 22 (.array .int) := ⟨"PropertyShrinkModel", FT_Mo, 43, ty_Mo, "PropertyShrinkModel", rfl, by decide, iw_Mo, rfl, tk_Mo, nm_Mo, by decide +kernel, Or.inr ⟨rfl, rfl, rfl, mg_in 589 (by decide +kernel) (by decide +kernel)⟩⟩
theorem fw_Mo_49 : mg_FW "PropertyShrinkModel" "<init>" 49 11 23 (.array .int) := ⟨"PropertyShrinkModel", FT_Mo, 43, ty_Mo, "PropertyShrinkModel", rfl, by decide, iw_Mo, rfl, tk_Mo, nm_Mo, by decide +kernel, Or.inr ⟨rfl, rfl, rfl, mg_in 590 (by decide +kernel) (by decide +kernel)⟩⟩
theorem fw_Mo_52 : mg_FW "PropertyShrinkModel" "<init>" 52 11 24 (.array .int) := ⟨"PropertyShrinkModel", FT_Mo, 43, ty_Mo, "PropertyShrinkModel", rfl, by decide, iw_Mo, rfl, tk_Mo, nm_Mo, by decide +kernel, Or.inr ⟨rfl, rfl, rfl, mg_in 591 (by decide +kernel) (by decide +kernel)⟩⟩
theorem fw_Mo_55 (nm : String) : mg_FW "PropertyShrinkModel" nm 55 11 26 (.int) := ⟨"PropertyShrinkModel", FT_Mo, 43, ty_Mo, "PropertyShrinkModel", rfl, by decide, iw_Mo, rfl, tk_Mo, nm_Mo, by decide +kernel, Or.inl ⟨rfl, Or.inl (mg_in 593 (by decide +kernel) (by decide +kernel))⟩⟩
theorem fw_Mo_59 : mg_FW "PropertyShrinkModel" "<init>" 59 11 32 (.array .int) := ⟨"PropertyShrinkModel", FT_Mo, 43, ty_Mo, "PropertyShrinkModel", rfl, by decide, iw_Mo, rfl, tk_Mo, nm_Mo, by decide +kernel, Or.inr ⟨rfl, rfl, rfl, mg_in 599 (by decide +kernel) (by decide +kernel)⟩⟩
theorem fw_Mo_62 : mg_FW "PropertyShrinkModel" "<init>" 62 11 33 (.array .int) := ⟨"PropertyShrinkModel", FT_Mo, 43, ty_Mo, "PropertyShrinkModel", rfl, by decide, iw_Mo, rfl, tk_Mo, nm_Mo, by decide +kernel, Or.inr ⟨rfl, rfl, rfl, mg_in 600 (by decide +kernel) (by decide +kernel)⟩⟩
theorem fw_Mo_65 : mg_FW "PropertyShrinkModel" "<init>" 65 11 34 (.array .int) := ⟨"PropertyShrinkModel", FT_Mo, 43, ty_Mo, "PropertyShrinkModel", rfl, by decide, iw_Mo, rfl, tk_Mo, nm_Mo, by decide +kernel, Or.inr ⟨rfl, rfl, rfl, mg_in 601 (by decide +kernel) (by decide +kernel)⟩⟩
theorem fw_Mo_68 : mg_FW "PropertyShrinkModel" "<init>" 68 11 35 (.array .int) := ⟨"PropertyShrinkModel", FT_Mo, 43, ty_Mo, "PropertyShrinkModel", rfl, by decide, iw_Mo, rfl, tk_Mo, nm_Mo, by decide +kernel, Or.inr ⟨rfl, rfl, rfl, mg_in 602 (by decide +kernel) (by decide +kernel)⟩⟩
theorem fw_Mo_71 : mg_FW "PropertyShrinkModel" "<init>" 71 11 36 (.array .int) := ⟨"PropertyShrinkModel", FT_Mo, 43, ty_Mo, "PropertyShrinkModel", rfl, by decide, iw_Mo, rfl, tk_Mo, nm_Mo, by decide +kernel, Or.inr ⟨rfl, rfl, rfl, mg_in 603 (by decide +kernel) (by decide +kernel)⟩⟩
theorem fw_Mo_74 : mg_FW "PropertyShrinkModel" "<init>" 74 11 38 (.array .int) := ⟨"PropertyShrinkModel", FT_Mo, 43, ty_Mo, "PropertyShrinkModel", rfl, by decide, iw_Mo, rfl, tk_Mo, nm_Mo, by decide +kernel, Or.inr ⟨rfl, rfl, rfl, mg_in 605 (by decide +kernel) (by decide +kernel)⟩⟩
theorem fw_Mo_77 : mg_FW "PropertyShrinkModel" "<init>" 77 11 39 (.array .int) := ⟨"PropertyShrinkModel", FT_Mo, 43, ty_Mo, "PropertyShrinkModel", rfl, by decide, iw_Mo, rfl, tk_Mo, nm_Mo, by decide +kernel, Or.inr ⟨rfl, rfl, rfl, mg_in 606 (by decide +kernel) (by decide +kernel)⟩⟩
theorem fw_Mo_80 (nm : String) : mg_FW "PropertyShrinkModel" nm 80 11 0 (.int) := ⟨"PropertyShrinkModel", FT_Mo, 43, ty_Mo, "PropertyShrinkModel", rfl, by decide, iw_Mo, rfl, tk_Mo, nm_Mo, by decide +kernel, Or.inl ⟨rfl, Or.inl (mg_in 567 (by decide +kernel) (by decide +kernel))⟩⟩
theorem fw_Mo_83 (nm : String) : mg_FW "PropertyShrinkModel" nm 83 11 1 (.int) := ⟨"PropertyShrinkModel", FT_Mo, 43, ty_Mo, "PropertyShrinkModel", rfl, by decide, iw_Mo, rfl, tk_Mo, nm_Mo, by decide +kernel, Or.inl ⟨rfl, Or.inl (mg_in 568 (by decide +kernel) (by decide +kernel))⟩⟩
theorem fw_Mo_94 (nm : String) : mg_FW "PropertyShrinkModel" nm 94 11 2 (.int) := ⟨"PropertyShrinkModel", FT_Mo, 43, ty_Mo, "PropertyShrinkModel", rfl, by decide, iw_Mo, rfl, tk_Mo, nm_Mo, by decide +kernel, Or.inl ⟨rfl, Or.inl (mg_in 569 (by decide +kernel) (by decide +kernel))⟩⟩
theorem fw_Mo_100 (nm : String) : mg_FW "PropertyShrinkModel" nm 100 11 14 (.long) := ⟨"PropertyShrinkModel", FT_Mo, 43, ty_Mo, "PropertyShrinkModel", rfl, by decide, iw_Mo, rfl, tk_Mo, nm_Mo, by decide +kernel, Or.inl ⟨rfl, Or.inl (mg_in 581 (by decide +kernel) (by decide +kernel))⟩⟩
theorem fw_Mo_114 (nm : String) : mg_FW "PropertyShrinkModel" nm 114 11 15 (.boolean) := ⟨"PropertyShrinkModel", FT_Mo, 43, ty_Mo, "PropertyShrinkModel", rfl, by decide, iw_Mo, rfl, tk_Mo, nm_Mo, by decide +kernel, Or.inl ⟨rfl, Or.inl (mg_in 582 (by decide +kernel) (by decide +kernel))⟩⟩
theorem fw_Mo_108 (nm : String) : mg_FW "PropertyShrinkModel" nm 108 11 11 (.int) := ⟨"PropertyShrinkModel", FT_Mo, 43, ty_Mo, "PropertyShrinkModel", rfl, by decide, iw_Mo, rfl, tk_Mo, nm_Mo, by decide +kernel, Or.inl ⟨rfl, Or.inl (mg_in 578 (by decide +kernel) (by decide +kernel))⟩⟩
theorem fw_Mo_121 (nm : String) : mg_FW "PropertyShrinkModel" nm 121 11 25 (.int) := ⟨"PropertyShrinkModel", FT_Mo, 43, ty_Mo, "PropertyShrinkModel", rfl, by decide, iw_Mo, rfl, tk_Mo, nm_Mo, by decide +kernel, Or.inl ⟨rfl, Or.inl (mg_in 592 (by decide +kernel) (by decide +kernel))⟩⟩
theorem fw_Mo_97 (nm : String) : mg_FW "PropertyShrinkModel" nm 97 11 10 (.int) := ⟨"PropertyShrinkModel", FT_Mo, 43, ty_Mo, "PropertyShrinkModel", rfl, by decide, iw_Mo, rfl, tk_Mo, nm_Mo, by decide +kernel, Or.inl ⟨rfl, Or.inl (mg_in 577 (by decide +kernel) (by decide +kernel))⟩⟩
theorem fw_Mo_124 (nm : String) : mg_FW "PropertyShrinkModel" nm 124 11 12 (.int) := ⟨"PropertyShrinkModel", FT_Mo, 43, ty_Mo, "PropertyShrinkModel", rfl, by decide, iw_Mo, rfl, tk_Mo, nm_Mo, by decide +kernel, Or.inl ⟨rfl, Or.inl (mg_in 579 (by decide +kernel) (by decide +kernel))⟩⟩
theorem fw_Mo_143 (nm : String) : mg_FW "PropertyShrinkModel" nm 143 11 40 (.int) := ⟨"PropertyShrinkModel", FT_Mo, 43, ty_Mo, "PropertyShrinkModel", rfl, by decide, iw_Mo, rfl, tk_Mo, nm_Mo, by decide +kernel, Or.inl ⟨rfl, Or.inl (mg_in 607 (by decide +kernel) (by decide +kernel))⟩⟩
theorem fw_Mo_146 (nm : String) : mg_FW "PropertyShrinkModel" nm 146 11 27 (.int) := ⟨"PropertyShrinkModel", FT_Mo, 43, ty_Mo, "PropertyShrinkModel", rfl, by decide, iw_Mo, rfl, tk_Mo, nm_Mo, by decide +kernel, Or.inl ⟨rfl, Or.inl (mg_in 594 (by decide +kernel) (by decide +kernel))⟩⟩
theorem fw_Mo_149 (nm : String) : mg_FW "PropertyShrinkModel" nm 149 11 28 (.int) := ⟨"PropertyShrinkModel", FT_Mo, 43, ty_Mo, "PropertyShrinkModel", rfl, by decide, iw_Mo, rfl, tk_Mo, nm_Mo, by decide +kernel, Or.inl ⟨rfl, Or.inl (mg_in 595 (by decide +kernel) (by decide +kernel))⟩⟩
theorem fw_Mo_152 (nm : String) : mg_FW "PropertyShrinkModel" nm 152 11 29 (.int) := ⟨"PropertyShrinkModel", FT_Mo, 43, ty_Mo, "PropertyShrinkModel", rfl, by decide, iw_Mo, rfl, tk_Mo, nm_Mo, by decide +kernel, Or.inl ⟨rfl, Or.inl (mg_in 596 (by decide +kernel) (by decide +kernel))⟩⟩
theorem fw_Mo_111 (nm : String) : mg_FW "PropertyShrinkModel" nm 111 11 20 (.int) := ⟨"PropertyShrinkModel", FT_Mo, 43, ty_Mo, "PropertyShrinkModel", rfl, by decide, iw_Mo, rfl, tk_Mo, nm_Mo, by decide +kernel, Or.inl ⟨rfl, Or.inl (mg_in 587 (by decide +kernel) (by decide +kernel))⟩⟩
theorem fw_Mo_158 (nm : String) : mg_FW "PropertyShrinkModel" nm 158 11 30 (.int) := ⟨"PropertyShrinkModel", FT_Mo, 43, ty_Mo, "PropertyShrinkModel", rfl, by decide, iw_Mo, rfl, tk_Mo, nm_Mo, by decide +kernel, Or.inl ⟨rfl, Or.inl (mg_in 597 (by decide +kernel) (by decide +kernel))⟩⟩
theorem fw_Mo_174 (nm : String) : mg_FW "PropertyShrinkModel" nm 174 11 31 (.int) := ⟨"PropertyShrinkModel", FT_Mo, 43, ty_Mo, "PropertyShrinkModel", rfl, by decide, iw_Mo, rfl, tk_Mo, nm_Mo, by decide +kernel, Or.inl ⟨rfl, Or.inl (mg_in 598 (by decide +kernel) (by decide +kernel))⟩⟩
theorem fw_Mo_181 (nm : String) : mg_FW "PropertyShrinkModel" nm 181 11 37 (.boolean) := ⟨"PropertyShrinkModel", FT_Mo, 43, ty_Mo, "PropertyShrinkModel", rfl, by decide, iw_Mo, rfl, tk_Mo, nm_Mo, by decide +kernel, Or.inl ⟨rfl, Or.inl (mg_in 604 (by decide +kernel) (by decide +kernel))⟩⟩
theorem fw_Mo_118 (nm : String) : mg_FW "PropertyShrinkModel" nm 118 11 13 (.int) := ⟨"PropertyShrinkModel", FT_Mo, 43, ty_Mo, "PropertyShrinkModel", rfl, by decide, iw_Mo, rfl, tk_Mo, nm_Mo, by decide +kernel, Or.inl ⟨rfl, Or.inl (mg_in 580 (by decide +kernel) (by decide +kernel))⟩⟩
theorem fw_Mo_196 (nm : String) : mg_FW "PropertyShrinkModel" nm 196 11 41 (.int) := ⟨"PropertyShrinkModel", FT_Mo, 43, ty_Mo, "PropertyShrinkModel", rfl, by decide, iw_Mo, rfl, tk_Mo, nm_Mo, by decide +kernel, Or.inl ⟨rfl, Or.inl (mg_in 608 (by decide +kernel) (by decide +kernel))⟩⟩
theorem fw_Mo_199 (nm : String) : mg_FW "PropertyShrinkModel" nm 199 11 42 (.long) := ⟨"PropertyShrinkModel", FT_Mo, 43, ty_Mo, "PropertyShrinkModel", rfl, by decide, iw_Mo, rfl, tk_Mo, nm_Mo, by decide +kernel, Or.inl ⟨rfl, Or.inl (mg_in 609 (by decide +kernel) (by decide +kernel))⟩⟩
theorem fw_AT_11 : mg_FW "PropertyShrink$AddTo" "<init>" 11 8 1 (.object "PropertyShrink$Generator") := ⟨"PropertyShrink$AddTo", FT_AT, 3, ty_AT, "PropertyShrink$AddTo", rfl, by decide, iw_AT, rfl, tk_AT, nm_AT, by decide +kernel, Or.inr ⟨rfl, rfl, rfl, mg_in 239 (by decide +kernel) (by decide +kernel)⟩⟩
theorem fw_AT_17 : mg_FW "PropertyShrink$AddTo" "<init>" 17 8 2 (.int) := ⟨"PropertyShrink$AddTo", FT_AT, 3, ty_AT, "PropertyShrink$AddTo", rfl, by decide, iw_AT, rfl, tk_AT, nm_AT, by decide +kernel, Or.inr ⟨rfl, rfl, rfl, mg_in 240 (by decide +kernel) (by decide +kernel)⟩⟩
theorem fw_Dr_12 : mg_FW "PropertyShrink$Draws" "<init>" 12 2 0 (.object "PropertyShrink$Ints") := ⟨"PropertyShrink$Draws", FT_Dr, 8, ty_Dr, "PropertyShrink$Draws", rfl, by decide, iw_Dr, rfl, tk_Dr, nm_Dr, by decide +kernel, Or.inr ⟨rfl, rfl, rfl, mg_in 80 (by decide +kernel) (by decide +kernel)⟩⟩
theorem fw_Dr_18 : mg_FW "PropertyShrink$Draws" "<init>" 18 2 1 (.object "PropertyShrink$Ints") := ⟨"PropertyShrink$Draws", FT_Dr, 8, ty_Dr, "PropertyShrink$Draws", rfl, by decide, iw_Dr, rfl, tk_Dr, nm_Dr, by decide +kernel, Or.inr ⟨rfl, rfl, rfl, mg_in 82 (by decide +kernel) (by decide +kernel)⟩⟩
theorem fw_Dr_21 : mg_FW "PropertyShrink$Draws" "<init>" 21 2 3 (.array .int) := ⟨"PropertyShrink$Draws", FT_Dr, 8, ty_Dr, "PropertyShrink$Draws", rfl, by decide, iw_Dr, rfl, tk_Dr, nm_Dr, by decide +kernel, Or.inr ⟨rfl, rfl, rfl, mg_in 91 (by decide +kernel) (by decide +kernel)⟩⟩
theorem fw_Dr_25 : mg_FW "PropertyShrink$Draws" "<init>" 25 2 4 (.object "PropertyShrink$Ints") := ⟨"PropertyShrink$Draws", FT_Dr, 8, ty_Dr, "PropertyShrink$Draws", rfl, by decide, iw_Dr, rfl, tk_Dr, nm_Dr, by decide +kernel, Or.inr ⟨rfl, rfl, rfl, mg_in 92 (by decide +kernel) (by decide +kernel)⟩⟩
theorem fw_Dr_28 (nm : String) : mg_FW "PropertyShrink$Draws" nm 28 2 5 (.int) := ⟨"PropertyShrink$Draws", FT_Dr, 8, ty_Dr, "PropertyShrink$Draws", rfl, by decide, iw_Dr, rfl, tk_Dr, nm_Dr, by decide +kernel, Or.inl ⟨rfl, Or.inl (mg_in 93 (by decide +kernel) (by decide +kernel))⟩⟩
theorem fw_Dr_36 (nm : String) : mg_FW "PropertyShrink$Draws" nm 36 2 2 (.boolean) := ⟨"PropertyShrink$Draws", FT_Dr, 8, ty_Dr, "PropertyShrink$Draws", rfl, by decide, iw_Dr, rfl, tk_Dr, nm_Dr, by decide +kernel, Or.inl ⟨rfl, Or.inl (mg_in 89 (by decide +kernel) (by decide +kernel))⟩⟩
theorem fw_Dr_47 (nm : String) : mg_FW "PropertyShrink$Draws" nm 47 2 6 (.long) := ⟨"PropertyShrink$Draws", FT_Dr, 8, ty_Dr, "PropertyShrink$Draws", rfl, by decide, iw_Dr, rfl, tk_Dr, nm_Dr, by decide +kernel, Or.inl ⟨rfl, Or.inl (mg_in 94 (by decide +kernel) (by decide +kernel))⟩⟩
theorem fw_Dr_51 (nm : String) : mg_FW "PropertyShrink$Draws" nm 51 2 7 (.int) := ⟨"PropertyShrink$Draws", FT_Dr, 8, ty_Dr, "PropertyShrink$Draws", rfl, by decide, iw_Dr, rfl, tk_Dr, nm_Dr, by decide +kernel, Or.inl ⟨rfl, Or.inl (mg_in 95 (by decide +kernel) (by decide +kernel))⟩⟩
theorem fw_Ge_7_IR : mg_FW "PropertyShrink$Generator" "<init>" 7 3 0 (.int) := ⟨"PropertyShrink$IntRange", FT_IR, 3, ty_IR, "PropertyShrink$Generator", rfl, by decide, iw_IR, rfl, tk_IR, nm_IR, by decide +kernel, Or.inr ⟨rfl, rfl, rfl, mg_in 192 (by decide +kernel) (by decide +kernel)⟩⟩
theorem fw_Ge_7_LO : mg_FW "PropertyShrink$Generator" "<init>" 7 4 0 (.int) := ⟨"PropertyShrink$ListOf", FT_LO, 3, ty_LO, "PropertyShrink$Generator", rfl, by decide, iw_LO, rfl, tk_LO, nm_LO, by decide +kernel, Or.inr ⟨rfl, rfl, rfl, mg_in 192 (by decide +kernel) (by decide +kernel)⟩⟩
theorem fw_Ge_7_PO : mg_FW "PropertyShrink$Generator" "<init>" 7 5 0 (.int) := ⟨"PropertyShrink$PairOf", FT_PO, 3, ty_PO, "PropertyShrink$Generator", rfl, by decide, iw_PO, rfl, tk_PO, nm_PO, by decide +kernel, Or.inr ⟨rfl, rfl, rfl, mg_in 192 (by decide +kernel) (by decide +kernel)⟩⟩
theorem fw_Ge_7_OO : mg_FW "PropertyShrink$Generator" "<init>" 7 6 0 (.int) := ⟨"PropertyShrink$OneOf", FT_OO, 3, ty_OO, "PropertyShrink$Generator", rfl, by decide, iw_OO, rfl, tk_OO, nm_OO, by decide +kernel, Or.inr ⟨rfl, rfl, rfl, mg_in 192 (by decide +kernel) (by decide +kernel)⟩⟩
theorem fw_Ge_7_KO : mg_FW "PropertyShrink$Generator" "<init>" 7 7 0 (.int) := ⟨"PropertyShrink$KeepOf", FT_KO, 3, ty_KO, "PropertyShrink$Generator", rfl, by decide, iw_KO, rfl, tk_KO, nm_KO, by decide +kernel, Or.inr ⟨rfl, rfl, rfl, mg_in 192 (by decide +kernel) (by decide +kernel)⟩⟩
theorem fw_Ge_7_AT : mg_FW "PropertyShrink$Generator" "<init>" 7 8 0 (.int) := ⟨"PropertyShrink$AddTo", FT_AT, 3, ty_AT, "PropertyShrink$Generator", rfl, by decide, iw_AT, rfl, tk_AT, nm_AT, by decide +kernel, Or.inr ⟨rfl, rfl, rfl, mg_in 192 (by decide +kernel) (by decide +kernel)⟩⟩
theorem fw_IR_7 : mg_FW "PropertyShrink$IntRange" "<init>" 7 3 1 (.int) := ⟨"PropertyShrink$IntRange", FT_IR, 3, ty_IR, "PropertyShrink$IntRange", rfl, by decide, iw_IR, rfl, tk_IR, nm_IR, by decide +kernel, Or.inr ⟨rfl, rfl, rfl, mg_in 185 (by decide +kernel) (by decide +kernel)⟩⟩
theorem fw_IR_13 : mg_FW "PropertyShrink$IntRange" "<init>" 13 3 2 (.int) := ⟨"PropertyShrink$IntRange", FT_IR, 3, ty_IR, "PropertyShrink$IntRange", rfl, by decide, iw_IR, rfl, tk_IR, nm_IR, by decide +kernel, Or.inr ⟨rfl, rfl, rfl, mg_in 186 (by decide +kernel) (by decide +kernel)⟩⟩
theorem fw_In_9 : mg_FW "PropertyShrink$Ints" "<init>" 9 1 0 (.array .int) := ⟨"PropertyShrink$Ints", FT_In, 2, ty_In, "PropertyShrink$Ints", rfl, by decide, iw_In, rfl, tk_In, nm_In, by decide +kernel, Or.inr ⟨rfl, rfl, rfl, mg_in 64 (by decide +kernel) (by decide +kernel)⟩⟩
theorem fw_In_15 (nm : String) : mg_FW "PropertyShrink$Ints" nm 15 1 1 (.int) := ⟨"PropertyShrink$Ints", FT_In, 2, ty_In, "PropertyShrink$Ints", rfl, by decide, iw_In, rfl, tk_In, nm_In, by decide +kernel, Or.inl ⟨rfl, Or.inl (mg_in 65 (by decide +kernel) (by decide +kernel))⟩⟩
theorem fw_KO_13 : mg_FW "PropertyShrink$KeepOf" "<init>" 13 7 1 (.object "PropertyShrink$Generator") := ⟨"PropertyShrink$KeepOf", FT_KO, 3, ty_KO, "PropertyShrink$KeepOf", rfl, by decide, iw_KO, rfl, tk_KO, nm_KO, by decide +kernel, Or.inr ⟨rfl, rfl, rfl, mg_in 225 (by decide +kernel) (by decide +kernel)⟩⟩
theorem fw_KO_19 : mg_FW "PropertyShrink$KeepOf" "<init>" 19 7 2 (.int) := ⟨"PropertyShrink$KeepOf", FT_KO, 3, ty_KO, "PropertyShrink$KeepOf", rfl, by decide, iw_KO, rfl, tk_KO, nm_KO, by decide +kernel, Or.inr ⟨rfl, rfl, rfl, mg_in 226 (by decide +kernel) (by decide +kernel)⟩⟩
theorem fw_KO_34 (nm : String) : mg_FW "PropertyShrink$KeepOf" nm 34 2 2 (.boolean) := ⟨"PropertyShrink$Draws", FT_Dr, 8, ty_Dr, "PropertyShrink$Draws", rfl, by decide, iw_Dr, rfl, tk_Dr, nm_Dr, by decide +kernel, Or.inl ⟨rfl, Or.inl (mg_in 88 (by decide +kernel) (by decide +kernel))⟩⟩
theorem fw_Kp_10 : mg_FW "PropertyShrink$Kept" "<init>" 10 10 2 (.object "PropertyShrink$Ints") := ⟨"PropertyShrink$Kept", FT_Kp, 4, ty_Kp, "PropertyShrink$Kept", rfl, by decide, iw_Kp, rfl, tk_Kp, nm_Kp, by decide +kernel, Or.inr ⟨rfl, rfl, rfl, mg_in 471 (by decide +kernel) (by decide +kernel)⟩⟩
theorem fw_Kp_16 : mg_FW "PropertyShrink$Kept" "<init>" 16 10 0 (.int) := ⟨"PropertyShrink$Kept", FT_Kp, 4, ty_Kp, "PropertyShrink$Kept", rfl, by decide, iw_Kp, rfl, tk_Kp, nm_Kp, by decide +kernel, Or.inr ⟨rfl, rfl, rfl, mg_in 467 (by decide +kernel) (by decide +kernel)⟩⟩
theorem fw_Kp_20 : mg_FW "PropertyShrink$Kept" "<init>" 20 10 1 (.int) := ⟨"PropertyShrink$Kept", FT_Kp, 4, ty_Kp, "PropertyShrink$Kept", rfl, by decide, iw_Kp, rfl, tk_Kp, nm_Kp, by decide +kernel, Or.inr ⟨rfl, rfl, rfl, mg_in 469 (by decide +kernel) (by decide +kernel)⟩⟩
theorem fw_Kp_23 : mg_FW "PropertyShrink$Kept" "<init>" 23 10 3 (.object "PropertyShrink$Kept") := ⟨"PropertyShrink$Kept", FT_Kp, 4, ty_Kp, "PropertyShrink$Kept", rfl, by decide, iw_Kp, rfl, tk_Kp, nm_Kp, by decide +kernel, Or.inr ⟨rfl, rfl, rfl, mg_in 473 (by decide +kernel) (by decide +kernel)⟩⟩
theorem fw_LO_11 : mg_FW "PropertyShrink$ListOf" "<init>" 11 4 1 (.object "PropertyShrink$Generator") := ⟨"PropertyShrink$ListOf", FT_LO, 3, ty_LO, "PropertyShrink$ListOf", rfl, by decide, iw_LO, rfl, tk_LO, nm_LO, by decide +kernel, Or.inr ⟨rfl, rfl, rfl, mg_in 211 (by decide +kernel) (by decide +kernel)⟩⟩
theorem fw_LO_17 : mg_FW "PropertyShrink$ListOf" "<init>" 17 4 2 (.int) := ⟨"PropertyShrink$ListOf", FT_LO, 3, ty_LO, "PropertyShrink$ListOf", rfl, by decide, iw_LO, rfl, tk_LO, nm_LO, by decide +kernel, Or.inr ⟨rfl, rfl, rfl, mg_in 212 (by decide +kernel) (by decide +kernel)⟩⟩
theorem fw_OO_17 : mg_FW "PropertyShrink$OneOf" "<init>" 17 6 1 (.object "PropertyShrink$Generator") := ⟨"PropertyShrink$OneOf", FT_OO, 3, ty_OO, "PropertyShrink$OneOf", rfl, by decide, iw_OO, rfl, tk_OO, nm_OO, by decide +kernel, Or.inr ⟨rfl, rfl, rfl, mg_in 274 (by decide +kernel) (by decide +kernel)⟩⟩
theorem fw_OO_23 : mg_FW "PropertyShrink$OneOf" "<init>" 23 6 2 (.object "PropertyShrink$Generator") := ⟨"PropertyShrink$OneOf", FT_OO, 3, ty_OO, "PropertyShrink$OneOf", rfl, by decide, iw_OO, rfl, tk_OO, nm_OO, by decide +kernel, Or.inr ⟨rfl, rfl, rfl, mg_in 275 (by decide +kernel) (by decide +kernel)⟩⟩
theorem fw_PO_17 : mg_FW "PropertyShrink$PairOf" "<init>" 17 5 1 (.object "PropertyShrink$Generator") := ⟨"PropertyShrink$PairOf", FT_PO, 3, ty_PO, "PropertyShrink$PairOf", rfl, by decide, iw_PO, rfl, tk_PO, nm_PO, by decide +kernel, Or.inr ⟨rfl, rfl, rfl, mg_in 259 (by decide +kernel) (by decide +kernel)⟩⟩
theorem fw_PO_23 : mg_FW "PropertyShrink$PairOf" "<init>" 23 5 2 (.object "PropertyShrink$Generator") := ⟨"PropertyShrink$PairOf", FT_PO, 3, ty_PO, "PropertyShrink$PairOf", rfl, by decide, iw_PO, rfl, tk_PO, nm_PO, by decide +kernel, Or.inr ⟨rfl, rfl, rfl, mg_in 260 (by decide +kernel) (by decide +kernel)⟩⟩
theorem fw_Pr_9 : mg_FW "PropertyShrink$Property" "<init>" 9 9 0 (.int) := ⟨"PropertyShrink$Property", FT_Pr, 3, ty_Pr, "PropertyShrink$Property", rfl, by decide, iw_Pr, rfl, tk_Pr, nm_Pr, by decide +kernel, Or.inr ⟨rfl, rfl, rfl, mg_in 291 (by decide +kernel) (by decide +kernel)⟩⟩
theorem fw_Pr_15 : mg_FW "PropertyShrink$Property" "<init>" 15 9 1 (.int) := ⟨"PropertyShrink$Property", FT_Pr, 3, ty_Pr, "PropertyShrink$Property", rfl, by decide, iw_Pr, rfl, tk_Pr, nm_Pr, by decide +kernel, Or.inr ⟨rfl, rfl, rfl, mg_in 292 (by decide +kernel) (by decide +kernel)⟩⟩
theorem fw_Pr_18 : mg_FW "PropertyShrink$Property" "<init>" 18 9 2 (.int) := ⟨"PropertyShrink$Property", FT_Pr, 3, ty_Pr, "PropertyShrink$Property", rfl, by decide, iw_Pr, rfl, tk_Pr, nm_Pr, by decide +kernel, Or.inr ⟨rfl, rfl, rfl, mg_in 293 (by decide +kernel) (by decide +kernel)⟩⟩
theorem al_PS_9 : Cond.classLink "PropertyShrink" 9 "PropertyShrink$Generator" ∈ mg_GT := mg_in 54 (by decide +kernel) (by decide +kernel)
theorem al_PS_15 : Cond.classLink "PropertyShrink" 15 "PropertyShrink$Property" ∈ mg_GT := mg_in 56 (by decide +kernel) (by decide +kernel)
theorem nl_PS_21 : mg_NL "PropertyShrink" 21 1 2 [.null, .int 0] := ⟨"PropertyShrink$Ints", FT_In, ty_In, rfl, iw_In, tk_In, mg_in 58 (by decide +kernel) (by decide +kernel), mg_in 59 (by decide +kernel) (by decide +kernel), mg_in 33 (by decide +kernel) (by decide +kernel), by decide +kernel, fun _ => rfl⟩
theorem nl_PS_37 : mg_NL "PropertyShrink" 37 2 8 [.null, .null, .int 0, .null, .null, .int 0, .long 0, .int 0] := ⟨"PropertyShrink$Draws", FT_Dr, ty_Dr, rfl, iw_Dr, tk_Dr, mg_in 72 (by decide +kernel) (by decide +kernel), mg_in 73 (by decide +kernel) (by decide +kernel), mg_in 34 (by decide +kernel) (by decide +kernel), by decide +kernel, fun _ => rfl⟩
theorem nl_PS_15 : mg_NL "PropertyShrink" 15 9 3 [.int 0, .int 0, .int 0] := ⟨"PropertyShrink$Property", FT_Pr, ty_Pr, rfl, iw_Pr, tk_Pr, mg_in 56 (by decide +kernel) (by decide +kernel), mg_in 286 (by decide +kernel) (by decide +kernel), mg_in 44 (by decide +kernel) (by decide +kernel), by decide +kernel, fun _ => rfl⟩
theorem nl_PS_80 : mg_NL "PropertyShrink" 80 10 4 [.int 0, .int 0, .null, .null] := ⟨"PropertyShrink$Kept", FT_Kp, ty_Kp, rfl, iw_Kp, tk_Kp, mg_in 458 (by decide +kernel) (by decide +kernel), mg_in 459 (by decide +kernel) (by decide +kernel), mg_in 45 (by decide +kernel) (by decide +kernel), by decide +kernel, fun _ => rfl⟩
theorem nl_PS_162 : mg_NL "PropertyShrink" 162 3 3 [.int 0, .int 0, .int 0] := ⟨"PropertyShrink$IntRange", FT_IR, ty_IR, rfl, iw_IR, tk_IR, mg_in 176 (by decide +kernel) (by decide +kernel), mg_in 177 (by decide +kernel) (by decide +kernel), mg_in 37 (by decide +kernel) (by decide +kernel), by decide +kernel, fun _ => rfl⟩
theorem nl_PS_167 : mg_NL "PropertyShrink" 167 4 3 [.int 0, .null, .int 0] := ⟨"PropertyShrink$ListOf", FT_LO, ty_LO, rfl, iw_LO, tk_LO, mg_in 205 (by decide +kernel) (by decide +kernel), mg_in 206 (by decide +kernel) (by decide +kernel), mg_in 38 (by decide +kernel) (by decide +kernel), by decide +kernel, fun _ => rfl⟩
theorem nl_PS_172 : mg_NL "PropertyShrink" 172 7 3 [.int 0, .null, .int 0] := ⟨"PropertyShrink$KeepOf", FT_KO, ty_KO, rfl, iw_KO, tk_KO, mg_in 219 (by decide +kernel) (by decide +kernel), mg_in 220 (by decide +kernel) (by decide +kernel), mg_in 39 (by decide +kernel) (by decide +kernel), by decide +kernel, fun _ => rfl⟩
theorem nl_PS_175 : mg_NL "PropertyShrink" 175 8 3 [.int 0, .null, .int 0] := ⟨"PropertyShrink$AddTo", FT_AT, ty_AT, rfl, iw_AT, tk_AT, mg_in 233 (by decide +kernel) (by decide +kernel), mg_in 234 (by decide +kernel) (by decide +kernel), mg_in 40 (by decide +kernel) (by decide +kernel), by decide +kernel, fun _ => rfl⟩
theorem nl_PS_182 : mg_NL "PropertyShrink" 182 5 3 [.int 0, .null, .null] := ⟨"PropertyShrink$PairOf", FT_PO, ty_PO, rfl, iw_PO, tk_PO, mg_in 250 (by decide +kernel) (by decide +kernel), mg_in 251 (by decide +kernel) (by decide +kernel), mg_in 41 (by decide +kernel) (by decide +kernel), by decide +kernel, fun _ => rfl⟩
theorem nl_PS_187 : mg_NL "PropertyShrink" 187 6 3 [.int 0, .null, .null] := ⟨"PropertyShrink$OneOf", FT_OO, ty_OO, rfl, iw_OO, tk_OO, mg_in 267 (by decide +kernel) (by decide +kernel), mg_in 268 (by decide +kernel) (by decide +kernel), mg_in 43 (by decide +kernel) (by decide +kernel), by decide +kernel, fun _ => rfl⟩
theorem kl_PS_256 : Cond.constantLong "PropertyShrink" 256 (31 : Int64) ∈ mg_GT := mg_in 551 (by decide +kernel) (by decide +kernel)
theorem kl_PS_258 : Cond.constantLong "PropertyShrink" 258 (7 : Int64) ∈ mg_GT := mg_in 552 (by decide +kernel) (by decide +kernel)
theorem kl_Mo_104 : Cond.constantLong "PropertyShrinkModel" 104 (6364136223846793005 : Int64) ∈ mg_GT := mg_in 736 (by decide +kernel) (by decide +kernel)
theorem kl_Mo_106 : Cond.constantLong "PropertyShrinkModel" 106 (1442695040888963407 : Int64) ∈ mg_GT := mg_in 737 (by decide +kernel) (by decide +kernel)
theorem kl_Mo_202 : Cond.constantLong "PropertyShrinkModel" 202 (31 : Int64) ∈ mg_GT := mg_in 805 (by decide +kernel) (by decide +kernel)
theorem kl_Mo_204 : Cond.constantLong "PropertyShrinkModel" 204 (7 : Int64) ∈ mg_GT := mg_in 806 (by decide +kernel) (by decide +kernel)
theorem nl_Dr_9 : mg_NL "PropertyShrink$Draws" 9 1 2 [.null, .int 0] := ⟨"PropertyShrink$Ints", FT_In, ty_In, rfl, iw_In, tk_In, mg_in 78 (by decide +kernel) (by decide +kernel), mg_in 59 (by decide +kernel) (by decide +kernel), mg_in 33 (by decide +kernel) (by decide +kernel), by decide +kernel, fun _ => rfl⟩
theorem kl_Dr_69 : Cond.constantLong "PropertyShrink$Draws" 69 (6364136223846793005 : Int64) ∈ mg_GT := mg_in 375 (by decide +kernel) (by decide +kernel)
theorem kl_Dr_71 : Cond.constantLong "PropertyShrink$Draws" 71 (1442695040888963407 : Int64) ∈ mg_GT := mg_in 376 (by decide +kernel) (by decide +kernel)
theorem nl_Kp_7 : mg_NL "PropertyShrink$Kept" 7 1 2 [.null, .int 0] := ⟨"PropertyShrink$Ints", FT_In, ty_In, rfl, iw_In, tk_In, mg_in 464 (by decide +kernel) (by decide +kernel), mg_in 59 (by decide +kernel) (by decide +kernel), mg_in 33 (by decide +kernel) (by decide +kernel), by decide +kernel, fun _ => rfl⟩
theorem nl_La_7 : mg_NL "PropertyShrinkLaw" 7 0 17 [.null, .int 0, .null, .int 0, .null, .int 0, .int 0, .null, .null, .int 0, .int 0, .null, .null, .null, .null, .null, .long 0] := ⟨"PropertyShrink", FT_PS, ty_PS, rfl, iw_PS, tk_PS, mg_in 46 (by decide +kernel) (by decide +kernel), mg_in 47 (by decide +kernel) (by decide +kernel), mg_in 32 (by decide +kernel) (by decide +kernel), by decide +kernel, fun _ => rfl⟩
theorem nl_La_10 : mg_NL "PropertyShrinkLaw" 10 11 43 [.int 0, .int 0, .int 0, .null, .null, .null, .null, .null, .null, .null, .int 0, .int 0, .int 0, .int 0, .long 0, .int 0, .null, .null, .null, .null, .int 0, .null, .null, .null, .null, .int 0, .int 0, .int 0, .int 0, .int 0, .int 0, .int 0, .null, .null, .null, .null, .null, .int 0, .null, .null, .int 0, .int 0, .long 0] := ⟨"PropertyShrinkModel", FT_Mo, ty_Mo, rfl, iw_Mo, tk_Mo, mg_in 561 (by decide +kernel) (by decide +kernel), mg_in 562 (by decide +kernel) (by decide +kernel), mg_in 35 (by decide +kernel) (by decide +kernel), by decide +kernel, fun _ => rfl⟩
theorem kl_La_22 : Cond.constantLong "PropertyShrinkLaw" 22 (4294967295 : Int64) ∈ mg_GT := mg_in 815 (by decide +kernel) (by decide +kernel)
theorem ac_int : Cond.arrayClass .int ∈ mg_GT := mg_in 71 (by decide +kernel) (by decide +kernel)
theorem ca_AT : Cond.castable "PropertyShrink$AddTo" "PropertyShrink$Generator" ∈ mg_NW := by decide +kernel
theorem ca_IR : Cond.castable "PropertyShrink$IntRange" "PropertyShrink$Generator" ∈ mg_NW := by decide +kernel
theorem ca_KO : Cond.castable "PropertyShrink$KeepOf" "PropertyShrink$Generator" ∈ mg_NW := by decide +kernel
theorem ca_LO : Cond.castable "PropertyShrink$ListOf" "PropertyShrink$Generator" ∈ mg_NW := by decide +kernel
theorem ca_OO : Cond.castable "PropertyShrink$OneOf" "PropertyShrink$Generator" ∈ mg_NW := by decide +kernel
theorem ca_PO : Cond.castable "PropertyShrink$PairOf" "PropertyShrink$Generator" ∈ mg_NW := by decide +kernel
theorem bl_PS_init : mg_BL Y_PS_init 0 := ⟨mg_in 50 (by decide +kernel) (by decide +kernel), mg_in 32 (by decide +kernel) (by decide +kernel), by decide +kernel, by decide +kernel, by decide +kernel⟩
theorem bl_In_init : mg_BL Y_In_init 0 := ⟨mg_in 62 (by decide +kernel) (by decide +kernel), mg_in 33 (by decide +kernel) (by decide +kernel), by decide +kernel, by decide +kernel, by decide +kernel⟩
theorem bl_Dr_init : mg_BL Y_Dr_init 0 := ⟨mg_in 76 (by decide +kernel) (by decide +kernel), mg_in 34 (by decide +kernel) (by decide +kernel), by decide +kernel, by decide +kernel, by decide +kernel⟩
theorem bl_PS_generator : mg_BL Y_PS_generator 3 := ⟨mg_in 168 (by decide +kernel) (by decide +kernel), mg_in 32 (by decide +kernel) (by decide +kernel), by decide +kernel, by decide +kernel, by decide +kernel⟩
theorem bl_PS_makeGenerator : mg_BL Y_PS_makeGenerator 3 := ⟨mg_in 172 (by decide +kernel) (by decide +kernel), mg_in 32 (by decide +kernel) (by decide +kernel), by decide +kernel, by decide +kernel, by decide +kernel⟩
theorem bl_PS_isNear : mg_BL Y_PS_isNear 1 := ⟨mg_in 175 (by decide +kernel) (by decide +kernel), mg_in 32 (by decide +kernel) (by decide +kernel), by decide +kernel, by decide +kernel, by decide +kernel⟩
theorem bl_IR_init : mg_BL Y_IR_init 2 := ⟨mg_in 180 (by decide +kernel) (by decide +kernel), mg_in 37 (by decide +kernel) (by decide +kernel), by decide +kernel, by decide +kernel, by decide +kernel⟩
theorem bl_Ge_init : mg_BL Y_Ge_init 1 := ⟨mg_in 183 (by decide +kernel) (by decide +kernel), mg_in 36 (by decide +kernel) (by decide +kernel), by decide +kernel, by decide +kernel, by decide +kernel⟩
theorem bl_PS_generatorAt : mg_BL Y_PS_generatorAt 1 := ⟨mg_in 204 (by decide +kernel) (by decide +kernel), mg_in 32 (by decide +kernel) (by decide +kernel), by decide +kernel, by decide +kernel, by decide +kernel⟩
theorem bl_LO_init : mg_BL Y_LO_init 2 := ⟨mg_in 209 (by decide +kernel) (by decide +kernel), mg_in 38 (by decide +kernel) (by decide +kernel), by decide +kernel, by decide +kernel, by decide +kernel⟩
theorem bl_KO_init : mg_BL Y_KO_init 2 := ⟨mg_in 223 (by decide +kernel) (by decide +kernel), mg_in 39 (by decide +kernel) (by decide +kernel), by decide +kernel, by decide +kernel, by decide +kernel⟩
theorem bl_AT_init : mg_BL Y_AT_init 2 := ⟨mg_in 237 (by decide +kernel) (by decide +kernel), mg_in 40 (by decide +kernel) (by decide +kernel), by decide +kernel, by decide +kernel, by decide +kernel⟩
theorem bl_PS_makeOfTwo : mg_BL Y_PS_makeOfTwo 3 := ⟨mg_in 249 (by decide +kernel) (by decide +kernel), mg_in 32 (by decide +kernel) (by decide +kernel), by decide +kernel, by decide +kernel, by decide +kernel⟩
theorem bl_PO_init : mg_BL Y_PO_init 2 := ⟨mg_in 254 (by decide +kernel) (by decide +kernel), mg_in 41 (by decide +kernel) (by decide +kernel), by decide +kernel, by decide +kernel, by decide +kernel⟩
theorem bl_OO_init : mg_BL Y_OO_init 2 := ⟨mg_in 271 (by decide +kernel) (by decide +kernel), mg_in 43 (by decide +kernel) (by decide +kernel), by decide +kernel, by decide +kernel, by decide +kernel⟩
theorem bl_PS_property : mg_BL Y_PS_property 3 := ⟨mg_in 285 (by decide +kernel) (by decide +kernel), mg_in 32 (by decide +kernel) (by decide +kernel), by decide +kernel, by decide +kernel, by decide +kernel⟩
theorem bl_Pr_init : mg_BL Y_Pr_init 3 := ⟨mg_in 289 (by decide +kernel) (by decide +kernel), mg_in 44 (by decide +kernel) (by decide +kernel), by decide +kernel, by decide +kernel, by decide +kernel⟩
theorem bl_PS_check : mg_BL Y_PS_check 4 := ⟨mg_in 304 (by decide +kernel) (by decide +kernel), mg_in 32 (by decide +kernel) (by decide +kernel), by decide +kernel, by decide +kernel, by decide +kernel⟩
theorem bl_PS_propertyAt : mg_BL Y_PS_propertyAt 1 := ⟨mg_in 308 (by decide +kernel) (by decide +kernel), mg_in 32 (by decide +kernel) (by decide +kernel), by decide +kernel, by decide +kernel, by decide +kernel⟩
theorem bl_PS_findAmongKept : mg_BL Y_PS_findAmongKept 2 := ⟨mg_in 312 (by decide +kernel) (by decide +kernel), mg_in 32 (by decide +kernel) (by decide +kernel), by decide +kernel, by decide +kernel, by decide +kernel⟩
theorem bl_PS_replayRow : mg_BL Y_PS_replayRow 3 := ⟨mg_in 316 (by decide +kernel) (by decide +kernel), mg_in 32 (by decide +kernel) (by decide +kernel), by decide +kernel, by decide +kernel, by decide +kernel⟩
theorem bl_Dr_beginRow : mg_BL Y_Dr_beginRow 1 := ⟨mg_in 320 (by decide +kernel) (by decide +kernel), mg_in 34 (by decide +kernel) (by decide +kernel), by decide +kernel, by decide +kernel, by decide +kernel⟩
theorem bl_In_copyFrom : mg_BL Y_In_copyFrom 1 := ⟨mg_in 324 (by decide +kernel) (by decide +kernel), mg_in 33 (by decide +kernel) (by decide +kernel), by decide +kernel, by decide +kernel, by decide +kernel⟩
theorem bl_In_copyWithout : mg_BL Y_In_copyWithout 3 := ⟨mg_in 328 (by decide +kernel) (by decide +kernel), mg_in 33 (by decide +kernel) (by decide +kernel), by decide +kernel, by decide +kernel, by decide +kernel⟩
theorem bl_In_at : mg_BL Y_In_at 2 := ⟨mg_in 332 (by decide +kernel) (by decide +kernel), mg_in 33 (by decide +kernel) (by decide +kernel), by decide +kernel, by decide +kernel, by decide +kernel⟩
theorem bl_In_add : mg_BL Y_In_add 1 := ⟨mg_in 336 (by decide +kernel) (by decide +kernel), mg_in 33 (by decide +kernel) (by decide +kernel), by decide +kernel, by decide +kernel, by decide +kernel⟩
theorem bl_Dr_begin : mg_BL Y_Dr_begin 1 := ⟨mg_in 340 (by decide +kernel) (by decide +kernel), mg_in 34 (by decide +kernel) (by decide +kernel), by decide +kernel, by decide +kernel, by decide +kernel⟩
theorem bl_In_cutTo : mg_BL Y_In_cutTo 1 := ⟨mg_in 344 (by decide +kernel) (by decide +kernel), mg_in 33 (by decide +kernel) (by decide +kernel), by decide +kernel, by decide +kernel, by decide +kernel⟩
theorem bl_AT_give : mg_BL Y_AT_give 1 := ⟨mg_in 354 (by decide +kernel) (by decide +kernel), mg_in 40 (by decide +kernel) (by decide +kernel), by decide +kernel, by decide +kernel, by decide +kernel⟩
theorem bl_In_length : mg_BL Y_In_length 0 := ⟨mg_in 358 (by decide +kernel) (by decide +kernel), mg_in 33 (by decide +kernel) (by decide +kernel), by decide +kernel, by decide +kernel, by decide +kernel⟩
theorem bl_IR_give : mg_BL Y_IR_give 1 := ⟨mg_in 361 (by decide +kernel) (by decide +kernel), mg_in 37 (by decide +kernel) (by decide +kernel), by decide +kernel, by decide +kernel, by decide +kernel⟩
theorem bl_Dr_sizedSpan : mg_BL Y_Dr_sizedSpan 1 := ⟨mg_in 365 (by decide +kernel) (by decide +kernel), mg_in 34 (by decide +kernel) (by decide +kernel), by decide +kernel, by decide +kernel, by decide +kernel⟩
theorem bl_Dr_draw : mg_BL Y_Dr_draw 2 := ⟨mg_in 369 (by decide +kernel) (by decide +kernel), mg_in 34 (by decide +kernel) (by decide +kernel), by decide +kernel, by decide +kernel, by decide +kernel⟩
theorem bl_Dr_pick : mg_BL Y_Dr_pick 2 := ⟨mg_in 374 (by decide +kernel) (by decide +kernel), mg_in 34 (by decide +kernel) (by decide +kernel), by decide +kernel, by decide +kernel, by decide +kernel⟩
theorem bl_Dr_giveNumber : mg_BL Y_Dr_giveNumber 1 := ⟨mg_in 382 (by decide +kernel) (by decide +kernel), mg_in 34 (by decide +kernel) (by decide +kernel), by decide +kernel, by decide +kernel, by decide +kernel⟩
theorem bl_KO_give : mg_BL Y_KO_give 1 := ⟨mg_in 384 (by decide +kernel) (by decide +kernel), mg_in 39 (by decide +kernel) (by decide +kernel), by decide +kernel, by decide +kernel, by decide +kernel⟩
theorem bl_LO_give : mg_BL Y_LO_give 1 := ⟨mg_in 389 (by decide +kernel) (by decide +kernel), mg_in 38 (by decide +kernel) (by decide +kernel), by decide +kernel, by decide +kernel, by decide +kernel⟩
theorem bl_OO_give : mg_BL Y_OO_give 1 := ⟨mg_in 393 (by decide +kernel) (by decide +kernel), mg_in 43 (by decide +kernel) (by decide +kernel), by decide +kernel, by decide +kernel, by decide +kernel⟩
theorem bl_PO_give : mg_BL Y_PO_give 1 := ⟨mg_in 397 (by decide +kernel) (by decide +kernel), mg_in 41 (by decide +kernel) (by decide +kernel), by decide +kernel, by decide +kernel, by decide +kernel⟩
theorem bl_In_totalFrom : mg_BL Y_In_totalFrom 1 := ⟨mg_in 402 (by decide +kernel) (by decide +kernel), mg_in 33 (by decide +kernel) (by decide +kernel), by decide +kernel, by decide +kernel, by decide +kernel⟩
theorem bl_In_raiseFrom : mg_BL Y_In_raiseFrom 2 := ⟨mg_in 406 (by decide +kernel) (by decide +kernel), mg_in 33 (by decide +kernel) (by decide +kernel), by decide +kernel, by decide +kernel, by decide +kernel⟩
theorem bl_In_set : mg_BL Y_In_set 2 := ⟨mg_in 410 (by decide +kernel) (by decide +kernel), mg_in 33 (by decide +kernel) (by decide +kernel), by decide +kernel, by decide +kernel, by decide +kernel⟩
theorem bl_PS_verdictOfDraws : mg_BL Y_PS_verdictOfDraws 1 := ⟨mg_in 419 (by decide +kernel) (by decide +kernel), mg_in 32 (by decide +kernel) (by decide +kernel), by decide +kernel, by decide +kernel, by decide +kernel⟩
theorem bl_Pr_judge : mg_BL Y_Pr_judge 1 := ⟨mg_in 423 (by decide +kernel) (by decide +kernel), mg_in 44 (by decide +kernel) (by decide +kernel), by decide +kernel, by decide +kernel, by decide +kernel⟩
theorem bl_In_has : mg_BL Y_In_has 1 := ⟨mg_in 429 (by decide +kernel) (by decide +kernel), mg_in 33 (by decide +kernel) (by decide +kernel), by decide +kernel, by decide +kernel, by decide +kernel⟩
theorem bl_In_falls : mg_BL Y_In_falls 0 := ⟨mg_in 433 (by decide +kernel) (by decide +kernel), mg_in 33 (by decide +kernel) (by decide +kernel), by decide +kernel, by decide +kernel, by decide +kernel⟩
theorem bl_PS_isBad : mg_BL Y_PS_isBad 1 := ⟨mg_in 436 (by decide +kernel) (by decide +kernel), mg_in 32 (by decide +kernel) (by decide +kernel), by decide +kernel, by decide +kernel, by decide +kernel⟩
theorem bl_PS_takeFound : mg_BL Y_PS_takeFound 3 := ⟨mg_in 440 (by decide +kernel) (by decide +kernel), mg_in 32 (by decide +kernel) (by decide +kernel), by decide +kernel, by decide +kernel, by decide +kernel⟩
theorem bl_PS_takeRow : mg_BL Y_PS_takeRow 0 := ⟨mg_in 444 (by decide +kernel) (by decide +kernel), mg_in 32 (by decide +kernel) (by decide +kernel), by decide +kernel, by decide +kernel, by decide +kernel⟩
theorem bl_PS_findBySeed : mg_BL Y_PS_findBySeed 4 := ⟨mg_in 449 (by decide +kernel) (by decide +kernel), mg_in 32 (by decide +kernel) (by decide +kernel), by decide +kernel, by decide +kernel, by decide +kernel⟩
theorem bl_Dr_sow : mg_BL Y_Dr_sow 1 := ⟨mg_in 453 (by decide +kernel) (by decide +kernel), mg_in 34 (by decide +kernel) (by decide +kernel), by decide +kernel, by decide +kernel, by decide +kernel⟩
theorem bl_Dr_beginTry : mg_BL Y_Dr_beginTry 1 := ⟨mg_in 457 (by decide +kernel) (by decide +kernel), mg_in 34 (by decide +kernel) (by decide +kernel), by decide +kernel, by decide +kernel, by decide +kernel⟩
theorem bl_Kp_init : mg_BL Y_Kp_init 4 := ⟨mg_in 462 (by decide +kernel) (by decide +kernel), mg_in 45 (by decide +kernel) (by decide +kernel), by decide +kernel, by decide +kernel, by decide +kernel⟩
theorem bl_PS_shrink : mg_BL Y_PS_shrink 1 := ⟨mg_in 487 (by decide +kernel) (by decide +kernel), mg_in 32 (by decide +kernel) (by decide +kernel), by decide +kernel, by decide +kernel, by decide +kernel⟩
theorem bl_PS_makeStep : mg_BL Y_PS_makeStep 1 := ⟨mg_in 491 (by decide +kernel) (by decide +kernel), mg_in 32 (by decide +kernel) (by decide +kernel), by decide +kernel, by decide +kernel, by decide +kernel⟩
theorem bl_PS_makeDrop : mg_BL Y_PS_makeDrop 1 := ⟨mg_in 495 (by decide +kernel) (by decide +kernel), mg_in 32 (by decide +kernel) (by decide +kernel), by decide +kernel, by decide +kernel, by decide +kernel⟩
theorem bl_PS_makeLowering : mg_BL Y_PS_makeLowering 1 := ⟨mg_in 502 (by decide +kernel) (by decide +kernel), mg_in 32 (by decide +kernel) (by decide +kernel), by decide +kernel, by decide +kernel, by decide +kernel⟩
theorem bl_PS_lowered : mg_BL Y_PS_lowered 2 := ⟨mg_in 507 (by decide +kernel) (by decide +kernel), mg_in 32 (by decide +kernel) (by decide +kernel), by decide +kernel, by decide +kernel, by decide +kernel⟩
theorem bl_PS_makeSwap : mg_BL Y_PS_makeSwap 1 := ⟨mg_in 512 (by decide +kernel) (by decide +kernel), mg_in 32 (by decide +kernel) (by decide +kernel), by decide +kernel, by decide +kernel, by decide +kernel⟩
theorem bl_PS_least : mg_BL Y_PS_least 0 := ⟨mg_in 516 (by decide +kernel) (by decide +kernel), mg_in 32 (by decide +kernel) (by decide +kernel), by decide +kernel, by decide +kernel, by decide +kernel⟩
theorem bl_PS_replay : mg_BL Y_PS_replay 2 := ⟨mg_in 520 (by decide +kernel) (by decide +kernel), mg_in 32 (by decide +kernel) (by decide +kernel), by decide +kernel, by decide +kernel, by decide +kernel⟩
theorem bl_PS_put : mg_BL Y_PS_put 1 := ⟨mg_in 525 (by decide +kernel) (by decide +kernel), mg_in 32 (by decide +kernel) (by decide +kernel), by decide +kernel, by decide +kernel, by decide +kernel⟩
theorem bl_PS_choice : mg_BL Y_PS_choice 1 := ⟨mg_in 530 (by decide +kernel) (by decide +kernel), mg_in 32 (by decide +kernel) (by decide +kernel), by decide +kernel, by decide +kernel, by decide +kernel⟩
theorem bl_PS_size : mg_BL Y_PS_size 1 := ⟨mg_in 534 (by decide +kernel) (by decide +kernel), mg_in 32 (by decide +kernel) (by decide +kernel), by decide +kernel, by decide +kernel, by decide +kernel⟩
theorem bl_PS_number : mg_BL Y_PS_number 1 := ⟨mg_in 538 (by decide +kernel) (by decide +kernel), mg_in 32 (by decide +kernel) (by decide +kernel), by decide +kernel, by decide +kernel, by decide +kernel⟩
theorem bl_PS_all : mg_BL Y_PS_all 2 := ⟨mg_in 542 (by decide +kernel) (by decide +kernel), mg_in 32 (by decide +kernel) (by decide +kernel), by decide +kernel, by decide +kernel, by decide +kernel⟩
theorem bl_Dr_beginFirstTurn : mg_BL Y_Dr_beginFirstTurn 0 := ⟨mg_in 546 (by decide +kernel) (by decide +kernel), mg_in 34 (by decide +kernel) (by decide +kernel), by decide +kernel, by decide +kernel, by decide +kernel⟩
theorem bl_PS_addToRowsSum : mg_BL Y_PS_addToRowsSum 1 := ⟨mg_in 550 (by decide +kernel) (by decide +kernel), mg_in 32 (by decide +kernel) (by decide +kernel), by decide +kernel, by decide +kernel, by decide +kernel⟩
theorem bl_Dr_beginNextTurn : mg_BL Y_Dr_beginNextTurn 0 := ⟨mg_in 556 (by decide +kernel) (by decide +kernel), mg_in 34 (by decide +kernel) (by decide +kernel), by decide +kernel, by decide +kernel, by decide +kernel⟩
theorem bl_PS_sum : mg_BL Y_PS_sum 0 := ⟨mg_in 560 (by decide +kernel) (by decide +kernel), mg_in 32 (by decide +kernel) (by decide +kernel), by decide +kernel, by decide +kernel, by decide +kernel⟩
theorem bl_Mo_init : mg_BL Y_Mo_init 0 := ⟨mg_in 565 (by decide +kernel) (by decide +kernel), mg_in 35 (by decide +kernel) (by decide +kernel), by decide +kernel, by decide +kernel, by decide +kernel⟩
theorem bl_Mo_generator : mg_BL Y_Mo_generator 3 := ⟨mg_in 700 (by decide +kernel) (by decide +kernel), mg_in 35 (by decide +kernel) (by decide +kernel), by decide +kernel, by decide +kernel, by decide +kernel⟩
theorem bl_Mo_isWithin : mg_BL Y_Mo_isWithin 3 := ⟨mg_in 703 (by decide +kernel) (by decide +kernel), mg_in 35 (by decide +kernel) (by decide +kernel), by decide +kernel, by decide +kernel, by decide +kernel⟩
theorem bl_Mo_isGenerator : mg_BL Y_Mo_isGenerator 1 := ⟨mg_in 707 (by decide +kernel) (by decide +kernel), mg_in 35 (by decide +kernel) (by decide +kernel), by decide +kernel, by decide +kernel, by decide +kernel⟩
theorem bl_Mo_property : mg_BL Y_Mo_property 3 := ⟨mg_in 711 (by decide +kernel) (by decide +kernel), mg_in 35 (by decide +kernel) (by decide +kernel), by decide +kernel, by decide +kernel, by decide +kernel⟩
theorem bl_Mo_check : mg_BL Y_Mo_check 4 := ⟨mg_in 715 (by decide +kernel) (by decide +kernel), mg_in 35 (by decide +kernel) (by decide +kernel), by decide +kernel, by decide +kernel, by decide +kernel⟩
theorem bl_Mo_findKept : mg_BL Y_Mo_findKept 2 := ⟨mg_in 719 (by decide +kernel) (by decide +kernel), mg_in 35 (by decide +kernel) (by decide +kernel), by decide +kernel, by decide +kernel, by decide +kernel⟩
theorem bl_Mo_go : mg_BL Y_Mo_go 2 := ⟨mg_in 723 (by decide +kernel) (by decide +kernel), mg_in 35 (by decide +kernel) (by decide +kernel), by decide +kernel, by decide +kernel, by decide +kernel⟩
theorem bl_Mo_push : mg_BL Y_Mo_push 1 := ⟨mg_in 727 (by decide +kernel) (by decide +kernel), mg_in 35 (by decide +kernel) (by decide +kernel), by decide +kernel, by decide +kernel, by decide +kernel⟩
theorem bl_Mo_turn : mg_BL Y_Mo_turn 2 := ⟨mg_in 731 (by decide +kernel) (by decide +kernel), mg_in 35 (by decide +kernel) (by decide +kernel), by decide +kernel, by decide +kernel, by decide +kernel⟩
theorem bl_Mo_draw : mg_BL Y_Mo_draw 2 := ⟨mg_in 735 (by decide +kernel) (by decide +kernel), mg_in 35 (by decide +kernel) (by decide +kernel), by decide +kernel, by decide +kernel, by decide +kernel⟩
theorem bl_Mo_keep : mg_BL Y_Mo_keep 3 := ⟨mg_in 741 (by decide +kernel) (by decide +kernel), mg_in 35 (by decide +kernel) (by decide +kernel), by decide +kernel, by decide +kernel, by decide +kernel⟩
theorem bl_Mo_does : mg_BL Y_Mo_does 1 := ⟨mg_in 745 (by decide +kernel) (by decide +kernel), mg_in 35 (by decide +kernel) (by decide +kernel), by decide +kernel, by decide +kernel, by decide +kernel⟩
theorem bl_Mo_isBad : mg_BL Y_Mo_isBad 1 := ⟨mg_in 748 (by decide +kernel) (by decide +kernel), mg_in 35 (by decide +kernel) (by decide +kernel), by decide +kernel, by decide +kernel, by decide +kernel⟩
theorem bl_Mo_find : mg_BL Y_Mo_find 3 := ⟨mg_in 752 (by decide +kernel) (by decide +kernel), mg_in 35 (by decide +kernel) (by decide +kernel), by decide +kernel, by decide +kernel, by decide +kernel⟩
theorem bl_Mo_tell : mg_BL Y_Mo_tell 0 := ⟨mg_in 756 (by decide +kernel) (by decide +kernel), mg_in 35 (by decide +kernel) (by decide +kernel), by decide +kernel, by decide +kernel, by decide +kernel⟩
theorem bl_Mo_keepRow : mg_BL Y_Mo_keepRow 0 := ⟨mg_in 760 (by decide +kernel) (by decide +kernel), mg_in 35 (by decide +kernel) (by decide +kernel), by decide +kernel, by decide +kernel, by decide +kernel⟩
theorem bl_Mo_shrink : mg_BL Y_Mo_shrink 1 := ⟨mg_in 764 (by decide +kernel) (by decide +kernel), mg_in 35 (by decide +kernel) (by decide +kernel), by decide +kernel, by decide +kernel, by decide +kernel⟩
theorem bl_Mo_make : mg_BL Y_Mo_make 1 := ⟨mg_in 768 (by decide +kernel) (by decide +kernel), mg_in 35 (by decide +kernel) (by decide +kernel), by decide +kernel, by decide +kernel, by decide +kernel⟩
theorem bl_Mo_drop : mg_BL Y_Mo_drop 2 := ⟨mg_in 772 (by decide +kernel) (by decide +kernel), mg_in 35 (by decide +kernel) (by decide +kernel), by decide +kernel, by decide +kernel, by decide +kernel⟩
theorem bl_Mo_copy : mg_BL Y_Mo_copy 0 := ⟨mg_in 776 (by decide +kernel) (by decide +kernel), mg_in 35 (by decide +kernel) (by decide +kernel), by decide +kernel, by decide +kernel, by decide +kernel⟩
theorem bl_Mo_least : mg_BL Y_Mo_least 0 := ⟨mg_in 780 (by decide +kernel) (by decide +kernel), mg_in 35 (by decide +kernel) (by decide +kernel), by decide +kernel, by decide +kernel, by decide +kernel⟩
theorem bl_Mo_put : mg_BL Y_Mo_put 1 := ⟨mg_in 784 (by decide +kernel) (by decide +kernel), mg_in 35 (by decide +kernel) (by decide +kernel), by decide +kernel, by decide +kernel, by decide +kernel⟩
theorem bl_Mo_replay : mg_BL Y_Mo_replay 2 := ⟨mg_in 788 (by decide +kernel) (by decide +kernel), mg_in 35 (by decide +kernel) (by decide +kernel), by decide +kernel, by decide +kernel, by decide +kernel⟩
theorem bl_Mo_choice : mg_BL Y_Mo_choice 1 := ⟨mg_in 792 (by decide +kernel) (by decide +kernel), mg_in 35 (by decide +kernel) (by decide +kernel), by decide +kernel, by decide +kernel, by decide +kernel⟩
theorem bl_Mo_size : mg_BL Y_Mo_size 1 := ⟨mg_in 796 (by decide +kernel) (by decide +kernel), mg_in 35 (by decide +kernel) (by decide +kernel), by decide +kernel, by decide +kernel, by decide +kernel⟩
theorem bl_Mo_number : mg_BL Y_Mo_number 1 := ⟨mg_in 800 (by decide +kernel) (by decide +kernel), mg_in 35 (by decide +kernel) (by decide +kernel), by decide +kernel, by decide +kernel, by decide +kernel⟩
theorem bl_Mo_all : mg_BL Y_Mo_all 2 := ⟨mg_in 804 (by decide +kernel) (by decide +kernel), mg_in 35 (by decide +kernel) (by decide +kernel), by decide +kernel, by decide +kernel, by decide +kernel⟩
theorem bl_Mo_raise : mg_BL Y_Mo_raise 0 := ⟨mg_in 810 (by decide +kernel) (by decide +kernel), mg_in 35 (by decide +kernel) (by decide +kernel), by decide +kernel, by decide +kernel, by decide +kernel⟩
theorem bl_Mo_sum : mg_BL Y_Mo_sum 0 := ⟨mg_in 814 (by decide +kernel) (by decide +kernel), mg_in 35 (by decide +kernel) (by decide +kernel), by decide +kernel, by decide +kernel, by decide +kernel⟩
theorem ol_PS_1 : Cond.methodLink "PropertyShrink" 1 Lib.objectInit ∈ mg_GT := mg_in 51 (by decide +kernel) (by decide +kernel)
theorem il_PS_23 {Y : mg_Y} (h : mg_own Y = "PropertyShrink") : mg_IL Y Y_In_init 23 0 := ⟨bl_In_init, by unfold mg_KL; rw [h]; exact Or.inr ⟨"PropertyShrink", by decide +kernel⟩, mg_in 61 (by decide +kernel) (by decide +kernel), rfl, rfl⟩
theorem il_PS_39 {Y : mg_Y} (h : mg_own Y = "PropertyShrink") : mg_IL Y Y_Dr_init 39 0 := ⟨bl_Dr_init, by unfold mg_KL; rw [h]; exact Or.inr ⟨"PropertyShrink", by decide +kernel⟩, mg_in 75 (by decide +kernel) (by decide +kernel), rfl, rfl⟩
theorem vl_PS_48 {Y : mg_Y} (h : mg_own Y = "PropertyShrink") : mg_VL Y Y_PS_makeGenerator 48 3 := ⟨bl_PS_makeGenerator, by unfold mg_KL; rw [h]; exact Or.inl (mg_in 169 (by decide +kernel) (by decide +kernel)), mg_in 171 (by decide +kernel) (by decide +kernel), mg_in 0 (by decide +kernel) (by decide +kernel)⟩
theorem il_PS_58 {Y : mg_Y} (h : mg_own Y = "PropertyShrink") : mg_IL Y Y_Pr_init 58 3 := ⟨bl_Pr_init, by unfold mg_KL; rw [h]; exact Or.inl (mg_in 287 (by decide +kernel) (by decide +kernel)), mg_in 288 (by decide +kernel) (by decide +kernel), rfl, rfl⟩
theorem vl_PS_61 {Y : mg_Y} (h : mg_own Y = "PropertyShrink") : mg_VL Y Y_PS_generatorAt 61 1 := ⟨bl_PS_generatorAt, by unfold mg_KL; rw [h]; exact Or.inl (mg_in 201 (by decide +kernel) (by decide +kernel)), mg_in 203 (by decide +kernel) (by decide +kernel), mg_in 1 (by decide +kernel) (by decide +kernel)⟩
theorem vl_PS_65 {Y : mg_Y} (h : mg_own Y = "PropertyShrink") : mg_VL Y Y_PS_propertyAt 65 1 := ⟨bl_PS_propertyAt, by unfold mg_KL; rw [h]; exact Or.inl (mg_in 305 (by decide +kernel) (by decide +kernel)), mg_in 307 (by decide +kernel) (by decide +kernel), mg_in 2 (by decide +kernel) (by decide +kernel)⟩
theorem vl_PS_72 {Y : mg_Y} (h : mg_own Y = "PropertyShrink") : mg_VL Y Y_PS_findAmongKept 72 2 := ⟨bl_PS_findAmongKept, by unfold mg_KL; rw [h]; exact Or.inl (mg_in 309 (by decide +kernel) (by decide +kernel)), mg_in 311 (by decide +kernel) (by decide +kernel), mg_in 3 (by decide +kernel) (by decide +kernel)⟩
theorem vl_PS_76 {Y : mg_Y} (h : mg_own Y = "PropertyShrink") : mg_VL Y Y_PS_findBySeed 76 4 := ⟨bl_PS_findBySeed, by unfold mg_KL; rw [h]; exact Or.inl (mg_in 446 (by decide +kernel) (by decide +kernel)), mg_in 448 (by decide +kernel) (by decide +kernel), mg_in 10 (by decide +kernel) (by decide +kernel)⟩
theorem il_PS_86 {Y : mg_Y} (h : mg_own Y = "PropertyShrink") : mg_IL Y Y_Kp_init 86 4 := ⟨bl_Kp_init, by unfold mg_KL; rw [h]; exact Or.inl (mg_in 460 (by decide +kernel) (by decide +kernel)), mg_in 461 (by decide +kernel) (by decide +kernel), rfl, rfl⟩
theorem vl_PS_100 {Y : mg_Y} (h : mg_own Y = "PropertyShrink") : mg_VL Y Y_PS_replayRow 100 3 := ⟨bl_PS_replayRow, by unfold mg_KL; rw [h]; exact Or.inl (mg_in 313 (by decide +kernel) (by decide +kernel)), mg_in 315 (by decide +kernel) (by decide +kernel), mg_in 4 (by decide +kernel) (by decide +kernel)⟩
theorem vl_PS_104 {Y : mg_Y} (h : mg_own Y = "PropertyShrink") : mg_VL Y Y_PS_takeRow 104 0 := ⟨bl_PS_takeRow, by unfold mg_KL; rw [h]; exact Or.inl (mg_in 441 (by decide +kernel) (by decide +kernel)), mg_in 443 (by decide +kernel) (by decide +kernel), mg_in 9 (by decide +kernel) (by decide +kernel)⟩
theorem vl_PS_107 {Y : mg_Y} (h : mg_own Y = "PropertyShrink") : mg_VL Y Y_PS_makeStep 107 1 := ⟨bl_PS_makeStep, by unfold mg_KL; rw [h]; exact Or.inl (mg_in 488 (by decide +kernel) (by decide +kernel)), mg_in 490 (by decide +kernel) (by decide +kernel), mg_in 11 (by decide +kernel) (by decide +kernel)⟩
theorem vl_PS_118 {Y : mg_Y} (h : mg_own Y = "PropertyShrink") : mg_VL Y Y_In_cutTo 118 1 := ⟨bl_In_cutTo, by unfold mg_KL; rw [h]; exact Or.inl (mg_in 521 (by decide +kernel) (by decide +kernel)), mg_in 342 (by decide +kernel) (by decide +kernel), mg_in 343 (by decide +kernel) (by decide +kernel)⟩
theorem vl_PS_123 {Y : mg_Y} (h : mg_own Y = "PropertyShrink") : mg_VL Y Y_In_copyFrom 123 1 := ⟨bl_In_copyFrom, by unfold mg_KL; rw [h]; exact Or.inl (mg_in 445 (by decide +kernel) (by decide +kernel)), mg_in 322 (by decide +kernel) (by decide +kernel), mg_in 323 (by decide +kernel) (by decide +kernel)⟩
theorem vl_PS_127 {Y : mg_Y} (h : mg_own Y = "PropertyShrink") : mg_VL Y Y_In_add 127 1 := ⟨bl_In_add, by unfold mg_KL; rw [h]; exact Or.inl (mg_in 526 (by decide +kernel) (by decide +kernel)), mg_in 334 (by decide +kernel) (by decide +kernel), mg_in 335 (by decide +kernel) (by decide +kernel)⟩
theorem vl_PS_130 {Y : mg_Y} (h : mg_own Y = "PropertyShrink") : mg_VL Y Y_In_at 130 2 := ⟨bl_In_at, by unfold mg_KL; rw [h]; exact Or.inl (mg_in 503 (by decide +kernel) (by decide +kernel)), mg_in 330 (by decide +kernel) (by decide +kernel), mg_in 331 (by decide +kernel) (by decide +kernel)⟩
theorem vl_PS_134 {Y : mg_Y} (h : mg_own Y = "PropertyShrink") : mg_VL Y Y_In_length 134 0 := ⟨bl_In_length, by unfold mg_KL; rw [h]; exact Or.inl (mg_in 496 (by decide +kernel) (by decide +kernel)), mg_in 356 (by decide +kernel) (by decide +kernel), mg_in 357 (by decide +kernel) (by decide +kernel)⟩
theorem vl_PS_142 {Y : mg_Y} (h : mg_own Y = "PropertyShrink") : mg_VL Y Y_Dr_beginFirstTurn 142 0 := ⟨bl_Dr_beginFirstTurn, by unfold mg_KL; rw [h]; exact Or.inl (mg_in 543 (by decide +kernel) (by decide +kernel)), mg_in 544 (by decide +kernel) (by decide +kernel), mg_in 545 (by decide +kernel) (by decide +kernel)⟩
theorem ul_PS_145_IR {Y : mg_Y} (h : mg_own Y = "PropertyShrink") : mg_UL Y Y_IR_give ⟨"PropertyShrink$Generator", "give", "(LPropertyShrink$Draws;)V"⟩ 145 1 := ⟨bl_IR_give, by rw [h]; exact mg_in 349 (by decide +kernel) (by decide +kernel), mg_in 351 (by decide +kernel) (by decide +kernel), mg_in 411 (by decide +kernel) (by decide +kernel), mg_in 360 (by decide +kernel) (by decide +kernel), by decide +kernel, by decide +kernel, by decide +kernel, by decide +kernel⟩
theorem ul_PS_145_LO {Y : mg_Y} (h : mg_own Y = "PropertyShrink") : mg_UL Y Y_LO_give ⟨"PropertyShrink$Generator", "give", "(LPropertyShrink$Draws;)V"⟩ 145 1 := ⟨bl_LO_give, by rw [h]; exact mg_in 349 (by decide +kernel) (by decide +kernel), mg_in 351 (by decide +kernel) (by decide +kernel), mg_in 413 (by decide +kernel) (by decide +kernel), mg_in 388 (by decide +kernel) (by decide +kernel), by decide +kernel, by decide +kernel, by decide +kernel, by decide +kernel⟩
theorem ul_PS_145_PO {Y : mg_Y} (h : mg_own Y = "PropertyShrink") : mg_UL Y Y_PO_give ⟨"PropertyShrink$Generator", "give", "(LPropertyShrink$Draws;)V"⟩ 145 1 := ⟨bl_PO_give, by rw [h]; exact mg_in 349 (by decide +kernel) (by decide +kernel), mg_in 351 (by decide +kernel) (by decide +kernel), mg_in 415 (by decide +kernel) (by decide +kernel), mg_in 396 (by decide +kernel) (by decide +kernel), by decide +kernel, by decide +kernel, by decide +kernel, by decide +kernel⟩
theorem ul_PS_145_OO {Y : mg_Y} (h : mg_own Y = "PropertyShrink") : mg_UL Y Y_OO_give ⟨"PropertyShrink$Generator", "give", "(LPropertyShrink$Draws;)V"⟩ 145 1 := ⟨bl_OO_give, by rw [h]; exact mg_in 349 (by decide +kernel) (by decide +kernel), mg_in 351 (by decide +kernel) (by decide +kernel), mg_in 414 (by decide +kernel) (by decide +kernel), mg_in 392 (by decide +kernel) (by decide +kernel), by decide +kernel, by decide +kernel, by decide +kernel, by decide +kernel⟩
theorem ul_PS_145_KO {Y : mg_Y} (h : mg_own Y = "PropertyShrink") : mg_UL Y Y_KO_give ⟨"PropertyShrink$Generator", "give", "(LPropertyShrink$Draws;)V"⟩ 145 1 := ⟨bl_KO_give, by rw [h]; exact mg_in 349 (by decide +kernel) (by decide +kernel), mg_in 351 (by decide +kernel) (by decide +kernel), mg_in 412 (by decide +kernel) (by decide +kernel), mg_in 383 (by decide +kernel) (by decide +kernel), by decide +kernel, by decide +kernel, by decide +kernel, by decide +kernel⟩
theorem ul_PS_145_AT {Y : mg_Y} (h : mg_own Y = "PropertyShrink") : mg_UL Y Y_AT_give ⟨"PropertyShrink$Generator", "give", "(LPropertyShrink$Draws;)V"⟩ 145 1 := ⟨bl_AT_give, by rw [h]; exact mg_in 349 (by decide +kernel) (by decide +kernel), mg_in 351 (by decide +kernel) (by decide +kernel), mg_in 352 (by decide +kernel) (by decide +kernel), mg_in 353 (by decide +kernel) (by decide +kernel), by decide +kernel, by decide +kernel, by decide +kernel, by decide +kernel⟩
theorem vl_PS_152 {Y : mg_Y} (h : mg_own Y = "PropertyShrink") : mg_VL Y Y_PS_addToRowsSum 152 1 := ⟨bl_PS_addToRowsSum, by unfold mg_KL; rw [h]; exact Or.inl (mg_in 547 (by decide +kernel) (by decide +kernel)), mg_in 549 (by decide +kernel) (by decide +kernel), mg_in 15 (by decide +kernel) (by decide +kernel)⟩
theorem vl_PS_155 {Y : mg_Y} (h : mg_own Y = "PropertyShrink") : mg_VL Y Y_Dr_beginNextTurn 155 0 := ⟨bl_Dr_beginNextTurn, by unfold mg_KL; rw [h]; exact Or.inl (mg_in 553 (by decide +kernel) (by decide +kernel)), mg_in 554 (by decide +kernel) (by decide +kernel), mg_in 555 (by decide +kernel) (by decide +kernel)⟩
theorem sl_PS_159 {Y : mg_Y} (h : mg_own Y = "PropertyShrink") : mg_SL Y Y_PS_isNear 159 1 := ⟨bl_PS_isNear, by unfold mg_KL; rw [h]; exact Or.inl (mg_in 173 (by decide +kernel) (by decide +kernel)), mg_in 174 (by decide +kernel) (by decide +kernel)⟩
theorem il_PS_164 {Y : mg_Y} (h : mg_own Y = "PropertyShrink") : mg_IL Y Y_IR_init 164 2 := ⟨bl_IR_init, by unfold mg_KL; rw [h]; exact Or.inl (mg_in 178 (by decide +kernel) (by decide +kernel)), mg_in 179 (by decide +kernel) (by decide +kernel), rfl, rfl⟩
theorem il_PS_169 {Y : mg_Y} (h : mg_own Y = "PropertyShrink") : mg_IL Y Y_LO_init 169 2 := ⟨bl_LO_init, by unfold mg_KL; rw [h]; exact Or.inl (mg_in 207 (by decide +kernel) (by decide +kernel)), mg_in 208 (by decide +kernel) (by decide +kernel), rfl, rfl⟩
theorem il_PS_174 {Y : mg_Y} (h : mg_own Y = "PropertyShrink") : mg_IL Y Y_KO_init 174 2 := ⟨bl_KO_init, by unfold mg_KL; rw [h]; exact Or.inl (mg_in 221 (by decide +kernel) (by decide +kernel)), mg_in 222 (by decide +kernel) (by decide +kernel), rfl, rfl⟩
theorem il_PS_177 {Y : mg_Y} (h : mg_own Y = "PropertyShrink") : mg_IL Y Y_AT_init 177 2 := ⟨bl_AT_init, by unfold mg_KL; rw [h]; exact Or.inl (mg_in 235 (by decide +kernel) (by decide +kernel)), mg_in 236 (by decide +kernel) (by decide +kernel), rfl, rfl⟩
theorem sl_PS_178 {Y : mg_Y} (h : mg_own Y = "PropertyShrink") : mg_SL Y Y_PS_makeOfTwo 178 3 := ⟨bl_PS_makeOfTwo, by unfold mg_KL; rw [h]; exact Or.inl (mg_in 247 (by decide +kernel) (by decide +kernel)), mg_in 248 (by decide +kernel) (by decide +kernel)⟩
theorem il_PS_184 {Y : mg_Y} (h : mg_own Y = "PropertyShrink") : mg_IL Y Y_PO_init 184 2 := ⟨bl_PO_init, by unfold mg_KL; rw [h]; exact Or.inl (mg_in 252 (by decide +kernel) (by decide +kernel)), mg_in 253 (by decide +kernel) (by decide +kernel), rfl, rfl⟩
theorem il_PS_189 {Y : mg_Y} (h : mg_own Y = "PropertyShrink") : mg_IL Y Y_OO_init 189 2 := ⟨bl_OO_init, by unfold mg_KL; rw [h]; exact Or.inl (mg_in 269 (by decide +kernel) (by decide +kernel)), mg_in 270 (by decide +kernel) (by decide +kernel), rfl, rfl⟩
theorem vl_PS_190 {Y : mg_Y} (h : mg_own Y = "PropertyShrink") : mg_VL Y Y_Dr_beginRow 190 1 := ⟨bl_Dr_beginRow, by unfold mg_KL; rw [h]; exact Or.inl (mg_in 317 (by decide +kernel) (by decide +kernel)), mg_in 318 (by decide +kernel) (by decide +kernel), mg_in 319 (by decide +kernel) (by decide +kernel)⟩
theorem vl_PS_193 {Y : mg_Y} (h : mg_own Y = "PropertyShrink") : mg_VL Y Y_PS_verdictOfDraws 193 1 := ⟨bl_PS_verdictOfDraws, by unfold mg_KL; rw [h]; exact Or.inl (mg_in 416 (by decide +kernel) (by decide +kernel)), mg_in 418 (by decide +kernel) (by decide +kernel), mg_in 7 (by decide +kernel) (by decide +kernel)⟩
theorem vl_PS_197 {Y : mg_Y} (h : mg_own Y = "PropertyShrink") : mg_VL Y Y_Pr_judge 197 1 := ⟨bl_Pr_judge, by unfold mg_KL; rw [h]; exact Or.inl (mg_in 420 (by decide +kernel) (by decide +kernel)), mg_in 421 (by decide +kernel) (by decide +kernel), mg_in 422 (by decide +kernel) (by decide +kernel)⟩
theorem sl_PS_210 {Y : mg_Y} (h : mg_own Y = "PropertyShrink") : mg_SL Y Y_PS_isBad 210 1 := ⟨bl_PS_isBad, by unfold mg_KL; rw [h]; exact Or.inl (mg_in 434 (by decide +kernel) (by decide +kernel)), mg_in 435 (by decide +kernel) (by decide +kernel)⟩
theorem vl_PS_213 {Y : mg_Y} (h : mg_own Y = "PropertyShrink") : mg_VL Y Y_PS_takeFound 213 3 := ⟨bl_PS_takeFound, by unfold mg_KL; rw [h]; exact Or.inl (mg_in 437 (by decide +kernel) (by decide +kernel)), mg_in 439 (by decide +kernel) (by decide +kernel), mg_in 8 (by decide +kernel) (by decide +kernel)⟩
theorem vl_PS_220 {Y : mg_Y} (h : mg_own Y = "PropertyShrink") : mg_VL Y Y_Dr_sow 220 1 := ⟨bl_Dr_sow, by unfold mg_KL; rw [h]; exact Or.inl (mg_in 450 (by decide +kernel) (by decide +kernel)), mg_in 451 (by decide +kernel) (by decide +kernel), mg_in 452 (by decide +kernel) (by decide +kernel)⟩
theorem vl_PS_224 {Y : mg_Y} (h : mg_own Y = "PropertyShrink") : mg_VL Y Y_Dr_beginTry 224 1 := ⟨bl_Dr_beginTry, by unfold mg_KL; rw [h]; exact Or.inl (mg_in 454 (by decide +kernel) (by decide +kernel)), mg_in 455 (by decide +kernel) (by decide +kernel), mg_in 456 (by decide +kernel) (by decide +kernel)⟩
theorem vl_PS_228 {Y : mg_Y} (h : mg_own Y = "PropertyShrink") : mg_VL Y Y_PS_makeDrop 228 1 := ⟨bl_PS_makeDrop, by unfold mg_KL; rw [h]; exact Or.inl (mg_in 492 (by decide +kernel) (by decide +kernel)), mg_in 494 (by decide +kernel) (by decide +kernel), mg_in 12 (by decide +kernel) (by decide +kernel)⟩
theorem vl_PS_232 {Y : mg_Y} (h : mg_own Y = "PropertyShrink") : mg_VL Y Y_PS_makeLowering 232 1 := ⟨bl_PS_makeLowering, by unfold mg_KL; rw [h]; exact Or.inl (mg_in 499 (by decide +kernel) (by decide +kernel)), mg_in 501 (by decide +kernel) (by decide +kernel), mg_in 13 (by decide +kernel) (by decide +kernel)⟩
theorem vl_PS_235 {Y : mg_Y} (h : mg_own Y = "PropertyShrink") : mg_VL Y Y_PS_makeSwap 235 1 := ⟨bl_PS_makeSwap, by unfold mg_KL; rw [h]; exact Or.inl (mg_in 509 (by decide +kernel) (by decide +kernel)), mg_in 511 (by decide +kernel) (by decide +kernel), mg_in 14 (by decide +kernel) (by decide +kernel)⟩
theorem ml_PS_238 : Cond.methodLink "PropertyShrink" 238 Lib.Math.max.name ∈ mg_GT := mg_in 497 (by decide +kernel) (by decide +kernel)
theorem vl_PS_243 {Y : mg_Y} (h : mg_own Y = "PropertyShrink") : mg_VL Y Y_In_copyWithout 243 3 := ⟨bl_In_copyWithout, by unfold mg_KL; rw [h]; exact Or.inl (mg_in 498 (by decide +kernel) (by decide +kernel)), mg_in 326 (by decide +kernel) (by decide +kernel), mg_in 327 (by decide +kernel) (by decide +kernel)⟩
theorem ml_PS_247 : Cond.methodLink "PropertyShrink" 247 Lib.Math.min.name ∈ mg_GT := mg_in 504 (by decide +kernel) (by decide +kernel)
theorem sl_PS_250 {Y : mg_Y} (h : mg_own Y = "PropertyShrink") : mg_SL Y Y_PS_lowered 250 2 := ⟨bl_PS_lowered, by unfold mg_KL; rw [h]; exact Or.inl (mg_in 505 (by decide +kernel) (by decide +kernel)), mg_in 506 (by decide +kernel) (by decide +kernel)⟩
theorem vl_PS_253 {Y : mg_Y} (h : mg_own Y = "PropertyShrink") : mg_VL Y Y_In_set 253 2 := ⟨bl_In_set, by unfold mg_KL; rw [h]; exact Or.inl (mg_in 508 (by decide +kernel) (by decide +kernel)), mg_in 408 (by decide +kernel) (by decide +kernel), mg_in 409 (by decide +kernel) (by decide +kernel)⟩
theorem ol_Mo_1 : Cond.methodLink "PropertyShrinkModel" 1 Lib.objectInit ∈ mg_GT := mg_in 566 (by decide +kernel) (by decide +kernel)
theorem sl_Mo_86 {Y : mg_Y} (h : mg_own Y = "PropertyShrinkModel") : mg_SL Y Y_Mo_isWithin 86 3 := ⟨bl_Mo_isWithin, by unfold mg_KL; rw [h]; exact Or.inl (mg_in 701 (by decide +kernel) (by decide +kernel)), mg_in 702 (by decide +kernel) (by decide +kernel)⟩
theorem vl_Mo_90 {Y : mg_Y} (h : mg_own Y = "PropertyShrinkModel") : mg_VL Y Y_Mo_isGenerator 90 1 := ⟨bl_Mo_isGenerator, by unfold mg_KL; rw [h]; exact Or.inl (mg_in 704 (by decide +kernel) (by decide +kernel)), mg_in 706 (by decide +kernel) (by decide +kernel), mg_in 16 (by decide +kernel) (by decide +kernel)⟩
theorem vl_Mo_127 {Y : mg_Y} (h : mg_own Y = "PropertyShrinkModel") : mg_VL Y Y_Mo_push 127 1 := ⟨bl_Mo_push, by unfold mg_KL; rw [h]; exact Or.inl (mg_in 724 (by decide +kernel) (by decide +kernel)), mg_in 726 (by decide +kernel) (by decide +kernel), mg_in 19 (by decide +kernel) (by decide +kernel)⟩
theorem vl_Mo_131 {Y : mg_Y} (h : mg_own Y = "PropertyShrinkModel") : mg_VL Y Y_Mo_turn 131 2 := ⟨bl_Mo_turn, by unfold mg_KL; rw [h]; exact Or.inl (mg_in 728 (by decide +kernel) (by decide +kernel)), mg_in 730 (by decide +kernel) (by decide +kernel), mg_in 20 (by decide +kernel) (by decide +kernel)⟩
theorem vl_Mo_135 {Y : mg_Y} (h : mg_own Y = "PropertyShrinkModel") : mg_VL Y Y_Mo_draw 135 2 := ⟨bl_Mo_draw, by unfold mg_KL; rw [h]; exact Or.inl (mg_in 732 (by decide +kernel) (by decide +kernel)), mg_in 734 (by decide +kernel) (by decide +kernel), mg_in 21 (by decide +kernel) (by decide +kernel)⟩
theorem vl_Mo_139 {Y : mg_Y} (h : mg_own Y = "PropertyShrinkModel") : mg_VL Y Y_Mo_keep 139 3 := ⟨bl_Mo_keep, by unfold mg_KL; rw [h]; exact Or.inl (mg_in 738 (by decide +kernel) (by decide +kernel)), mg_in 740 (by decide +kernel) (by decide +kernel), mg_in 22 (by decide +kernel) (by decide +kernel)⟩
theorem vl_Mo_155 {Y : mg_Y} (h : mg_own Y = "PropertyShrinkModel") : mg_VL Y Y_Mo_tell 155 0 := ⟨bl_Mo_tell, by unfold mg_KL; rw [h]; exact Or.inl (mg_in 753 (by decide +kernel) (by decide +kernel)), mg_in 755 (by decide +kernel) (by decide +kernel), mg_in 25 (by decide +kernel) (by decide +kernel)⟩
theorem vl_Mo_161 {Y : mg_Y} (h : mg_own Y = "PropertyShrinkModel") : mg_VL Y Y_Mo_go 161 2 := ⟨bl_Mo_go, by unfold mg_KL; rw [h]; exact Or.inl (mg_in 720 (by decide +kernel) (by decide +kernel)), mg_in 722 (by decide +kernel) (by decide +kernel), mg_in 18 (by decide +kernel) (by decide +kernel)⟩
theorem vl_Mo_164 {Y : mg_Y} (h : mg_own Y = "PropertyShrinkModel") : mg_VL Y Y_Mo_does 164 1 := ⟨bl_Mo_does, by unfold mg_KL; rw [h]; exact Or.inl (mg_in 742 (by decide +kernel) (by decide +kernel)), mg_in 744 (by decide +kernel) (by decide +kernel), mg_in 23 (by decide +kernel) (by decide +kernel)⟩
theorem sl_Mo_168 {Y : mg_Y} (h : mg_own Y = "PropertyShrinkModel") : mg_SL Y Y_Mo_isBad 168 1 := ⟨bl_Mo_isBad, by unfold mg_KL; rw [h]; exact Or.inl (mg_in 746 (by decide +kernel) (by decide +kernel)), mg_in 747 (by decide +kernel) (by decide +kernel)⟩
theorem vl_Mo_171 {Y : mg_Y} (h : mg_own Y = "PropertyShrinkModel") : mg_VL Y Y_Mo_find 171 3 := ⟨bl_Mo_find, by unfold mg_KL; rw [h]; exact Or.inl (mg_in 749 (by decide +kernel) (by decide +kernel)), mg_in 751 (by decide +kernel) (by decide +kernel), mg_in 24 (by decide +kernel) (by decide +kernel)⟩
theorem vl_Mo_177 {Y : mg_Y} (h : mg_own Y = "PropertyShrinkModel") : mg_VL Y Y_Mo_findKept 177 2 := ⟨bl_Mo_findKept, by unfold mg_KL; rw [h]; exact Or.inl (mg_in 716 (by decide +kernel) (by decide +kernel)), mg_in 718 (by decide +kernel) (by decide +kernel), mg_in 17 (by decide +kernel) (by decide +kernel)⟩
theorem vl_Mo_184 {Y : mg_Y} (h : mg_own Y = "PropertyShrinkModel") : mg_VL Y Y_Mo_keepRow 184 0 := ⟨bl_Mo_keepRow, by unfold mg_KL; rw [h]; exact Or.inl (mg_in 757 (by decide +kernel) (by decide +kernel)), mg_in 759 (by decide +kernel) (by decide +kernel), mg_in 26 (by decide +kernel) (by decide +kernel)⟩
theorem vl_Mo_187 {Y : mg_Y} (h : mg_own Y = "PropertyShrinkModel") : mg_VL Y Y_Mo_drop 187 2 := ⟨bl_Mo_drop, by unfold mg_KL; rw [h]; exact Or.inl (mg_in 769 (by decide +kernel) (by decide +kernel)), mg_in 771 (by decide +kernel) (by decide +kernel), mg_in 28 (by decide +kernel) (by decide +kernel)⟩
theorem vl_Mo_190 {Y : mg_Y} (h : mg_own Y = "PropertyShrinkModel") : mg_VL Y Y_Mo_copy 190 0 := ⟨bl_Mo_copy, by unfold mg_KL; rw [h]; exact Or.inl (mg_in 773 (by decide +kernel) (by decide +kernel)), mg_in 775 (by decide +kernel) (by decide +kernel), mg_in 29 (by decide +kernel) (by decide +kernel)⟩
theorem vl_Mo_193 {Y : mg_Y} (h : mg_own Y = "PropertyShrinkModel") : mg_VL Y Y_Mo_make 193 1 := ⟨bl_Mo_make, by unfold mg_KL; rw [h]; exact Or.inl (mg_in 765 (by decide +kernel) (by decide +kernel)), mg_in 767 (by decide +kernel) (by decide +kernel), mg_in 27 (by decide +kernel) (by decide +kernel)⟩
theorem vl_Mo_206 {Y : mg_Y} (h : mg_own Y = "PropertyShrinkModel") : mg_VL Y Y_Mo_raise 206 0 := ⟨bl_Mo_raise, by unfold mg_KL; rw [h]; exact Or.inl (mg_in 807 (by decide +kernel) (by decide +kernel)), mg_in 809 (by decide +kernel) (by decide +kernel), mg_in 30 (by decide +kernel) (by decide +kernel)⟩
theorem il_AT_7 {Y : mg_Y} (h : mg_own Y = "PropertyShrink$AddTo") : mg_IL Y Y_Ge_init 7 1 := ⟨bl_Ge_init, by unfold mg_KL; rw [h]; exact Or.inl (mg_in 238 (by decide +kernel) (by decide +kernel)), mg_in 182 (by decide +kernel) (by decide +kernel), rfl, rfl⟩
theorem vl_AT_26 {Y : mg_Y} (h : mg_own Y = "PropertyShrink$AddTo") : mg_VL Y Y_In_length 26 0 := ⟨bl_In_length, by unfold mg_KL; rw [h]; exact Or.inl (mg_in 355 (by decide +kernel) (by decide +kernel)), mg_in 356 (by decide +kernel) (by decide +kernel), mg_in 357 (by decide +kernel) (by decide +kernel)⟩
theorem ul_AT_32_IR {Y : mg_Y} (h : mg_own Y = "PropertyShrink$AddTo") : mg_UL Y Y_IR_give ⟨"PropertyShrink$Generator", "give", "(LPropertyShrink$Draws;)V"⟩ 32 1 := ⟨bl_IR_give, by rw [h]; exact mg_in 359 (by decide +kernel) (by decide +kernel), mg_in 351 (by decide +kernel) (by decide +kernel), mg_in 411 (by decide +kernel) (by decide +kernel), mg_in 360 (by decide +kernel) (by decide +kernel), by decide +kernel, by decide +kernel, by decide +kernel, by decide +kernel⟩
theorem ul_AT_32_LO {Y : mg_Y} (h : mg_own Y = "PropertyShrink$AddTo") : mg_UL Y Y_LO_give ⟨"PropertyShrink$Generator", "give", "(LPropertyShrink$Draws;)V"⟩ 32 1 := ⟨bl_LO_give, by rw [h]; exact mg_in 359 (by decide +kernel) (by decide +kernel), mg_in 351 (by decide +kernel) (by decide +kernel), mg_in 413 (by decide +kernel) (by decide +kernel), mg_in 388 (by decide +kernel) (by decide +kernel), by decide +kernel, by decide +kernel, by decide +kernel, by decide +kernel⟩
theorem ul_AT_32_PO {Y : mg_Y} (h : mg_own Y = "PropertyShrink$AddTo") : mg_UL Y Y_PO_give ⟨"PropertyShrink$Generator", "give", "(LPropertyShrink$Draws;)V"⟩ 32 1 := ⟨bl_PO_give, by rw [h]; exact mg_in 359 (by decide +kernel) (by decide +kernel), mg_in 351 (by decide +kernel) (by decide +kernel), mg_in 415 (by decide +kernel) (by decide +kernel), mg_in 396 (by decide +kernel) (by decide +kernel), by decide +kernel, by decide +kernel, by decide +kernel, by decide +kernel⟩
theorem ul_AT_32_OO {Y : mg_Y} (h : mg_own Y = "PropertyShrink$AddTo") : mg_UL Y Y_OO_give ⟨"PropertyShrink$Generator", "give", "(LPropertyShrink$Draws;)V"⟩ 32 1 := ⟨bl_OO_give, by rw [h]; exact mg_in 359 (by decide +kernel) (by decide +kernel), mg_in 351 (by decide +kernel) (by decide +kernel), mg_in 414 (by decide +kernel) (by decide +kernel), mg_in 392 (by decide +kernel) (by decide +kernel), by decide +kernel, by decide +kernel, by decide +kernel, by decide +kernel⟩
theorem ul_AT_32_KO {Y : mg_Y} (h : mg_own Y = "PropertyShrink$AddTo") : mg_UL Y Y_KO_give ⟨"PropertyShrink$Generator", "give", "(LPropertyShrink$Draws;)V"⟩ 32 1 := ⟨bl_KO_give, by rw [h]; exact mg_in 359 (by decide +kernel) (by decide +kernel), mg_in 351 (by decide +kernel) (by decide +kernel), mg_in 412 (by decide +kernel) (by decide +kernel), mg_in 383 (by decide +kernel) (by decide +kernel), by decide +kernel, by decide +kernel, by decide +kernel, by decide +kernel⟩
theorem ul_AT_32_AT {Y : mg_Y} (h : mg_own Y = "PropertyShrink$AddTo") : mg_UL Y Y_AT_give ⟨"PropertyShrink$Generator", "give", "(LPropertyShrink$Draws;)V"⟩ 32 1 := ⟨bl_AT_give, by rw [h]; exact mg_in 359 (by decide +kernel) (by decide +kernel), mg_in 351 (by decide +kernel) (by decide +kernel), mg_in 352 (by decide +kernel) (by decide +kernel), mg_in 353 (by decide +kernel) (by decide +kernel), by decide +kernel, by decide +kernel, by decide +kernel, by decide +kernel⟩
theorem vl_AT_36 {Y : mg_Y} (h : mg_own Y = "PropertyShrink$AddTo") : mg_VL Y Y_In_raiseFrom 36 2 := ⟨bl_In_raiseFrom, by unfold mg_KL; rw [h]; exact Or.inl (mg_in 403 (by decide +kernel) (by decide +kernel)), mg_in 404 (by decide +kernel) (by decide +kernel), mg_in 405 (by decide +kernel) (by decide +kernel)⟩
theorem ol_Dr_3 : Cond.methodLink "PropertyShrink$Draws" 3 Lib.objectInit ∈ mg_GT := mg_in 77 (by decide +kernel) (by decide +kernel)
theorem il_Dr_11 {Y : mg_Y} (h : mg_own Y = "PropertyShrink$Draws") : mg_IL Y Y_In_init 11 0 := ⟨bl_In_init, by unfold mg_KL; rw [h]; exact Or.inr ⟨"PropertyShrink", by decide +kernel⟩, mg_in 61 (by decide +kernel) (by decide +kernel), rfl, rfl⟩
theorem vl_Dr_32 {Y : mg_Y} (h : mg_own Y = "PropertyShrink$Draws") : mg_VL Y Y_In_cutTo 32 1 := ⟨bl_In_cutTo, by unfold mg_KL; rw [h]; exact Or.inl (mg_in 341 (by decide +kernel) (by decide +kernel)), mg_in 342 (by decide +kernel) (by decide +kernel), mg_in 343 (by decide +kernel) (by decide +kernel)⟩
theorem vl_Dr_40 {Y : mg_Y} (h : mg_own Y = "PropertyShrink$Draws") : mg_VL Y Y_In_copyFrom 40 1 := ⟨bl_In_copyFrom, by unfold mg_KL; rw [h]; exact Or.inl (mg_in 321 (by decide +kernel) (by decide +kernel)), mg_in 322 (by decide +kernel) (by decide +kernel), mg_in 323 (by decide +kernel) (by decide +kernel)⟩
theorem vl_Dr_44 {Y : mg_Y} (h : mg_own Y = "PropertyShrink$Draws") : mg_VL Y Y_Dr_begin 44 1 := ⟨bl_Dr_begin, by unfold mg_KL; rw [h]; exact Or.inl (mg_in 337 (by decide +kernel) (by decide +kernel)), mg_in 339 (by decide +kernel) (by decide +kernel), mg_in 5 (by decide +kernel) (by decide +kernel)⟩
theorem vl_Dr_54 {Y : mg_Y} (h : mg_own Y = "PropertyShrink$Draws") : mg_VL Y Y_In_length 54 0 := ⟨bl_In_length, by unfold mg_KL; rw [h]; exact Or.inl (mg_in 370 (by decide +kernel) (by decide +kernel)), mg_in 356 (by decide +kernel) (by decide +kernel), mg_in 357 (by decide +kernel) (by decide +kernel)⟩
theorem vl_Dr_58 {Y : mg_Y} (h : mg_own Y = "PropertyShrink$Draws") : mg_VL Y Y_In_at 58 2 := ⟨bl_In_at, by unfold mg_KL; rw [h]; exact Or.inl (mg_in 377 (by decide +kernel) (by decide +kernel)), mg_in 330 (by decide +kernel) (by decide +kernel), mg_in 331 (by decide +kernel) (by decide +kernel)⟩
theorem vl_Dr_62 {Y : mg_Y} (h : mg_own Y = "PropertyShrink$Draws") : mg_VL Y Y_In_add 62 1 := ⟨bl_In_add, by unfold mg_KL; rw [h]; exact Or.inl (mg_in 378 (by decide +kernel) (by decide +kernel)), mg_in 334 (by decide +kernel) (by decide +kernel), mg_in 335 (by decide +kernel) (by decide +kernel)⟩
theorem vl_Dr_66 {Y : mg_Y} (h : mg_own Y = "PropertyShrink$Draws") : mg_VL Y Y_Dr_pick 66 2 := ⟨bl_Dr_pick, by unfold mg_KL; rw [h]; exact Or.inl (mg_in 371 (by decide +kernel) (by decide +kernel)), mg_in 373 (by decide +kernel) (by decide +kernel), mg_in 6 (by decide +kernel) (by decide +kernel)⟩
theorem ol_Ge_1 : Cond.methodLink "PropertyShrink$Generator" 1 Lib.objectInit ∈ mg_GT := mg_in 184 (by decide +kernel) (by decide +kernel)
theorem il_IR_1 {Y : mg_Y} (h : mg_own Y = "PropertyShrink$IntRange") : mg_IL Y Y_Ge_init 1 1 := ⟨bl_Ge_init, by unfold mg_KL; rw [h]; exact Or.inl (mg_in 181 (by decide +kernel) (by decide +kernel)), mg_in 182 (by decide +kernel) (by decide +kernel), rfl, rfl⟩
theorem vl_IR_16 {Y : mg_Y} (h : mg_own Y = "PropertyShrink$IntRange") : mg_VL Y Y_Dr_sizedSpan 16 1 := ⟨bl_Dr_sizedSpan, by unfold mg_KL; rw [h]; exact Or.inl (mg_in 362 (by decide +kernel) (by decide +kernel)), mg_in 363 (by decide +kernel) (by decide +kernel), mg_in 364 (by decide +kernel) (by decide +kernel)⟩
theorem vl_IR_22 {Y : mg_Y} (h : mg_own Y = "PropertyShrink$IntRange") : mg_VL Y Y_Dr_draw 22 2 := ⟨bl_Dr_draw, by unfold mg_KL; rw [h]; exact Or.inl (mg_in 366 (by decide +kernel) (by decide +kernel)), mg_in 367 (by decide +kernel) (by decide +kernel), mg_in 368 (by decide +kernel) (by decide +kernel)⟩
theorem vl_IR_26 {Y : mg_Y} (h : mg_own Y = "PropertyShrink$IntRange") : mg_VL Y Y_Dr_giveNumber 26 1 := ⟨bl_Dr_giveNumber, by unfold mg_KL; rw [h]; exact Or.inl (mg_in 379 (by decide +kernel) (by decide +kernel)), mg_in 380 (by decide +kernel) (by decide +kernel), mg_in 381 (by decide +kernel) (by decide +kernel)⟩
theorem ol_In_3 : Cond.methodLink "PropertyShrink$Ints" 3 Lib.objectInit ∈ mg_GT := mg_in 63 (by decide +kernel) (by decide +kernel)
theorem ml_In_19 : Cond.methodLink "PropertyShrink$Ints" 19 Lib.Math.min.name ∈ mg_GT := mg_in 345 (by decide +kernel) (by decide +kernel)
theorem ml_In_25 : Cond.methodLink "PropertyShrink$Ints" 25 Lib.Math.max.name ∈ mg_GT := mg_in 348 (by decide +kernel) (by decide +kernel)
theorem vl_In_28 {Y : mg_Y} (h : mg_own Y = "PropertyShrink$Ints") : mg_VL Y Y_In_copyWithout 28 3 := ⟨bl_In_copyWithout, by unfold mg_KL; rw [h]; exact Or.inl (mg_in 325 (by decide +kernel) (by decide +kernel)), mg_in 326 (by decide +kernel) (by decide +kernel), mg_in 327 (by decide +kernel) (by decide +kernel)⟩
theorem vl_In_32 {Y : mg_Y} (h : mg_own Y = "PropertyShrink$Ints") : mg_VL Y Y_In_at 32 2 := ⟨bl_In_at, by unfold mg_KL; rw [h]; exact Or.inl (mg_in 329 (by decide +kernel) (by decide +kernel)), mg_in 330 (by decide +kernel) (by decide +kernel), mg_in 331 (by decide +kernel) (by decide +kernel)⟩
theorem vl_In_35 {Y : mg_Y} (h : mg_own Y = "PropertyShrink$Ints") : mg_VL Y Y_In_add 35 1 := ⟨bl_In_add, by unfold mg_KL; rw [h]; exact Or.inl (mg_in 333 (by decide +kernel) (by decide +kernel)), mg_in 334 (by decide +kernel) (by decide +kernel), mg_in 335 (by decide +kernel) (by decide +kernel)⟩
theorem vl_In_39 {Y : mg_Y} (h : mg_own Y = "PropertyShrink$Ints") : mg_VL Y Y_In_set 39 2 := ⟨bl_In_set, by unfold mg_KL; rw [h]; exact Or.inl (mg_in 407 (by decide +kernel) (by decide +kernel)), mg_in 408 (by decide +kernel) (by decide +kernel), mg_in 409 (by decide +kernel) (by decide +kernel)⟩
theorem il_KO_9 {Y : mg_Y} (h : mg_own Y = "PropertyShrink$KeepOf") : mg_IL Y Y_Ge_init 9 1 := ⟨bl_Ge_init, by unfold mg_KL; rw [h]; exact Or.inl (mg_in 224 (by decide +kernel) (by decide +kernel)), mg_in 182 (by decide +kernel) (by decide +kernel), rfl, rfl⟩
theorem vl_KO_28 {Y : mg_Y} (h : mg_own Y = "PropertyShrink$KeepOf") : mg_VL Y Y_In_length 28 0 := ⟨bl_In_length, by unfold mg_KL; rw [h]; exact Or.inl (mg_in 385 (by decide +kernel) (by decide +kernel)), mg_in 356 (by decide +kernel) (by decide +kernel), mg_in 357 (by decide +kernel) (by decide +kernel)⟩
theorem vl_KO_38 {Y : mg_Y} (h : mg_own Y = "PropertyShrink$KeepOf") : mg_VL Y Y_In_cutTo 38 1 := ⟨bl_In_cutTo, by unfold mg_KL; rw [h]; exact Or.inl (mg_in 386 (by decide +kernel) (by decide +kernel)), mg_in 342 (by decide +kernel) (by decide +kernel), mg_in 343 (by decide +kernel) (by decide +kernel)⟩
theorem ul_KO_41_IR {Y : mg_Y} (h : mg_own Y = "PropertyShrink$KeepOf") : mg_UL Y Y_IR_give ⟨"PropertyShrink$Generator", "give", "(LPropertyShrink$Draws;)V"⟩ 41 1 := ⟨bl_IR_give, by rw [h]; exact mg_in 387 (by decide +kernel) (by decide +kernel), mg_in 351 (by decide +kernel) (by decide +kernel), mg_in 411 (by decide +kernel) (by decide +kernel), mg_in 360 (by decide +kernel) (by decide +kernel), by decide +kernel, by decide +kernel, by decide +kernel, by decide +kernel⟩
theorem ul_KO_41_LO {Y : mg_Y} (h : mg_own Y = "PropertyShrink$KeepOf") : mg_UL Y Y_LO_give ⟨"PropertyShrink$Generator", "give", "(LPropertyShrink$Draws;)V"⟩ 41 1 := ⟨bl_LO_give, by rw [h]; exact mg_in 387 (by decide +kernel) (by decide +kernel), mg_in 351 (by decide +kernel) (by decide +kernel), mg_in 413 (by decide +kernel) (by decide +kernel), mg_in 388 (by decide +kernel) (by decide +kernel), by decide +kernel, by decide +kernel, by decide +kernel, by decide +kernel⟩
theorem ul_KO_41_PO {Y : mg_Y} (h : mg_own Y = "PropertyShrink$KeepOf") : mg_UL Y Y_PO_give ⟨"PropertyShrink$Generator", "give", "(LPropertyShrink$Draws;)V"⟩ 41 1 := ⟨bl_PO_give, by rw [h]; exact mg_in 387 (by decide +kernel) (by decide +kernel), mg_in 351 (by decide +kernel) (by decide +kernel), mg_in 415 (by decide +kernel) (by decide +kernel), mg_in 396 (by decide +kernel) (by decide +kernel), by decide +kernel, by decide +kernel, by decide +kernel, by decide +kernel⟩
theorem ul_KO_41_OO {Y : mg_Y} (h : mg_own Y = "PropertyShrink$KeepOf") : mg_UL Y Y_OO_give ⟨"PropertyShrink$Generator", "give", "(LPropertyShrink$Draws;)V"⟩ 41 1 := ⟨bl_OO_give, by rw [h]; exact mg_in 387 (by decide +kernel) (by decide +kernel), mg_in 351 (by decide +kernel) (by decide +kernel), mg_in 414 (by decide +kernel) (by decide +kernel), mg_in 392 (by decide +kernel) (by decide +kernel), by decide +kernel, by decide +kernel, by decide +kernel, by decide +kernel⟩
theorem ul_KO_41_KO {Y : mg_Y} (h : mg_own Y = "PropertyShrink$KeepOf") : mg_UL Y Y_KO_give ⟨"PropertyShrink$Generator", "give", "(LPropertyShrink$Draws;)V"⟩ 41 1 := ⟨bl_KO_give, by rw [h]; exact mg_in 387 (by decide +kernel) (by decide +kernel), mg_in 351 (by decide +kernel) (by decide +kernel), mg_in 412 (by decide +kernel) (by decide +kernel), mg_in 383 (by decide +kernel) (by decide +kernel), by decide +kernel, by decide +kernel, by decide +kernel, by decide +kernel⟩
theorem ul_KO_41_AT {Y : mg_Y} (h : mg_own Y = "PropertyShrink$KeepOf") : mg_UL Y Y_AT_give ⟨"PropertyShrink$Generator", "give", "(LPropertyShrink$Draws;)V"⟩ 41 1 := ⟨bl_AT_give, by rw [h]; exact mg_in 387 (by decide +kernel) (by decide +kernel), mg_in 351 (by decide +kernel) (by decide +kernel), mg_in 352 (by decide +kernel) (by decide +kernel), mg_in 353 (by decide +kernel) (by decide +kernel), by decide +kernel, by decide +kernel, by decide +kernel, by decide +kernel⟩
theorem vl_KO_45 {Y : mg_Y} (h : mg_own Y = "PropertyShrink$KeepOf") : mg_VL Y Y_In_totalFrom 45 1 := ⟨bl_In_totalFrom, by unfold mg_KL; rw [h]; exact Or.inl (mg_in 399 (by decide +kernel) (by decide +kernel)), mg_in 400 (by decide +kernel) (by decide +kernel), mg_in 401 (by decide +kernel) (by decide +kernel)⟩
theorem ol_Kp_1 : Cond.methodLink "PropertyShrink$Kept" 1 Lib.objectInit ∈ mg_GT := mg_in 463 (by decide +kernel) (by decide +kernel)
theorem il_Kp_9 {Y : mg_Y} (h : mg_own Y = "PropertyShrink$Kept") : mg_IL Y Y_In_init 9 0 := ⟨bl_In_init, by unfold mg_KL; rw [h]; exact Or.inr ⟨"PropertyShrink", by decide +kernel⟩, mg_in 61 (by decide +kernel) (by decide +kernel), rfl, rfl⟩
theorem vl_Kp_27 {Y : mg_Y} (h : mg_own Y = "PropertyShrink$Kept") : mg_VL Y Y_In_copyFrom 27 1 := ⟨bl_In_copyFrom, by unfold mg_KL; rw [h]; exact Or.inl (mg_in 466 (by decide +kernel) (by decide +kernel)), mg_in 322 (by decide +kernel) (by decide +kernel), mg_in 323 (by decide +kernel) (by decide +kernel)⟩
theorem il_LO_7 {Y : mg_Y} (h : mg_own Y = "PropertyShrink$ListOf") : mg_IL Y Y_Ge_init 7 1 := ⟨bl_Ge_init, by unfold mg_KL; rw [h]; exact Or.inl (mg_in 210 (by decide +kernel) (by decide +kernel)), mg_in 182 (by decide +kernel) (by decide +kernel), rfl, rfl⟩
theorem vl_LO_20 {Y : mg_Y} (h : mg_own Y = "PropertyShrink$ListOf") : mg_VL Y Y_Dr_draw 20 2 := ⟨bl_Dr_draw, by unfold mg_KL; rw [h]; exact Or.inl (mg_in 390 (by decide +kernel) (by decide +kernel)), mg_in 367 (by decide +kernel) (by decide +kernel), mg_in 368 (by decide +kernel) (by decide +kernel)⟩
theorem ul_LO_26_IR {Y : mg_Y} (h : mg_own Y = "PropertyShrink$ListOf") : mg_UL Y Y_IR_give ⟨"PropertyShrink$Generator", "give", "(LPropertyShrink$Draws;)V"⟩ 26 1 := ⟨bl_IR_give, by rw [h]; exact mg_in 391 (by decide +kernel) (by decide +kernel), mg_in 351 (by decide +kernel) (by decide +kernel), mg_in 411 (by decide +kernel) (by decide +kernel), mg_in 360 (by decide +kernel) (by decide +kernel), by decide +kernel, by decide +kernel, by decide +kernel, by decide +kernel⟩
theorem ul_LO_26_LO {Y : mg_Y} (h : mg_own Y = "PropertyShrink$ListOf") : mg_UL Y Y_LO_give ⟨"PropertyShrink$Generator", "give", "(LPropertyShrink$Draws;)V"⟩ 26 1 := ⟨bl_LO_give, by rw [h]; exact mg_in 391 (by decide +kernel) (by decide +kernel), mg_in 351 (by decide +kernel) (by decide +kernel), mg_in 413 (by decide +kernel) (by decide +kernel), mg_in 388 (by decide +kernel) (by decide +kernel), by decide +kernel, by decide +kernel, by decide +kernel, by decide +kernel⟩
theorem ul_LO_26_PO {Y : mg_Y} (h : mg_own Y = "PropertyShrink$ListOf") : mg_UL Y Y_PO_give ⟨"PropertyShrink$Generator", "give", "(LPropertyShrink$Draws;)V"⟩ 26 1 := ⟨bl_PO_give, by rw [h]; exact mg_in 391 (by decide +kernel) (by decide +kernel), mg_in 351 (by decide +kernel) (by decide +kernel), mg_in 415 (by decide +kernel) (by decide +kernel), mg_in 396 (by decide +kernel) (by decide +kernel), by decide +kernel, by decide +kernel, by decide +kernel, by decide +kernel⟩
theorem ul_LO_26_OO {Y : mg_Y} (h : mg_own Y = "PropertyShrink$ListOf") : mg_UL Y Y_OO_give ⟨"PropertyShrink$Generator", "give", "(LPropertyShrink$Draws;)V"⟩ 26 1 := ⟨bl_OO_give, by rw [h]; exact mg_in 391 (by decide +kernel) (by decide +kernel), mg_in 351 (by decide +kernel) (by decide +kernel), mg_in 414 (by decide +kernel) (by decide +kernel), mg_in 392 (by decide +kernel) (by decide +kernel), by decide +kernel, by decide +kernel, by decide +kernel, by decide +kernel⟩
theorem ul_LO_26_KO {Y : mg_Y} (h : mg_own Y = "PropertyShrink$ListOf") : mg_UL Y Y_KO_give ⟨"PropertyShrink$Generator", "give", "(LPropertyShrink$Draws;)V"⟩ 26 1 := ⟨bl_KO_give, by rw [h]; exact mg_in 391 (by decide +kernel) (by decide +kernel), mg_in 351 (by decide +kernel) (by decide +kernel), mg_in 412 (by decide +kernel) (by decide +kernel), mg_in 383 (by decide +kernel) (by decide +kernel), by decide +kernel, by decide +kernel, by decide +kernel, by decide +kernel⟩
theorem ul_LO_26_AT {Y : mg_Y} (h : mg_own Y = "PropertyShrink$ListOf") : mg_UL Y Y_AT_give ⟨"PropertyShrink$Generator", "give", "(LPropertyShrink$Draws;)V"⟩ 26 1 := ⟨bl_AT_give, by rw [h]; exact mg_in 391 (by decide +kernel) (by decide +kernel), mg_in 351 (by decide +kernel) (by decide +kernel), mg_in 352 (by decide +kernel) (by decide +kernel), mg_in 353 (by decide +kernel) (by decide +kernel), by decide +kernel, by decide +kernel, by decide +kernel, by decide +kernel⟩
theorem ml_OO_7 : Cond.methodLink "PropertyShrink$OneOf" 7 Lib.Math.max.name ∈ mg_GT := mg_in 272 (by decide +kernel) (by decide +kernel)
theorem il_OO_13 {Y : mg_Y} (h : mg_own Y = "PropertyShrink$OneOf") : mg_IL Y Y_Ge_init 13 1 := ⟨bl_Ge_init, by unfold mg_KL; rw [h]; exact Or.inl (mg_in 273 (by decide +kernel) (by decide +kernel)), mg_in 182 (by decide +kernel) (by decide +kernel), rfl, rfl⟩
theorem vl_OO_26 {Y : mg_Y} (h : mg_own Y = "PropertyShrink$OneOf") : mg_VL Y Y_Dr_draw 26 2 := ⟨bl_Dr_draw, by unfold mg_KL; rw [h]; exact Or.inl (mg_in 394 (by decide +kernel) (by decide +kernel)), mg_in 367 (by decide +kernel) (by decide +kernel), mg_in 368 (by decide +kernel) (by decide +kernel)⟩
theorem ul_OO_35_IR {Y : mg_Y} (h : mg_own Y = "PropertyShrink$OneOf") : mg_UL Y Y_IR_give ⟨"PropertyShrink$Generator", "give", "(LPropertyShrink$Draws;)V"⟩ 35 1 := ⟨bl_IR_give, by rw [h]; exact mg_in 395 (by decide +kernel) (by decide +kernel), mg_in 351 (by decide +kernel) (by decide +kernel), mg_in 411 (by decide +kernel) (by decide +kernel), mg_in 360 (by decide +kernel) (by decide +kernel), by decide +kernel, by decide +kernel, by decide +kernel, by decide +kernel⟩
theorem ul_OO_35_LO {Y : mg_Y} (h : mg_own Y = "PropertyShrink$OneOf") : mg_UL Y Y_LO_give ⟨"PropertyShrink$Generator", "give", "(LPropertyShrink$Draws;)V"⟩ 35 1 := ⟨bl_LO_give, by rw [h]; exact mg_in 395 (by decide +kernel) (by decide +kernel), mg_in 351 (by decide +kernel) (by decide +kernel), mg_in 413 (by decide +kernel) (by decide +kernel), mg_in 388 (by decide +kernel) (by decide +kernel), by decide +kernel, by decide +kernel, by decide +kernel, by decide +kernel⟩
theorem ul_OO_35_PO {Y : mg_Y} (h : mg_own Y = "PropertyShrink$OneOf") : mg_UL Y Y_PO_give ⟨"PropertyShrink$Generator", "give", "(LPropertyShrink$Draws;)V"⟩ 35 1 := ⟨bl_PO_give, by rw [h]; exact mg_in 395 (by decide +kernel) (by decide +kernel), mg_in 351 (by decide +kernel) (by decide +kernel), mg_in 415 (by decide +kernel) (by decide +kernel), mg_in 396 (by decide +kernel) (by decide +kernel), by decide +kernel, by decide +kernel, by decide +kernel, by decide +kernel⟩
theorem ul_OO_35_OO {Y : mg_Y} (h : mg_own Y = "PropertyShrink$OneOf") : mg_UL Y Y_OO_give ⟨"PropertyShrink$Generator", "give", "(LPropertyShrink$Draws;)V"⟩ 35 1 := ⟨bl_OO_give, by rw [h]; exact mg_in 395 (by decide +kernel) (by decide +kernel), mg_in 351 (by decide +kernel) (by decide +kernel), mg_in 414 (by decide +kernel) (by decide +kernel), mg_in 392 (by decide +kernel) (by decide +kernel), by decide +kernel, by decide +kernel, by decide +kernel, by decide +kernel⟩
theorem ul_OO_35_KO {Y : mg_Y} (h : mg_own Y = "PropertyShrink$OneOf") : mg_UL Y Y_KO_give ⟨"PropertyShrink$Generator", "give", "(LPropertyShrink$Draws;)V"⟩ 35 1 := ⟨bl_KO_give, by rw [h]; exact mg_in 395 (by decide +kernel) (by decide +kernel), mg_in 351 (by decide +kernel) (by decide +kernel), mg_in 412 (by decide +kernel) (by decide +kernel), mg_in 383 (by decide +kernel) (by decide +kernel), by decide +kernel, by decide +kernel, by decide +kernel, by decide +kernel⟩
theorem ul_OO_35_AT {Y : mg_Y} (h : mg_own Y = "PropertyShrink$OneOf") : mg_UL Y Y_AT_give ⟨"PropertyShrink$Generator", "give", "(LPropertyShrink$Draws;)V"⟩ 35 1 := ⟨bl_AT_give, by rw [h]; exact mg_in 395 (by decide +kernel) (by decide +kernel), mg_in 351 (by decide +kernel) (by decide +kernel), mg_in 352 (by decide +kernel) (by decide +kernel), mg_in 353 (by decide +kernel) (by decide +kernel), by decide +kernel, by decide +kernel, by decide +kernel, by decide +kernel⟩
theorem ml_PO_7 : Cond.methodLink "PropertyShrink$PairOf" 7 Lib.Math.max.name ∈ mg_GT := mg_in 255 (by decide +kernel) (by decide +kernel)
theorem il_PO_13 {Y : mg_Y} (h : mg_own Y = "PropertyShrink$PairOf") : mg_IL Y Y_Ge_init 13 1 := ⟨bl_Ge_init, by unfold mg_KL; rw [h]; exact Or.inl (mg_in 258 (by decide +kernel) (by decide +kernel)), mg_in 182 (by decide +kernel) (by decide +kernel), rfl, rfl⟩
theorem ul_PO_26_IR {Y : mg_Y} (h : mg_own Y = "PropertyShrink$PairOf") : mg_UL Y Y_IR_give ⟨"PropertyShrink$Generator", "give", "(LPropertyShrink$Draws;)V"⟩ 26 1 := ⟨bl_IR_give, by rw [h]; exact mg_in 398 (by decide +kernel) (by decide +kernel), mg_in 351 (by decide +kernel) (by decide +kernel), mg_in 411 (by decide +kernel) (by decide +kernel), mg_in 360 (by decide +kernel) (by decide +kernel), by decide +kernel, by decide +kernel, by decide +kernel, by decide +kernel⟩
theorem ul_PO_26_LO {Y : mg_Y} (h : mg_own Y = "PropertyShrink$PairOf") : mg_UL Y Y_LO_give ⟨"PropertyShrink$Generator", "give", "(LPropertyShrink$Draws;)V"⟩ 26 1 := ⟨bl_LO_give, by rw [h]; exact mg_in 398 (by decide +kernel) (by decide +kernel), mg_in 351 (by decide +kernel) (by decide +kernel), mg_in 413 (by decide +kernel) (by decide +kernel), mg_in 388 (by decide +kernel) (by decide +kernel), by decide +kernel, by decide +kernel, by decide +kernel, by decide +kernel⟩
theorem ul_PO_26_PO {Y : mg_Y} (h : mg_own Y = "PropertyShrink$PairOf") : mg_UL Y Y_PO_give ⟨"PropertyShrink$Generator", "give", "(LPropertyShrink$Draws;)V"⟩ 26 1 := ⟨bl_PO_give, by rw [h]; exact mg_in 398 (by decide +kernel) (by decide +kernel), mg_in 351 (by decide +kernel) (by decide +kernel), mg_in 415 (by decide +kernel) (by decide +kernel), mg_in 396 (by decide +kernel) (by decide +kernel), by decide +kernel, by decide +kernel, by decide +kernel, by decide +kernel⟩
theorem ul_PO_26_OO {Y : mg_Y} (h : mg_own Y = "PropertyShrink$PairOf") : mg_UL Y Y_OO_give ⟨"PropertyShrink$Generator", "give", "(LPropertyShrink$Draws;)V"⟩ 26 1 := ⟨bl_OO_give, by rw [h]; exact mg_in 398 (by decide +kernel) (by decide +kernel), mg_in 351 (by decide +kernel) (by decide +kernel), mg_in 414 (by decide +kernel) (by decide +kernel), mg_in 392 (by decide +kernel) (by decide +kernel), by decide +kernel, by decide +kernel, by decide +kernel, by decide +kernel⟩
theorem ul_PO_26_KO {Y : mg_Y} (h : mg_own Y = "PropertyShrink$PairOf") : mg_UL Y Y_KO_give ⟨"PropertyShrink$Generator", "give", "(LPropertyShrink$Draws;)V"⟩ 26 1 := ⟨bl_KO_give, by rw [h]; exact mg_in 398 (by decide +kernel) (by decide +kernel), mg_in 351 (by decide +kernel) (by decide +kernel), mg_in 412 (by decide +kernel) (by decide +kernel), mg_in 383 (by decide +kernel) (by decide +kernel), by decide +kernel, by decide +kernel, by decide +kernel, by decide +kernel⟩
theorem ul_PO_26_AT {Y : mg_Y} (h : mg_own Y = "PropertyShrink$PairOf") : mg_UL Y Y_AT_give ⟨"PropertyShrink$Generator", "give", "(LPropertyShrink$Draws;)V"⟩ 26 1 := ⟨bl_AT_give, by rw [h]; exact mg_in 398 (by decide +kernel) (by decide +kernel), mg_in 351 (by decide +kernel) (by decide +kernel), mg_in 352 (by decide +kernel) (by decide +kernel), mg_in 353 (by decide +kernel) (by decide +kernel), by decide +kernel, by decide +kernel, by decide +kernel, by decide +kernel⟩
theorem ol_Pr_3 : Cond.methodLink "PropertyShrink$Property" 3 Lib.objectInit ∈ mg_GT := mg_in 290 (by decide +kernel) (by decide +kernel)
theorem vl_Pr_21 {Y : mg_Y} (h : mg_own Y = "PropertyShrink$Property") : mg_VL Y Y_In_length 21 0 := ⟨bl_In_length, by unfold mg_KL; rw [h]; exact Or.inl (mg_in 424 (by decide +kernel) (by decide +kernel)), mg_in 356 (by decide +kernel) (by decide +kernel), mg_in 357 (by decide +kernel) (by decide +kernel)⟩
theorem vl_Pr_27 {Y : mg_Y} (h : mg_own Y = "PropertyShrink$Property") : mg_VL Y Y_In_totalFrom 27 1 := ⟨bl_In_totalFrom, by unfold mg_KL; rw [h]; exact Or.inl (mg_in 425 (by decide +kernel) (by decide +kernel)), mg_in 400 (by decide +kernel) (by decide +kernel), mg_in 401 (by decide +kernel) (by decide +kernel)⟩
theorem vl_Pr_31 {Y : mg_Y} (h : mg_own Y = "PropertyShrink$Property") : mg_VL Y Y_In_has 31 1 := ⟨bl_In_has, by unfold mg_KL; rw [h]; exact Or.inl (mg_in 426 (by decide +kernel) (by decide +kernel)), mg_in 427 (by decide +kernel) (by decide +kernel), mg_in 428 (by decide +kernel) (by decide +kernel)⟩
theorem vl_Pr_35 {Y : mg_Y} (h : mg_own Y = "PropertyShrink$Property") : mg_VL Y Y_In_falls 35 0 := ⟨bl_In_falls, by unfold mg_KL; rw [h]; exact Or.inl (mg_in 430 (by decide +kernel) (by decide +kernel)), mg_in 431 (by decide +kernel) (by decide +kernel), mg_in 432 (by decide +kernel) (by decide +kernel)⟩
theorem il_La_9 {Y : mg_Y} (h : mg_own Y = "PropertyShrinkLaw") : mg_IL Y Y_PS_init 9 0 := ⟨bl_PS_init, by unfold mg_KL; rw [h]; exact Or.inl (mg_in 48 (by decide +kernel) (by decide +kernel)), mg_in 49 (by decide +kernel) (by decide +kernel), rfl, rfl⟩
theorem il_La_12 {Y : mg_Y} (h : mg_own Y = "PropertyShrinkLaw") : mg_IL Y Y_Mo_init 12 0 := ⟨bl_Mo_init, by unfold mg_KL; rw [h]; exact Or.inl (mg_in 563 (by decide +kernel) (by decide +kernel)), mg_in 564 (by decide +kernel) (by decide +kernel), rfl, rfl⟩
theorem vl_La_13 {Y : mg_Y} (h : mg_own Y = "PropertyShrinkLaw") : mg_VL Y Y_PS_generator 13 3 := ⟨bl_PS_generator, by unfold mg_KL; rw [h]; exact Or.inl (mg_in 165 (by decide +kernel) (by decide +kernel)), mg_in 166 (by decide +kernel) (by decide +kernel), mg_in 167 (by decide +kernel) (by decide +kernel)⟩
theorem vl_La_17 {Y : mg_Y} (h : mg_own Y = "PropertyShrinkLaw") : mg_VL Y Y_Mo_generator 17 3 := ⟨bl_Mo_generator, by unfold mg_KL; rw [h]; exact Or.inl (mg_in 697 (by decide +kernel) (by decide +kernel)), mg_in 698 (by decide +kernel) (by decide +kernel), mg_in 699 (by decide +kernel) (by decide +kernel)⟩
theorem vl_La_18 {Y : mg_Y} (h : mg_own Y = "PropertyShrinkLaw") : mg_VL Y Y_PS_property 18 3 := ⟨bl_PS_property, by unfold mg_KL; rw [h]; exact Or.inl (mg_in 282 (by decide +kernel) (by decide +kernel)), mg_in 283 (by decide +kernel) (by decide +kernel), mg_in 284 (by decide +kernel) (by decide +kernel)⟩
theorem vl_La_21 {Y : mg_Y} (h : mg_own Y = "PropertyShrinkLaw") : mg_VL Y Y_Mo_property 21 3 := ⟨bl_Mo_property, by unfold mg_KL; rw [h]; exact Or.inl (mg_in 708 (by decide +kernel) (by decide +kernel)), mg_in 709 (by decide +kernel) (by decide +kernel), mg_in 710 (by decide +kernel) (by decide +kernel)⟩
theorem vl_La_24 {Y : mg_Y} (h : mg_own Y = "PropertyShrinkLaw") : mg_VL Y Y_PS_check 24 4 := ⟨bl_PS_check, by unfold mg_KL; rw [h]; exact Or.inl (mg_in 301 (by decide +kernel) (by decide +kernel)), mg_in 302 (by decide +kernel) (by decide +kernel), mg_in 303 (by decide +kernel) (by decide +kernel)⟩
theorem vl_La_28 {Y : mg_Y} (h : mg_own Y = "PropertyShrinkLaw") : mg_VL Y Y_Mo_check 28 4 := ⟨bl_Mo_check, by unfold mg_KL; rw [h]; exact Or.inl (mg_in 712 (by decide +kernel) (by decide +kernel)), mg_in 713 (by decide +kernel) (by decide +kernel), mg_in 714 (by decide +kernel) (by decide +kernel)⟩
theorem vl_La_29 {Y : mg_Y} (h : mg_own Y = "PropertyShrinkLaw") : mg_VL Y Y_PS_shrink 29 1 := ⟨bl_PS_shrink, by unfold mg_KL; rw [h]; exact Or.inl (mg_in 484 (by decide +kernel) (by decide +kernel)), mg_in 485 (by decide +kernel) (by decide +kernel), mg_in 486 (by decide +kernel) (by decide +kernel)⟩
theorem vl_La_33 {Y : mg_Y} (h : mg_own Y = "PropertyShrinkLaw") : mg_VL Y Y_Mo_shrink 33 1 := ⟨bl_Mo_shrink, by unfold mg_KL; rw [h]; exact Or.inl (mg_in 761 (by decide +kernel) (by decide +kernel)), mg_in 762 (by decide +kernel) (by decide +kernel), mg_in 763 (by decide +kernel) (by decide +kernel)⟩
theorem vl_La_34 {Y : mg_Y} (h : mg_own Y = "PropertyShrinkLaw") : mg_VL Y Y_PS_least 34 0 := ⟨bl_PS_least, by unfold mg_KL; rw [h]; exact Or.inl (mg_in 513 (by decide +kernel) (by decide +kernel)), mg_in 514 (by decide +kernel) (by decide +kernel), mg_in 515 (by decide +kernel) (by decide +kernel)⟩
theorem vl_La_38 {Y : mg_Y} (h : mg_own Y = "PropertyShrinkLaw") : mg_VL Y Y_Mo_least 38 0 := ⟨bl_Mo_least, by unfold mg_KL; rw [h]; exact Or.inl (mg_in 777 (by decide +kernel) (by decide +kernel)), mg_in 778 (by decide +kernel) (by decide +kernel), mg_in 779 (by decide +kernel) (by decide +kernel)⟩
theorem vl_La_39 {Y : mg_Y} (h : mg_own Y = "PropertyShrinkLaw") : mg_VL Y Y_PS_replay 39 2 := ⟨bl_PS_replay, by unfold mg_KL; rw [h]; exact Or.inl (mg_in 517 (by decide +kernel) (by decide +kernel)), mg_in 518 (by decide +kernel) (by decide +kernel), mg_in 519 (by decide +kernel) (by decide +kernel)⟩
theorem vl_La_43 {Y : mg_Y} (h : mg_own Y = "PropertyShrinkLaw") : mg_VL Y Y_Mo_replay 43 2 := ⟨bl_Mo_replay, by unfold mg_KL; rw [h]; exact Or.inl (mg_in 785 (by decide +kernel) (by decide +kernel)), mg_in 786 (by decide +kernel) (by decide +kernel), mg_in 787 (by decide +kernel) (by decide +kernel)⟩
theorem vl_La_44 {Y : mg_Y} (h : mg_own Y = "PropertyShrinkLaw") : mg_VL Y Y_PS_put 44 1 := ⟨bl_PS_put, by unfold mg_KL; rw [h]; exact Or.inl (mg_in 522 (by decide +kernel) (by decide +kernel)), mg_in 523 (by decide +kernel) (by decide +kernel), mg_in 524 (by decide +kernel) (by decide +kernel)⟩
theorem vl_La_48 {Y : mg_Y} (h : mg_own Y = "PropertyShrinkLaw") : mg_VL Y Y_Mo_put 48 1 := ⟨bl_Mo_put, by unfold mg_KL; rw [h]; exact Or.inl (mg_in 781 (by decide +kernel) (by decide +kernel)), mg_in 782 (by decide +kernel) (by decide +kernel), mg_in 783 (by decide +kernel) (by decide +kernel)⟩
theorem vl_La_49 {Y : mg_Y} (h : mg_own Y = "PropertyShrinkLaw") : mg_VL Y Y_PS_choice 49 1 := ⟨bl_PS_choice, by unfold mg_KL; rw [h]; exact Or.inl (mg_in 527 (by decide +kernel) (by decide +kernel)), mg_in 528 (by decide +kernel) (by decide +kernel), mg_in 529 (by decide +kernel) (by decide +kernel)⟩
theorem vl_La_52 {Y : mg_Y} (h : mg_own Y = "PropertyShrinkLaw") : mg_VL Y Y_Mo_choice 52 1 := ⟨bl_Mo_choice, by unfold mg_KL; rw [h]; exact Or.inl (mg_in 789 (by decide +kernel) (by decide +kernel)), mg_in 790 (by decide +kernel) (by decide +kernel), mg_in 791 (by decide +kernel) (by decide +kernel)⟩
theorem vl_La_53 {Y : mg_Y} (h : mg_own Y = "PropertyShrinkLaw") : mg_VL Y Y_PS_size 53 1 := ⟨bl_PS_size, by unfold mg_KL; rw [h]; exact Or.inl (mg_in 531 (by decide +kernel) (by decide +kernel)), mg_in 532 (by decide +kernel) (by decide +kernel), mg_in 533 (by decide +kernel) (by decide +kernel)⟩
theorem vl_La_56 {Y : mg_Y} (h : mg_own Y = "PropertyShrinkLaw") : mg_VL Y Y_Mo_size 56 1 := ⟨bl_Mo_size, by unfold mg_KL; rw [h]; exact Or.inl (mg_in 793 (by decide +kernel) (by decide +kernel)), mg_in 794 (by decide +kernel) (by decide +kernel), mg_in 795 (by decide +kernel) (by decide +kernel)⟩
theorem vl_La_57 {Y : mg_Y} (h : mg_own Y = "PropertyShrinkLaw") : mg_VL Y Y_PS_number 57 1 := ⟨bl_PS_number, by unfold mg_KL; rw [h]; exact Or.inl (mg_in 535 (by decide +kernel) (by decide +kernel)), mg_in 536 (by decide +kernel) (by decide +kernel), mg_in 537 (by decide +kernel) (by decide +kernel)⟩
theorem vl_La_60 {Y : mg_Y} (h : mg_own Y = "PropertyShrinkLaw") : mg_VL Y Y_Mo_number 60 1 := ⟨bl_Mo_number, by unfold mg_KL; rw [h]; exact Or.inl (mg_in 797 (by decide +kernel) (by decide +kernel)), mg_in 798 (by decide +kernel) (by decide +kernel), mg_in 799 (by decide +kernel) (by decide +kernel)⟩
theorem vl_La_61 {Y : mg_Y} (h : mg_own Y = "PropertyShrinkLaw") : mg_VL Y Y_PS_all 61 2 := ⟨bl_PS_all, by unfold mg_KL; rw [h]; exact Or.inl (mg_in 539 (by decide +kernel) (by decide +kernel)), mg_in 540 (by decide +kernel) (by decide +kernel), mg_in 541 (by decide +kernel) (by decide +kernel)⟩
theorem vl_La_64 {Y : mg_Y} (h : mg_own Y = "PropertyShrinkLaw") : mg_VL Y Y_Mo_all 64 2 := ⟨bl_Mo_all, by unfold mg_KL; rw [h]; exact Or.inl (mg_in 801 (by decide +kernel) (by decide +kernel)), mg_in 802 (by decide +kernel) (by decide +kernel), mg_in 803 (by decide +kernel) (by decide +kernel)⟩
theorem vl_La_65 {Y : mg_Y} (h : mg_own Y = "PropertyShrinkLaw") : mg_VL Y Y_PS_sum 65 0 := ⟨bl_PS_sum, by unfold mg_KL; rw [h]; exact Or.inl (mg_in 557 (by decide +kernel) (by decide +kernel)), mg_in 558 (by decide +kernel) (by decide +kernel), mg_in 559 (by decide +kernel) (by decide +kernel)⟩
theorem vl_La_69 {Y : mg_Y} (h : mg_own Y = "PropertyShrinkLaw") : mg_VL Y Y_Mo_sum 69 0 := ⟨bl_Mo_sum, by unfold mg_KL; rw [h]; exact Or.inl (mg_in 811 (by decide +kernel) (by decide +kernel)), mg_in 812 (by decide +kernel) (by decide +kernel), mg_in 813 (by decide +kernel) (by decide +kernel)⟩
theorem oi_inst : Cond.instanceMethod Lib.objectInit ∈ mg_GT := mg_in 52 (by decide +kernel) (by decide +kernel)
theorem oi_code : Cond.code Lib.objectInit ⟨#[0xb1]⟩ 1 none ∈ mg_GT := mg_in 53 (by decide +kernel) (by decide +kernel)
theorem mt_max_s : Cond.static Lib.Math.max.name ∈ mg_GT := mg_in 256 (by decide +kernel) (by decide +kernel)
theorem mt_max_c : Cond.code Lib.Math.max.name Lib.Math.max.code 2 (some .int) ∈ mg_GT := mg_in 257 (by decide +kernel) (by decide +kernel)
theorem mt_min_s : Cond.static Lib.Math.min.name ∈ mg_GT := mg_in 346 (by decide +kernel) (by decide +kernel)
theorem mt_min_c : Cond.code Lib.Math.min.name Lib.Math.min.code 2 (some .int) ∈ mg_GT := mg_in 347 (by decide +kernel) (by decide +kernel)
theorem mt_init : Cond.initialized "java/lang/Math" ∈ mg_GT := mg_in 42 (by decide +kernel) (by decide +kernel)
end
section
/-! decode rows -/
theorem d_In_init_0 : decode prog_6_method_1_code 0 = .ok (.aload_n 0, 1) := by decide +kernel
theorem d_In_init_1 : decode prog_6_method_1_code 1 = .ok (.invokespecial 3, 3) := by decide +kernel
theorem d_In_init_4 : decode prog_6_method_1_code 4 = .ok (.aload_n 0, 1) := by decide +kernel
theorem d_In_init_5 : decode prog_6_method_1_code 5 = .ok (.bipush 60, 2) := by decide +kernel
theorem d_In_init_7 : decode prog_6_method_1_code 7 = .ok (.newarray .int, 2) := by decide +kernel
theorem d_In_init_9 : decode prog_6_method_1_code 9 = .ok (.putfield 9, 3) := by decide +kernel
theorem d_In_init_12 : decode prog_6_method_1_code 12 = .ok (.return_, 1) := by decide +kernel
theorem d_Dr_init_0 : decode prog_3_method_1_code 0 = .ok (.aload_n 0, 1) := by decide +kernel
theorem d_Dr_init_1 : decode prog_3_method_1_code 1 = .ok (.invokespecial 3, 3) := by decide +kernel
theorem d_Dr_init_4 : decode prog_3_method_1_code 4 = .ok (.aload_n 0, 1) := by decide +kernel
theorem d_Dr_init_5 : decode prog_3_method_1_code 5 = .ok (.new 9, 3) := by decide +kernel
theorem d_Dr_init_8 : decode prog_3_method_1_code 8 = .ok (.dup, 1) := by decide +kernel
theorem d_Dr_init_9 : decode prog_3_method_1_code 9 = .ok (.invokespecial 11, 3) := by decide +kernel
theorem d_Dr_init_12 : decode prog_3_method_1_code 12 = .ok (.putfield 12, 3) := by decide +kernel
theorem d_Dr_init_15 : decode prog_3_method_1_code 15 = .ok (.aload_n 0, 1) := by decide +kernel
theorem d_Dr_init_16 : decode prog_3_method_1_code 16 = .ok (.new 9, 3) := by decide +kernel
theorem d_Dr_init_19 : decode prog_3_method_1_code 19 = .ok (.dup, 1) := by decide +kernel
theorem d_Dr_init_20 : decode prog_3_method_1_code 20 = .ok (.invokespecial 11, 3) := by decide +kernel
theorem d_Dr_init_23 : decode prog_3_method_1_code 23 = .ok (.putfield 18, 3) := by decide +kernel
theorem d_Dr_init_26 : decode prog_3_method_1_code 26 = .ok (.aload_n 0, 1) := by decide +kernel
theorem d_Dr_init_27 : decode prog_3_method_1_code 27 = .ok (.bipush 60, 2) := by decide +kernel
theorem d_Dr_init_29 : decode prog_3_method_1_code 29 = .ok (.newarray .int, 2) := by decide +kernel
theorem d_Dr_init_31 : decode prog_3_method_1_code 31 = .ok (.putfield 21, 3) := by decide +kernel
theorem d_Dr_init_34 : decode prog_3_method_1_code 34 = .ok (.aload_n 0, 1) := by decide +kernel
theorem d_Dr_init_35 : decode prog_3_method_1_code 35 = .ok (.new 9, 3) := by decide +kernel
theorem d_Dr_init_38 : decode prog_3_method_1_code 38 = .ok (.dup, 1) := by decide +kernel
theorem d_Dr_init_39 : decode prog_3_method_1_code 39 = .ok (.invokespecial 11, 3) := by decide +kernel
theorem d_Dr_init_42 : decode prog_3_method_1_code 42 = .ok (.putfield 25, 3) := by decide +kernel
theorem d_Dr_init_45 : decode prog_3_method_1_code 45 = .ok (.aload_n 0, 1) := by decide +kernel
theorem d_Dr_init_46 : decode prog_3_method_1_code 46 = .ok (.iconst 0, 1) := by decide +kernel
theorem d_Dr_init_47 : decode prog_3_method_1_code 47 = .ok (.putfield 28, 3) := by decide +kernel
theorem d_Dr_init_50 : decode prog_3_method_1_code 50 = .ok (.return_, 1) := by decide +kernel
theorem d_IR_init_0 : decode prog_5_method_1_code 0 = .ok (.aload_n 0, 1) := by decide +kernel
theorem d_IR_init_1 : decode prog_5_method_1_code 1 = .ok (.iconst 1, 1) := by decide +kernel
theorem d_IR_init_2 : decode prog_5_method_1_code 2 = .ok (.invokespecial 1, 3) := by decide +kernel
theorem d_IR_init_5 : decode prog_5_method_1_code 5 = .ok (.aload_n 0, 1) := by decide +kernel
theorem d_IR_init_6 : decode prog_5_method_1_code 6 = .ok (.iload_n 1, 1) := by decide +kernel
theorem d_IR_init_7 : decode prog_5_method_1_code 7 = .ok (.putfield 7, 3) := by decide +kernel
theorem d_IR_init_10 : decode prog_5_method_1_code 10 = .ok (.aload_n 0, 1) := by decide +kernel
theorem d_IR_init_11 : decode prog_5_method_1_code 11 = .ok (.iload_n 2, 1) := by decide +kernel
theorem d_IR_init_12 : decode prog_5_method_1_code 12 = .ok (.putfield 13, 3) := by decide +kernel
theorem d_IR_init_15 : decode prog_5_method_1_code 15 = .ok (.return_, 1) := by decide +kernel
theorem d_Ge_init_0 : decode prog_4_method_1_code 0 = .ok (.aload_n 0, 1) := by decide +kernel
theorem d_Ge_init_1 : decode prog_4_method_1_code 1 = .ok (.invokespecial 1, 3) := by decide +kernel
theorem d_Ge_init_4 : decode prog_4_method_1_code 4 = .ok (.aload_n 0, 1) := by decide +kernel
theorem d_Ge_init_5 : decode prog_4_method_1_code 5 = .ok (.iload_n 1, 1) := by decide +kernel
theorem d_Ge_init_6 : decode prog_4_method_1_code 6 = .ok (.putfield 7, 3) := by decide +kernel
theorem d_Ge_init_9 : decode prog_4_method_1_code 9 = .ok (.return_, 1) := by decide +kernel
theorem d_LO_init_0 : decode prog_9_method_1_code 0 = .ok (.aload_n 0, 1) := by decide +kernel
theorem d_LO_init_1 : decode prog_9_method_1_code 1 = .ok (.aload_n 1, 1) := by decide +kernel
theorem d_LO_init_2 : decode prog_9_method_1_code 2 = .ok (.getfield 1, 3) := by decide +kernel
theorem d_LO_init_5 : decode prog_9_method_1_code 5 = .ok (.iconst 1, 1) := by decide +kernel
theorem d_LO_init_6 : decode prog_9_method_1_code 6 = .ok (.iadd, 1) := by decide +kernel
theorem d_LO_init_7 : decode prog_9_method_1_code 7 = .ok (.invokespecial 7, 3) := by decide +kernel
theorem d_LO_init_10 : decode prog_9_method_1_code 10 = .ok (.aload_n 0, 1) := by decide +kernel
theorem d_LO_init_11 : decode prog_9_method_1_code 11 = .ok (.aload_n 1, 1) := by decide +kernel
theorem d_LO_init_12 : decode prog_9_method_1_code 12 = .ok (.putfield 11, 3) := by decide +kernel
theorem d_LO_init_15 : decode prog_9_method_1_code 15 = .ok (.aload_n 0, 1) := by decide +kernel
theorem d_LO_init_16 : decode prog_9_method_1_code 16 = .ok (.iload_n 2, 1) := by decide +kernel
theorem d_LO_init_17 : decode prog_9_method_1_code 17 = .ok (.putfield 17, 3) := by decide +kernel
theorem d_LO_init_20 : decode prog_9_method_1_code 20 = .ok (.return_, 1) := by decide +kernel
theorem d_KO_init_0 : decode prog_7_method_1_code 0 = .ok (.aload_n 0, 1) := by decide +kernel
theorem d_KO_init_1 : decode prog_7_method_1_code 1 = .ok (.aload_n 1, 1) := by decide +kernel
theorem d_KO_init_2 : decode prog_7_method_1_code 2 = .ok (.getfield 3, 3) := by decide +kernel
theorem d_KO_init_5 : decode prog_7_method_1_code 5 = .ok (.iconst 1, 1) := by decide +kernel
theorem d_KO_init_6 : decode prog_7_method_1_code 6 = .ok (.iadd, 1) := by decide +kernel
theorem d_KO_init_7 : decode prog_7_method_1_code 7 = .ok (.invokespecial 9, 3) := by decide +kernel
theorem d_KO_init_10 : decode prog_7_method_1_code 10 = .ok (.aload_n 0, 1) := by decide +kernel
theorem d_KO_init_11 : decode prog_7_method_1_code 11 = .ok (.aload_n 1, 1) := by decide +kernel
theorem d_KO_init_12 : decode prog_7_method_1_code 12 = .ok (.putfield 13, 3) := by decide +kernel
theorem d_KO_init_15 : decode prog_7_method_1_code 15 = .ok (.aload_n 0, 1) := by decide +kernel
theorem d_KO_init_16 : decode prog_7_method_1_code 16 = .ok (.iload_n 2, 1) := by decide +kernel
theorem d_KO_init_17 : decode prog_7_method_1_code 17 = .ok (.putfield 19, 3) := by decide +kernel
theorem d_KO_init_20 : decode prog_7_method_1_code 20 = .ok (.return_, 1) := by decide +kernel
theorem d_AT_init_0 : decode prog_2_method_1_code 0 = .ok (.aload_n 0, 1) := by decide +kernel
theorem d_AT_init_1 : decode prog_2_method_1_code 1 = .ok (.aload_n 1, 1) := by decide +kernel
theorem d_AT_init_2 : decode prog_2_method_1_code 2 = .ok (.getfield 1, 3) := by decide +kernel
theorem d_AT_init_5 : decode prog_2_method_1_code 5 = .ok (.iconst 1, 1) := by decide +kernel
theorem d_AT_init_6 : decode prog_2_method_1_code 6 = .ok (.iadd, 1) := by decide +kernel
theorem d_AT_init_7 : decode prog_2_method_1_code 7 = .ok (.invokespecial 7, 3) := by decide +kernel
theorem d_AT_init_10 : decode prog_2_method_1_code 10 = .ok (.aload_n 0, 1) := by decide +kernel
theorem d_AT_init_11 : decode prog_2_method_1_code 11 = .ok (.aload_n 1, 1) := by decide +kernel
theorem d_AT_init_12 : decode prog_2_method_1_code 12 = .ok (.putfield 11, 3) := by decide +kernel
theorem d_AT_init_15 : decode prog_2_method_1_code 15 = .ok (.aload_n 0, 1) := by decide +kernel
theorem d_AT_init_16 : decode prog_2_method_1_code 16 = .ok (.iload_n 2, 1) := by decide +kernel
theorem d_AT_init_17 : decode prog_2_method_1_code 17 = .ok (.putfield 17, 3) := by decide +kernel
theorem d_AT_init_20 : decode prog_2_method_1_code 20 = .ok (.return_, 1) := by decide +kernel
theorem d_PO_init_0 : decode prog_11_method_1_code 0 = .ok (.aload_n 0, 1) := by decide +kernel
theorem d_PO_init_1 : decode prog_11_method_1_code 1 = .ok (.aload_n 1, 1) := by decide +kernel
theorem d_PO_init_2 : decode prog_11_method_1_code 2 = .ok (.getfield 1, 3) := by decide +kernel
theorem d_PO_init_5 : decode prog_11_method_1_code 5 = .ok (.aload_n 2, 1) := by decide +kernel
theorem d_PO_init_6 : decode prog_11_method_1_code 6 = .ok (.getfield 1, 3) := by decide +kernel
theorem d_PO_init_9 : decode prog_11_method_1_code 9 = .ok (.invokestatic 7, 3) := by decide +kernel
theorem d_PO_init_12 : decode prog_11_method_1_code 12 = .ok (.iconst 1, 1) := by decide +kernel
theorem d_PO_init_13 : decode prog_11_method_1_code 13 = .ok (.iadd, 1) := by decide +kernel
theorem d_PO_init_14 : decode prog_11_method_1_code 14 = .ok (.invokespecial 13, 3) := by decide +kernel
theorem d_PO_init_17 : decode prog_11_method_1_code 17 = .ok (.aload_n 0, 1) := by decide +kernel
theorem d_PO_init_18 : decode prog_11_method_1_code 18 = .ok (.aload_n 1, 1) := by decide +kernel
theorem d_PO_init_19 : decode prog_11_method_1_code 19 = .ok (.putfield 17, 3) := by decide +kernel
theorem d_PO_init_22 : decode prog_11_method_1_code 22 = .ok (.aload_n 0, 1) := by decide +kernel
theorem d_PO_init_23 : decode prog_11_method_1_code 23 = .ok (.aload_n 2, 1) := by decide +kernel
theorem d_PO_init_24 : decode prog_11_method_1_code 24 = .ok (.putfield 23, 3) := by decide +kernel
theorem d_PO_init_27 : decode prog_11_method_1_code 27 = .ok (.return_, 1) := by decide +kernel
theorem d_OO_init_0 : decode prog_10_method_1_code 0 = .ok (.aload_n 0, 1) := by decide +kernel
theorem d_OO_init_1 : decode prog_10_method_1_code 1 = .ok (.aload_n 1, 1) := by decide +kernel
theorem d_OO_init_2 : decode prog_10_method_1_code 2 = .ok (.getfield 1, 3) := by decide +kernel
theorem d_OO_init_5 : decode prog_10_method_1_code 5 = .ok (.aload_n 2, 1) := by decide +kernel
theorem d_OO_init_6 : decode prog_10_method_1_code 6 = .ok (.getfield 1, 3) := by decide +kernel
theorem d_OO_init_9 : decode prog_10_method_1_code 9 = .ok (.invokestatic 7, 3) := by decide +kernel
theorem d_OO_init_12 : decode prog_10_method_1_code 12 = .ok (.iconst 1, 1) := by decide +kernel
theorem d_OO_init_13 : decode prog_10_method_1_code 13 = .ok (.iadd, 1) := by decide +kernel
theorem d_OO_init_14 : decode prog_10_method_1_code 14 = .ok (.invokespecial 13, 3) := by decide +kernel
theorem d_OO_init_17 : decode prog_10_method_1_code 17 = .ok (.aload_n 0, 1) := by decide +kernel
theorem d_OO_init_18 : decode prog_10_method_1_code 18 = .ok (.aload_n 1, 1) := by decide +kernel
theorem d_OO_init_19 : decode prog_10_method_1_code 19 = .ok (.putfield 17, 3) := by decide +kernel
theorem d_OO_init_22 : decode prog_10_method_1_code 22 = .ok (.aload_n 0, 1) := by decide +kernel
theorem d_OO_init_23 : decode prog_10_method_1_code 23 = .ok (.aload_n 2, 1) := by decide +kernel
theorem d_OO_init_24 : decode prog_10_method_1_code 24 = .ok (.putfield 23, 3) := by decide +kernel
theorem d_OO_init_27 : decode prog_10_method_1_code 27 = .ok (.return_, 1) := by decide +kernel
theorem d_Pr_init_0 : decode prog_12_method_1_code 0 = .ok (.aload_n 0, 1) := by decide +kernel
theorem d_Pr_init_1 : decode prog_12_method_1_code 1 = .ok (.invokespecial 3, 3) := by decide +kernel
theorem d_Pr_init_4 : decode prog_12_method_1_code 4 = .ok (.aload_n 0, 1) := by decide +kernel
theorem d_Pr_init_5 : decode prog_12_method_1_code 5 = .ok (.iload_n 1, 1) := by decide +kernel
theorem d_Pr_init_6 : decode prog_12_method_1_code 6 = .ok (.putfield 9, 3) := by decide +kernel
theorem d_Pr_init_9 : decode prog_12_method_1_code 9 = .ok (.aload_n 0, 1) := by decide +kernel
theorem d_Pr_init_10 : decode prog_12_method_1_code 10 = .ok (.iload_n 2, 1) := by decide +kernel
theorem d_Pr_init_11 : decode prog_12_method_1_code 11 = .ok (.putfield 15, 3) := by decide +kernel
theorem d_Pr_init_14 : decode prog_12_method_1_code 14 = .ok (.aload_n 0, 1) := by decide +kernel
theorem d_Pr_init_15 : decode prog_12_method_1_code 15 = .ok (.iload_n 3, 1) := by decide +kernel
theorem d_Pr_init_16 : decode prog_12_method_1_code 16 = .ok (.putfield 18, 3) := by decide +kernel
theorem d_Pr_init_19 : decode prog_12_method_1_code 19 = .ok (.return_, 1) := by decide +kernel
theorem d_Dr_beginRow_0 : decode prog_3_method_3_code 0 = .ok (.aload_n 0, 1) := by decide +kernel
theorem d_Dr_beginRow_1 : decode prog_3_method_3_code 1 = .ok (.getfield 25, 3) := by decide +kernel
theorem d_Dr_beginRow_4 : decode prog_3_method_3_code 4 = .ok (.aload_n 1, 1) := by decide +kernel
theorem d_Dr_beginRow_5 : decode prog_3_method_3_code 5 = .ok (.invokevirtual 40, 3) := by decide +kernel
theorem d_Dr_beginRow_8 : decode prog_3_method_3_code 8 = .ok (.aload_n 0, 1) := by decide +kernel
theorem d_Dr_beginRow_9 : decode prog_3_method_3_code 9 = .ok (.iconst 0, 1) := by decide +kernel
theorem d_Dr_beginRow_10 : decode prog_3_method_3_code 10 = .ok (.invokevirtual 44, 3) := by decide +kernel
theorem d_Dr_beginRow_13 : decode prog_3_method_3_code 13 = .ok (.return_, 1) := by decide +kernel
theorem d_In_copyFrom_0 : decode prog_6_method_7_code 0 = .ok (.aload_n 0, 1) := by decide +kernel
theorem d_In_copyFrom_1 : decode prog_6_method_7_code 1 = .ok (.aload_n 1, 1) := by decide +kernel
theorem d_In_copyFrom_2 : decode prog_6_method_7_code 2 = .ok (.iconst 0, 1) := by decide +kernel
theorem d_In_copyFrom_3 : decode prog_6_method_7_code 3 = .ok (.iconst 0, 1) := by decide +kernel
theorem d_In_copyFrom_4 : decode prog_6_method_7_code 4 = .ok (.invokevirtual 28, 3) := by decide +kernel
theorem d_In_copyFrom_7 : decode prog_6_method_7_code 7 = .ok (.return_, 1) := by decide +kernel
theorem d_In_copyWithout_0 : decode prog_6_method_8_code 0 = .ok (.aload_n 0, 1) := by decide +kernel
theorem d_In_copyWithout_1 : decode prog_6_method_8_code 1 = .ok (.iconst 0, 1) := by decide +kernel
theorem d_In_copyWithout_2 : decode prog_6_method_8_code 2 = .ok (.putfield 15, 3) := by decide +kernel
theorem d_In_copyWithout_5 : decode prog_6_method_8_code 5 = .ok (.iconst 0, 1) := by decide +kernel
theorem d_In_copyWithout_6 : decode prog_6_method_8_code 6 = .ok (.istore 4, 2) := by decide +kernel
theorem d_In_copyWithout_8 : decode prog_6_method_8_code 8 = .ok (.iload 4, 2) := by decide +kernel
theorem d_In_copyWithout_10 : decode prog_6_method_8_code 10 = .ok (.aload_n 1, 1) := by decide +kernel
theorem d_In_copyWithout_11 : decode prog_6_method_8_code 11 = .ok (.getfield 15, 3) := by decide +kernel
theorem d_In_copyWithout_14 : decode prog_6_method_8_code 14 = .ok (.if_icmp .ge 35, 3) := by decide +kernel
theorem d_In_copyWithout_17 : decode prog_6_method_8_code 17 = .ok (.iload 4, 2) := by decide +kernel
theorem d_In_copyWithout_19 : decode prog_6_method_8_code 19 = .ok (.iload_n 2, 1) := by decide +kernel
theorem d_In_copyWithout_20 : decode prog_6_method_8_code 20 = .ok (.if_icmp .lt 11, 3) := by decide +kernel
theorem d_In_copyWithout_23 : decode prog_6_method_8_code 23 = .ok (.iload 4, 2) := by decide +kernel
theorem d_In_copyWithout_25 : decode prog_6_method_8_code 25 = .ok (.iload_n 2, 1) := by decide +kernel
theorem d_In_copyWithout_26 : decode prog_6_method_8_code 26 = .ok (.iload_n 3, 1) := by decide +kernel
theorem d_In_copyWithout_27 : decode prog_6_method_8_code 27 = .ok (.iadd, 1) := by decide +kernel
theorem d_In_copyWithout_28 : decode prog_6_method_8_code 28 = .ok (.if_icmp .lt 15, 3) := by decide +kernel
theorem d_In_copyWithout_31 : decode prog_6_method_8_code 31 = .ok (.aload_n 0, 1) := by decide +kernel
theorem d_In_copyWithout_32 : decode prog_6_method_8_code 32 = .ok (.aload_n 1, 1) := by decide +kernel
theorem d_In_copyWithout_33 : decode prog_6_method_8_code 33 = .ok (.iload 4, 2) := by decide +kernel
theorem d_In_copyWithout_35 : decode prog_6_method_8_code 35 = .ok (.iconst 0, 1) := by decide +kernel
theorem d_In_copyWithout_36 : decode prog_6_method_8_code 36 = .ok (.invokevirtual 32, 3) := by decide +kernel
theorem d_In_copyWithout_39 : decode prog_6_method_8_code 39 = .ok (.invokevirtual 35, 3) := by decide +kernel
theorem d_In_copyWithout_42 : decode prog_6_method_8_code 42 = .ok (.pop, 1) := by decide +kernel
theorem d_In_copyWithout_43 : decode prog_6_method_8_code 43 = .ok (.iinc 4 1, 3) := by decide +kernel
theorem d_In_copyWithout_46 : decode prog_6_method_8_code 46 = .ok (.goto (-38), 3) := by decide +kernel
theorem d_In_copyWithout_49 : decode prog_6_method_8_code 49 = .ok (.return_, 1) := by decide +kernel
theorem d_In_at_0 : decode prog_6_method_3_code 0 = .ok (.iload_n 1, 1) := by decide +kernel
theorem d_In_at_1 : decode prog_6_method_3_code 1 = .ok (.ifCond .lt 29, 3) := by decide +kernel
theorem d_In_at_4 : decode prog_6_method_3_code 4 = .ok (.iload_n 1, 1) := by decide +kernel
theorem d_In_at_5 : decode prog_6_method_3_code 5 = .ok (.aload_n 0, 1) := by decide +kernel
theorem d_In_at_6 : decode prog_6_method_3_code 6 = .ok (.getfield 15, 3) := by decide +kernel
theorem d_In_at_9 : decode prog_6_method_3_code 9 = .ok (.if_icmp .ge 21, 3) := by decide +kernel
theorem d_In_at_12 : decode prog_6_method_3_code 12 = .ok (.iload_n 1, 1) := by decide +kernel
theorem d_In_at_13 : decode prog_6_method_3_code 13 = .ok (.aload_n 0, 1) := by decide +kernel
theorem d_In_at_14 : decode prog_6_method_3_code 14 = .ok (.getfield 9, 3) := by decide +kernel
theorem d_In_at_17 : decode prog_6_method_3_code 17 = .ok (.arraylength, 1) := by decide +kernel
theorem d_In_at_18 : decode prog_6_method_3_code 18 = .ok (.if_icmp .ge 12, 3) := by decide +kernel
theorem d_In_at_21 : decode prog_6_method_3_code 21 = .ok (.aload_n 0, 1) := by decide +kernel
theorem d_In_at_22 : decode prog_6_method_3_code 22 = .ok (.getfield 9, 3) := by decide +kernel
theorem d_In_at_25 : decode prog_6_method_3_code 25 = .ok (.iload_n 1, 1) := by decide +kernel
theorem d_In_at_26 : decode prog_6_method_3_code 26 = .ok (.iaload, 1) := by decide +kernel
theorem d_In_at_27 : decode prog_6_method_3_code 27 = .ok (.goto 4, 3) := by decide +kernel
theorem d_In_at_30 : decode prog_6_method_3_code 30 = .ok (.iload_n 2, 1) := by decide +kernel
theorem d_In_at_31 : decode prog_6_method_3_code 31 = .ok (.ireturn, 1) := by decide +kernel
theorem d_In_add_0 : decode prog_6_method_5_code 0 = .ok (.aload_n 0, 1) := by decide +kernel
theorem d_In_add_1 : decode prog_6_method_5_code 1 = .ok (.getfield 15, 3) := by decide +kernel
theorem d_In_add_4 : decode prog_6_method_5_code 4 = .ok (.ifCond .lt 15, 3) := by decide +kernel
theorem d_In_add_7 : decode prog_6_method_5_code 7 = .ok (.aload_n 0, 1) := by decide +kernel
theorem d_In_add_8 : decode prog_6_method_5_code 8 = .ok (.getfield 15, 3) := by decide +kernel
theorem d_In_add_11 : decode prog_6_method_5_code 11 = .ok (.aload_n 0, 1) := by decide +kernel
theorem d_In_add_12 : decode prog_6_method_5_code 12 = .ok (.getfield 9, 3) := by decide +kernel
theorem d_In_add_15 : decode prog_6_method_5_code 15 = .ok (.arraylength, 1) := by decide +kernel
theorem d_In_add_16 : decode prog_6_method_5_code 16 = .ok (.if_icmp .lt 5, 3) := by decide +kernel
theorem d_In_add_19 : decode prog_6_method_5_code 19 = .ok (.iconst 0, 1) := by decide +kernel
theorem d_In_add_20 : decode prog_6_method_5_code 20 = .ok (.ireturn, 1) := by decide +kernel
theorem d_In_add_21 : decode prog_6_method_5_code 21 = .ok (.aload_n 0, 1) := by decide +kernel
theorem d_In_add_22 : decode prog_6_method_5_code 22 = .ok (.getfield 9, 3) := by decide +kernel
theorem d_In_add_25 : decode prog_6_method_5_code 25 = .ok (.aload_n 0, 1) := by decide +kernel
theorem d_In_add_26 : decode prog_6_method_5_code 26 = .ok (.getfield 15, 3) := by decide +kernel
theorem d_In_add_29 : decode prog_6_method_5_code 29 = .ok (.iload_n 1, 1) := by decide +kernel
theorem d_In_add_30 : decode prog_6_method_5_code 30 = .ok (.iastore, 1) := by decide +kernel
theorem d_In_add_31 : decode prog_6_method_5_code 31 = .ok (.aload_n 0, 1) := by decide +kernel
theorem d_In_add_32 : decode prog_6_method_5_code 32 = .ok (.dup, 1) := by decide +kernel
theorem d_In_add_33 : decode prog_6_method_5_code 33 = .ok (.getfield 15, 3) := by decide +kernel
theorem d_In_add_36 : decode prog_6_method_5_code 36 = .ok (.iconst 1, 1) := by decide +kernel
theorem d_In_add_37 : decode prog_6_method_5_code 37 = .ok (.iadd, 1) := by decide +kernel
theorem d_In_add_38 : decode prog_6_method_5_code 38 = .ok (.putfield 15, 3) := by decide +kernel
theorem d_In_add_41 : decode prog_6_method_5_code 41 = .ok (.iconst 1, 1) := by decide +kernel
theorem d_In_add_42 : decode prog_6_method_5_code 42 = .ok (.ireturn, 1) := by decide +kernel
theorem d_Dr_begin_0 : decode prog_3_method_2_code 0 = .ok (.aload_n 0, 1) := by decide +kernel
theorem d_Dr_begin_1 : decode prog_3_method_2_code 1 = .ok (.iload_n 1, 1) := by decide +kernel
theorem d_Dr_begin_2 : decode prog_3_method_2_code 2 = .ok (.putfield 28, 3) := by decide +kernel
theorem d_Dr_begin_5 : decode prog_3_method_2_code 5 = .ok (.aload_n 0, 1) := by decide +kernel
theorem d_Dr_begin_6 : decode prog_3_method_2_code 6 = .ok (.getfield 12, 3) := by decide +kernel
theorem d_Dr_begin_9 : decode prog_3_method_2_code 9 = .ok (.iconst 0, 1) := by decide +kernel
theorem d_Dr_begin_10 : decode prog_3_method_2_code 10 = .ok (.invokevirtual 32, 3) := by decide +kernel
theorem d_Dr_begin_13 : decode prog_3_method_2_code 13 = .ok (.aload_n 0, 1) := by decide +kernel
theorem d_Dr_begin_14 : decode prog_3_method_2_code 14 = .ok (.getfield 18, 3) := by decide +kernel
theorem d_Dr_begin_17 : decode prog_3_method_2_code 17 = .ok (.iconst 0, 1) := by decide +kernel
theorem d_Dr_begin_18 : decode prog_3_method_2_code 18 = .ok (.invokevirtual 32, 3) := by decide +kernel
theorem d_Dr_begin_21 : decode prog_3_method_2_code 21 = .ok (.aload_n 0, 1) := by decide +kernel
theorem d_Dr_begin_22 : decode prog_3_method_2_code 22 = .ok (.iconst 0, 1) := by decide +kernel
theorem d_Dr_begin_23 : decode prog_3_method_2_code 23 = .ok (.putfield 36, 3) := by decide +kernel
theorem d_Dr_begin_26 : decode prog_3_method_2_code 26 = .ok (.return_, 1) := by decide +kernel
theorem d_In_cutTo_0 : decode prog_6_method_6_code 0 = .ok (.aload_n 0, 1) := by decide +kernel
theorem d_In_cutTo_1 : decode prog_6_method_6_code 1 = .ok (.iconst 0, 1) := by decide +kernel
theorem d_In_cutTo_2 : decode prog_6_method_6_code 2 = .ok (.aload_n 0, 1) := by decide +kernel
theorem d_In_cutTo_3 : decode prog_6_method_6_code 3 = .ok (.getfield 15, 3) := by decide +kernel
theorem d_In_cutTo_6 : decode prog_6_method_6_code 6 = .ok (.iload_n 1, 1) := by decide +kernel
theorem d_In_cutTo_7 : decode prog_6_method_6_code 7 = .ok (.invokestatic 19, 3) := by decide +kernel
theorem d_In_cutTo_10 : decode prog_6_method_6_code 10 = .ok (.invokestatic 25, 3) := by decide +kernel
theorem d_In_cutTo_13 : decode prog_6_method_6_code 13 = .ok (.putfield 15, 3) := by decide +kernel
theorem d_In_cutTo_16 : decode prog_6_method_6_code 16 = .ok (.return_, 1) := by decide +kernel
theorem d_AT_give_0 : decode prog_2_method_2_code 0 = .ok (.aload_n 1, 1) := by decide +kernel
theorem d_AT_give_1 : decode prog_2_method_2_code 1 = .ok (.getfield 20, 3) := by decide +kernel
theorem d_AT_give_4 : decode prog_2_method_2_code 4 = .ok (.invokevirtual 26, 3) := by decide +kernel
theorem d_AT_give_7 : decode prog_2_method_2_code 7 = .ok (.istore_n 2, 1) := by decide +kernel
theorem d_AT_give_8 : decode prog_2_method_2_code 8 = .ok (.aload_n 0, 1) := by decide +kernel
theorem d_AT_give_9 : decode prog_2_method_2_code 9 = .ok (.getfield 11, 3) := by decide +kernel
theorem d_AT_give_12 : decode prog_2_method_2_code 12 = .ok (.aload_n 1, 1) := by decide +kernel
theorem d_AT_give_13 : decode prog_2_method_2_code 13 = .ok (.invokevirtual 32, 3) := by decide +kernel
theorem d_AT_give_16 : decode prog_2_method_2_code 16 = .ok (.aload_n 1, 1) := by decide +kernel
theorem d_AT_give_17 : decode prog_2_method_2_code 17 = .ok (.getfield 20, 3) := by decide +kernel
theorem d_AT_give_20 : decode prog_2_method_2_code 20 = .ok (.iload_n 2, 1) := by decide +kernel
theorem d_AT_give_21 : decode prog_2_method_2_code 21 = .ok (.aload_n 0, 1) := by decide +kernel
theorem d_AT_give_22 : decode prog_2_method_2_code 22 = .ok (.getfield 17, 3) := by decide +kernel
theorem d_AT_give_25 : decode prog_2_method_2_code 25 = .ok (.invokevirtual 36, 3) := by decide +kernel
theorem d_AT_give_28 : decode prog_2_method_2_code 28 = .ok (.return_, 1) := by decide +kernel
theorem d_In_length_0 : decode prog_6_method_2_code 0 = .ok (.aload_n 0, 1) := by decide +kernel
theorem d_In_length_1 : decode prog_6_method_2_code 1 = .ok (.getfield 15, 3) := by decide +kernel
theorem d_In_length_4 : decode prog_6_method_2_code 4 = .ok (.ireturn, 1) := by decide +kernel
theorem d_IR_give_0 : decode prog_5_method_2_code 0 = .ok (.aload_n 0, 1) := by decide +kernel
theorem d_IR_give_1 : decode prog_5_method_2_code 1 = .ok (.getfield 13, 3) := by decide +kernel
theorem d_IR_give_4 : decode prog_5_method_2_code 4 = .ok (.aload_n 0, 1) := by decide +kernel
theorem d_IR_give_5 : decode prog_5_method_2_code 5 = .ok (.getfield 7, 3) := by decide +kernel
theorem d_IR_give_8 : decode prog_5_method_2_code 8 = .ok (.isub, 1) := by decide +kernel
theorem d_IR_give_9 : decode prog_5_method_2_code 9 = .ok (.istore_n 2, 1) := by decide +kernel
theorem d_IR_give_10 : decode prog_5_method_2_code 10 = .ok (.aload_n 1, 1) := by decide +kernel
theorem d_IR_give_11 : decode prog_5_method_2_code 11 = .ok (.aload_n 0, 1) := by decide +kernel
theorem d_IR_give_12 : decode prog_5_method_2_code 12 = .ok (.getfield 7, 3) := by decide +kernel
theorem d_IR_give_15 : decode prog_5_method_2_code 15 = .ok (.aload_n 1, 1) := by decide +kernel
theorem d_IR_give_16 : decode prog_5_method_2_code 16 = .ok (.iload_n 2, 1) := by decide +kernel
theorem d_IR_give_17 : decode prog_5_method_2_code 17 = .ok (.aload_n 1, 1) := by decide +kernel
theorem d_IR_give_18 : decode prog_5_method_2_code 18 = .ok (.iload_n 2, 1) := by decide +kernel
theorem d_IR_give_19 : decode prog_5_method_2_code 19 = .ok (.invokevirtual 16, 3) := by decide +kernel
theorem d_IR_give_22 : decode prog_5_method_2_code 22 = .ok (.invokevirtual 22, 3) := by decide +kernel
theorem d_IR_give_25 : decode prog_5_method_2_code 25 = .ok (.iadd, 1) := by decide +kernel
theorem d_IR_give_26 : decode prog_5_method_2_code 26 = .ok (.invokevirtual 26, 3) := by decide +kernel
theorem d_IR_give_29 : decode prog_5_method_2_code 29 = .ok (.return_, 1) := by decide +kernel
theorem d_Dr_sizedSpan_0 : decode prog_3_method_9_code 0 = .ok (.iload_n 1, 1) := by decide +kernel
theorem d_Dr_sizedSpan_1 : decode prog_3_method_9_code 1 = .ok (.aload_n 0, 1) := by decide +kernel
theorem d_Dr_sizedSpan_2 : decode prog_3_method_9_code 2 = .ok (.getfield 51, 3) := by decide +kernel
theorem d_Dr_sizedSpan_5 : decode prog_3_method_9_code 5 = .ok (.iconst 1, 1) := by decide +kernel
theorem d_Dr_sizedSpan_6 : decode prog_3_method_9_code 6 = .ok (.iadd, 1) := by decide +kernel
theorem d_Dr_sizedSpan_7 : decode prog_3_method_9_code 7 = .ok (.if_icmp .le 12, 3) := by decide +kernel
theorem d_Dr_sizedSpan_10 : decode prog_3_method_9_code 10 = .ok (.aload_n 0, 1) := by decide +kernel
theorem d_Dr_sizedSpan_11 : decode prog_3_method_9_code 11 = .ok (.getfield 51, 3) := by decide +kernel
theorem d_Dr_sizedSpan_14 : decode prog_3_method_9_code 14 = .ok (.iconst 2, 1) := by decide +kernel
theorem d_Dr_sizedSpan_15 : decode prog_3_method_9_code 15 = .ok (.iadd, 1) := by decide +kernel
theorem d_Dr_sizedSpan_16 : decode prog_3_method_9_code 16 = .ok (.goto 6, 3) := by decide +kernel
theorem d_Dr_sizedSpan_19 : decode prog_3_method_9_code 19 = .ok (.iload_n 1, 1) := by decide +kernel
theorem d_Dr_sizedSpan_20 : decode prog_3_method_9_code 20 = .ok (.iconst 1, 1) := by decide +kernel
theorem d_Dr_sizedSpan_21 : decode prog_3_method_9_code 21 = .ok (.iadd, 1) := by decide +kernel
theorem d_Dr_sizedSpan_22 : decode prog_3_method_9_code 22 = .ok (.ireturn, 1) := by decide +kernel
theorem d_Dr_draw_0 : decode prog_3_method_8_code 0 = .ok (.aload_n 0, 1) := by decide +kernel
theorem d_Dr_draw_1 : decode prog_3_method_8_code 1 = .ok (.getfield 36, 3) := by decide +kernel
theorem d_Dr_draw_4 : decode prog_3_method_8_code 4 = .ok (.ifCond .eq 5, 3) := by decide +kernel
theorem d_Dr_draw_7 : decode prog_3_method_8_code 7 = .ok (.iconst 0, 1) := by decide +kernel
theorem d_Dr_draw_8 : decode prog_3_method_8_code 8 = .ok (.ireturn, 1) := by decide +kernel
theorem d_Dr_draw_9 : decode prog_3_method_8_code 9 = .ok (.aload_n 0, 1) := by decide +kernel
theorem d_Dr_draw_10 : decode prog_3_method_8_code 10 = .ok (.getfield 12, 3) := by decide +kernel
theorem d_Dr_draw_13 : decode prog_3_method_8_code 13 = .ok (.invokevirtual 54, 3) := by decide +kernel
theorem d_Dr_draw_16 : decode prog_3_method_8_code 16 = .ok (.istore_n 3, 1) := by decide +kernel
theorem d_Dr_draw_17 : decode prog_3_method_8_code 17 = .ok (.aload_n 0, 1) := by decide +kernel
theorem d_Dr_draw_18 : decode prog_3_method_8_code 18 = .ok (.iload_n 3, 1) := by decide +kernel
theorem d_Dr_draw_19 : decode prog_3_method_8_code 19 = .ok (.iload_n 2, 1) := by decide +kernel
theorem d_Dr_draw_20 : decode prog_3_method_8_code 20 = .ok (.invokevirtual 66, 3) := by decide +kernel
theorem d_Dr_draw_23 : decode prog_3_method_8_code 23 = .ok (.istore 4, 2) := by decide +kernel
theorem d_Dr_draw_25 : decode prog_3_method_8_code 25 = .ok (.iload 4, 2) := by decide +kernel
theorem d_Dr_draw_27 : decode prog_3_method_8_code 27 = .ok (.ifCond .lt 30, 3) := by decide +kernel
theorem d_Dr_draw_30 : decode prog_3_method_8_code 30 = .ok (.iload 4, 2) := by decide +kernel
theorem d_Dr_draw_32 : decode prog_3_method_8_code 32 = .ok (.iload_n 1, 1) := by decide +kernel
theorem d_Dr_draw_33 : decode prog_3_method_8_code 33 = .ok (.if_icmp .gt 24, 3) := by decide +kernel
theorem d_Dr_draw_36 : decode prog_3_method_8_code 36 = .ok (.iload_n 3, 1) := by decide +kernel
theorem d_Dr_draw_37 : decode prog_3_method_8_code 37 = .ok (.aload_n 0, 1) := by decide +kernel
theorem d_Dr_draw_38 : decode prog_3_method_8_code 38 = .ok (.getfield 21, 3) := by decide +kernel
theorem d_Dr_draw_41 : decode prog_3_method_8_code 41 = .ok (.arraylength, 1) := by decide +kernel
theorem d_Dr_draw_42 : decode prog_3_method_8_code 42 = .ok (.if_icmp .ge 15, 3) := by decide +kernel
theorem d_Dr_draw_45 : decode prog_3_method_8_code 45 = .ok (.aload_n 0, 1) := by decide +kernel
theorem d_Dr_draw_46 : decode prog_3_method_8_code 46 = .ok (.getfield 12, 3) := by decide +kernel
theorem d_Dr_draw_49 : decode prog_3_method_8_code 49 = .ok (.iload 4, 2) := by decide +kernel
theorem d_Dr_draw_51 : decode prog_3_method_8_code 51 = .ok (.invokevirtual 62, 3) := by decide +kernel
theorem d_Dr_draw_54 : decode prog_3_method_8_code 54 = .ok (.ifCond .ne 10, 3) := by decide +kernel
theorem d_Dr_draw_57 : decode prog_3_method_8_code 57 = .ok (.aload_n 0, 1) := by decide +kernel
theorem d_Dr_draw_58 : decode prog_3_method_8_code 58 = .ok (.iconst 1, 1) := by decide +kernel
theorem d_Dr_draw_59 : decode prog_3_method_8_code 59 = .ok (.putfield 36, 3) := by decide +kernel
theorem d_Dr_draw_62 : decode prog_3_method_8_code 62 = .ok (.iconst 0, 1) := by decide +kernel
theorem d_Dr_draw_63 : decode prog_3_method_8_code 63 = .ok (.ireturn, 1) := by decide +kernel
theorem d_Dr_draw_64 : decode prog_3_method_8_code 64 = .ok (.aload_n 0, 1) := by decide +kernel
theorem d_Dr_draw_65 : decode prog_3_method_8_code 65 = .ok (.getfield 21, 3) := by decide +kernel
theorem d_Dr_draw_68 : decode prog_3_method_8_code 68 = .ok (.iload_n 3, 1) := by decide +kernel
theorem d_Dr_draw_69 : decode prog_3_method_8_code 69 = .ok (.iload_n 1, 1) := by decide +kernel
theorem d_Dr_draw_70 : decode prog_3_method_8_code 70 = .ok (.iastore, 1) := by decide +kernel
theorem d_Dr_draw_71 : decode prog_3_method_8_code 71 = .ok (.iload 4, 2) := by decide +kernel
theorem d_Dr_draw_73 : decode prog_3_method_8_code 73 = .ok (.ireturn, 1) := by decide +kernel
theorem d_Dr_pick_0 : decode prog_3_method_10_code 0 = .ok (.aload_n 0, 1) := by decide +kernel
theorem d_Dr_pick_1 : decode prog_3_method_10_code 1 = .ok (.getfield 28, 3) := by decide +kernel
theorem d_Dr_pick_4 : decode prog_3_method_10_code 4 = .ok (.lookupswitch 75 #[(1, 28), (2, 65)], 28) := by decide +kernel
theorem d_Dr_pick_32 : decode prog_3_method_10_code 32 = .ok (.aload_n 0, 1) := by decide +kernel
theorem d_Dr_pick_33 : decode prog_3_method_10_code 33 = .ok (.aload_n 0, 1) := by decide +kernel
theorem d_Dr_pick_34 : decode prog_3_method_10_code 34 = .ok (.getfield 47, 3) := by decide +kernel
theorem d_Dr_pick_37 : decode prog_3_method_10_code 37 = .ok (.ldc2_w 69, 3) := by decide +kernel
theorem d_Dr_pick_40 : decode prog_3_method_10_code 40 = .ok (.lmul, 1) := by decide +kernel
theorem d_Dr_pick_41 : decode prog_3_method_10_code 41 = .ok (.ldc2_w 71, 3) := by decide +kernel
theorem d_Dr_pick_44 : decode prog_3_method_10_code 44 = .ok (.ladd, 1) := by decide +kernel
theorem d_Dr_pick_45 : decode prog_3_method_10_code 45 = .ok (.putfield 47, 3) := by decide +kernel
theorem d_Dr_pick_48 : decode prog_3_method_10_code 48 = .ok (.iload_n 2, 1) := by decide +kernel
theorem d_Dr_pick_49 : decode prog_3_method_10_code 49 = .ok (.iconst 1, 1) := by decide +kernel
theorem d_Dr_pick_50 : decode prog_3_method_10_code 50 = .ok (.if_icmp .ge 7, 3) := by decide +kernel
theorem d_Dr_pick_53 : decode prog_3_method_10_code 53 = .ok (.iconst (-1), 1) := by decide +kernel
theorem d_Dr_pick_54 : decode prog_3_method_10_code 54 = .ok (.goto 14, 3) := by decide +kernel
theorem d_Dr_pick_57 : decode prog_3_method_10_code 57 = .ok (.aload_n 0, 1) := by decide +kernel
theorem d_Dr_pick_58 : decode prog_3_method_10_code 58 = .ok (.getfield 47, 3) := by decide +kernel
theorem d_Dr_pick_61 : decode prog_3_method_10_code 61 = .ok (.bipush 33, 2) := by decide +kernel
theorem d_Dr_pick_63 : decode prog_3_method_10_code 63 = .ok (.lushr, 1) := by decide +kernel
theorem d_Dr_pick_64 : decode prog_3_method_10_code 64 = .ok (.iload_n 2, 1) := by decide +kernel
theorem d_Dr_pick_65 : decode prog_3_method_10_code 65 = .ok (.i2l, 1) := by decide +kernel
theorem d_Dr_pick_66 : decode prog_3_method_10_code 66 = .ok (.lrem, 1) := by decide +kernel
theorem d_Dr_pick_67 : decode prog_3_method_10_code 67 = .ok (.l2i, 1) := by decide +kernel
theorem d_Dr_pick_68 : decode prog_3_method_10_code 68 = .ok (.ireturn, 1) := by decide +kernel
theorem d_Dr_pick_69 : decode prog_3_method_10_code 69 = .ok (.aload_n 0, 1) := by decide +kernel
theorem d_Dr_pick_70 : decode prog_3_method_10_code 70 = .ok (.getfield 25, 3) := by decide +kernel
theorem d_Dr_pick_73 : decode prog_3_method_10_code 73 = .ok (.iload_n 1, 1) := by decide +kernel
theorem d_Dr_pick_74 : decode prog_3_method_10_code 74 = .ok (.iconst 0, 1) := by decide +kernel
theorem d_Dr_pick_75 : decode prog_3_method_10_code 75 = .ok (.invokevirtual 58, 3) := by decide +kernel
theorem d_Dr_pick_78 : decode prog_3_method_10_code 78 = .ok (.ireturn, 1) := by decide +kernel
theorem d_Dr_pick_79 : decode prog_3_method_10_code 79 = .ok (.aload_n 0, 1) := by decide +kernel
theorem d_Dr_pick_80 : decode prog_3_method_10_code 80 = .ok (.getfield 25, 3) := by decide +kernel
theorem d_Dr_pick_83 : decode prog_3_method_10_code 83 = .ok (.iload_n 1, 1) := by decide +kernel
theorem d_Dr_pick_84 : decode prog_3_method_10_code 84 = .ok (.iconst (-1), 1) := by decide +kernel
theorem d_Dr_pick_85 : decode prog_3_method_10_code 85 = .ok (.invokevirtual 58, 3) := by decide +kernel
theorem d_Dr_pick_88 : decode prog_3_method_10_code 88 = .ok (.ireturn, 1) := by decide +kernel
theorem d_Dr_giveNumber_0 : decode prog_3_method_11_code 0 = .ok (.aload_n 0, 1) := by decide +kernel
theorem d_Dr_giveNumber_1 : decode prog_3_method_11_code 1 = .ok (.getfield 36, 3) := by decide +kernel
theorem d_Dr_giveNumber_4 : decode prog_3_method_11_code 4 = .ok (.ifCond .ne 14, 3) := by decide +kernel
theorem d_Dr_giveNumber_7 : decode prog_3_method_11_code 7 = .ok (.aload_n 0, 1) := by decide +kernel
theorem d_Dr_giveNumber_8 : decode prog_3_method_11_code 8 = .ok (.getfield 18, 3) := by decide +kernel
theorem d_Dr_giveNumber_11 : decode prog_3_method_11_code 11 = .ok (.iload_n 1, 1) := by decide +kernel
theorem d_Dr_giveNumber_12 : decode prog_3_method_11_code 12 = .ok (.invokevirtual 62, 3) := by decide +kernel
theorem d_Dr_giveNumber_15 : decode prog_3_method_11_code 15 = .ok (.ifCond .ne 8, 3) := by decide +kernel
theorem d_Dr_giveNumber_18 : decode prog_3_method_11_code 18 = .ok (.aload_n 0, 1) := by decide +kernel
theorem d_Dr_giveNumber_19 : decode prog_3_method_11_code 19 = .ok (.iconst 1, 1) := by decide +kernel
theorem d_Dr_giveNumber_20 : decode prog_3_method_11_code 20 = .ok (.putfield 36, 3) := by decide +kernel
theorem d_Dr_giveNumber_23 : decode prog_3_method_11_code 23 = .ok (.return_, 1) := by decide +kernel
theorem d_KO_give_0 : decode prog_7_method_2_code 0 = .ok (.aload_n 1, 1) := by decide +kernel
theorem d_KO_give_1 : decode prog_7_method_2_code 1 = .ok (.getfield 22, 3) := by decide +kernel
theorem d_KO_give_4 : decode prog_7_method_2_code 4 = .ok (.invokevirtual 28, 3) := by decide +kernel
theorem d_KO_give_7 : decode prog_7_method_2_code 7 = .ok (.istore_n 2, 1) := by decide +kernel
theorem d_KO_give_8 : decode prog_7_method_2_code 8 = .ok (.iconst 0, 1) := by decide +kernel
theorem d_KO_give_9 : decode prog_7_method_2_code 9 = .ok (.istore_n 3, 1) := by decide +kernel
theorem d_KO_give_10 : decode prog_7_method_2_code 10 = .ok (.iload_n 3, 1) := by decide +kernel
theorem d_KO_give_11 : decode prog_7_method_2_code 11 = .ok (.iconst 3, 1) := by decide +kernel
theorem d_KO_give_12 : decode prog_7_method_2_code 12 = .ok (.if_icmp .ge 52, 3) := by decide +kernel
theorem d_KO_give_15 : decode prog_7_method_2_code 15 = .ok (.aload_n 1, 1) := by decide +kernel
theorem d_KO_give_16 : decode prog_7_method_2_code 16 = .ok (.getfield 34, 3) := by decide +kernel
theorem d_KO_give_19 : decode prog_7_method_2_code 19 = .ok (.ifCond .ne 45, 3) := by decide +kernel
theorem d_KO_give_22 : decode prog_7_method_2_code 22 = .ok (.aload_n 1, 1) := by decide +kernel
theorem d_KO_give_23 : decode prog_7_method_2_code 23 = .ok (.getfield 22, 3) := by decide +kernel
theorem d_KO_give_26 : decode prog_7_method_2_code 26 = .ok (.iload_n 2, 1) := by decide +kernel
theorem d_KO_give_27 : decode prog_7_method_2_code 27 = .ok (.invokevirtual 38, 3) := by decide +kernel
theorem d_KO_give_30 : decode prog_7_method_2_code 30 = .ok (.aload_n 0, 1) := by decide +kernel
theorem d_KO_give_31 : decode prog_7_method_2_code 31 = .ok (.getfield 13, 3) := by decide +kernel
theorem d_KO_give_34 : decode prog_7_method_2_code 34 = .ok (.aload_n 1, 1) := by decide +kernel
theorem d_KO_give_35 : decode prog_7_method_2_code 35 = .ok (.invokevirtual 41, 3) := by decide +kernel
theorem d_KO_give_38 : decode prog_7_method_2_code 38 = .ok (.aload_n 1, 1) := by decide +kernel
theorem d_KO_give_39 : decode prog_7_method_2_code 39 = .ok (.getfield 22, 3) := by decide +kernel
theorem d_KO_give_42 : decode prog_7_method_2_code 42 = .ok (.iload_n 2, 1) := by decide +kernel
theorem d_KO_give_43 : decode prog_7_method_2_code 43 = .ok (.invokevirtual 45, 3) := by decide +kernel
theorem d_KO_give_46 : decode prog_7_method_2_code 46 = .ok (.lconst 1, 1) := by decide +kernel
theorem d_KO_give_47 : decode prog_7_method_2_code 47 = .ok (.land, 1) := by decide +kernel
theorem d_KO_give_48 : decode prog_7_method_2_code 48 = .ok (.aload_n 0, 1) := by decide +kernel
theorem d_KO_give_49 : decode prog_7_method_2_code 49 = .ok (.getfield 19, 3) := by decide +kernel
theorem d_KO_give_52 : decode prog_7_method_2_code 52 = .ok (.i2l, 1) := by decide +kernel
theorem d_KO_give_53 : decode prog_7_method_2_code 53 = .ok (.lcmp, 1) := by decide +kernel
theorem d_KO_give_54 : decode prog_7_method_2_code 54 = .ok (.ifCond .ne 4, 3) := by decide +kernel
theorem d_KO_give_57 : decode prog_7_method_2_code 57 = .ok (.return_, 1) := by decide +kernel
theorem d_KO_give_58 : decode prog_7_method_2_code 58 = .ok (.iinc 3 1, 3) := by decide +kernel
theorem d_KO_give_61 : decode prog_7_method_2_code 61 = .ok (.goto (-51), 3) := by decide +kernel
theorem d_KO_give_64 : decode prog_7_method_2_code 64 = .ok (.aload_n 1, 1) := by decide +kernel
theorem d_KO_give_65 : decode prog_7_method_2_code 65 = .ok (.iconst 1, 1) := by decide +kernel
theorem d_KO_give_66 : decode prog_7_method_2_code 66 = .ok (.putfield 34, 3) := by decide +kernel
theorem d_KO_give_69 : decode prog_7_method_2_code 69 = .ok (.return_, 1) := by decide +kernel
theorem d_LO_give_0 : decode prog_9_method_2_code 0 = .ok (.iconst 0, 1) := by decide +kernel
theorem d_LO_give_1 : decode prog_9_method_2_code 1 = .ok (.istore_n 2, 1) := by decide +kernel
theorem d_LO_give_2 : decode prog_9_method_2_code 2 = .ok (.iload_n 2, 1) := by decide +kernel
theorem d_LO_give_3 : decode prog_9_method_2_code 3 = .ok (.aload_n 0, 1) := by decide +kernel
theorem d_LO_give_4 : decode prog_9_method_2_code 4 = .ok (.getfield 17, 3) := by decide +kernel
theorem d_LO_give_7 : decode prog_9_method_2_code 7 = .ok (.if_icmp .ge 27, 3) := by decide +kernel
theorem d_LO_give_10 : decode prog_9_method_2_code 10 = .ok (.aload_n 1, 1) := by decide +kernel
theorem d_LO_give_11 : decode prog_9_method_2_code 11 = .ok (.iconst 1, 1) := by decide +kernel
theorem d_LO_give_12 : decode prog_9_method_2_code 12 = .ok (.iconst 2, 1) := by decide +kernel
theorem d_LO_give_13 : decode prog_9_method_2_code 13 = .ok (.invokevirtual 20, 3) := by decide +kernel
theorem d_LO_give_16 : decode prog_9_method_2_code 16 = .ok (.iconst 1, 1) := by decide +kernel
theorem d_LO_give_17 : decode prog_9_method_2_code 17 = .ok (.if_icmp .ne 17, 3) := by decide +kernel
theorem d_LO_give_20 : decode prog_9_method_2_code 20 = .ok (.aload_n 0, 1) := by decide +kernel
theorem d_LO_give_21 : decode prog_9_method_2_code 21 = .ok (.getfield 11, 3) := by decide +kernel
theorem d_LO_give_24 : decode prog_9_method_2_code 24 = .ok (.aload_n 1, 1) := by decide +kernel
theorem d_LO_give_25 : decode prog_9_method_2_code 25 = .ok (.invokevirtual 26, 3) := by decide +kernel
theorem d_LO_give_28 : decode prog_9_method_2_code 28 = .ok (.iinc 2 1, 3) := by decide +kernel
theorem d_LO_give_31 : decode prog_9_method_2_code 31 = .ok (.goto (-29), 3) := by decide +kernel
theorem d_LO_give_34 : decode prog_9_method_2_code 34 = .ok (.return_, 1) := by decide +kernel
theorem d_OO_give_0 : decode prog_10_method_2_code 0 = .ok (.aload_n 1, 1) := by decide +kernel
theorem d_OO_give_1 : decode prog_10_method_2_code 1 = .ok (.iconst 1, 1) := by decide +kernel
theorem d_OO_give_2 : decode prog_10_method_2_code 2 = .ok (.iconst 2, 1) := by decide +kernel
theorem d_OO_give_3 : decode prog_10_method_2_code 3 = .ok (.invokevirtual 26, 3) := by decide +kernel
theorem d_OO_give_6 : decode prog_10_method_2_code 6 = .ok (.istore_n 2, 1) := by decide +kernel
theorem d_OO_give_7 : decode prog_10_method_2_code 7 = .ok (.aload_n 1, 1) := by decide +kernel
theorem d_OO_give_8 : decode prog_10_method_2_code 8 = .ok (.getfield 31, 3) := by decide +kernel
theorem d_OO_give_11 : decode prog_10_method_2_code 11 = .ok (.ifCond .eq 4, 3) := by decide +kernel
theorem d_OO_give_14 : decode prog_10_method_2_code 14 = .ok (.return_, 1) := by decide +kernel
theorem d_OO_give_15 : decode prog_10_method_2_code 15 = .ok (.iload_n 2, 1) := by decide +kernel
theorem d_OO_give_16 : decode prog_10_method_2_code 16 = .ok (.ifCond .ne 14, 3) := by decide +kernel
theorem d_OO_give_19 : decode prog_10_method_2_code 19 = .ok (.aload_n 0, 1) := by decide +kernel
theorem d_OO_give_20 : decode prog_10_method_2_code 20 = .ok (.getfield 17, 3) := by decide +kernel
theorem d_OO_give_23 : decode prog_10_method_2_code 23 = .ok (.aload_n 1, 1) := by decide +kernel
theorem d_OO_give_24 : decode prog_10_method_2_code 24 = .ok (.invokevirtual 35, 3) := by decide +kernel
theorem d_OO_give_27 : decode prog_10_method_2_code 27 = .ok (.goto 11, 3) := by decide +kernel
theorem d_OO_give_30 : decode prog_10_method_2_code 30 = .ok (.aload_n 0, 1) := by decide +kernel
theorem d_OO_give_31 : decode prog_10_method_2_code 31 = .ok (.getfield 23, 3) := by decide +kernel
theorem d_OO_give_34 : decode prog_10_method_2_code 34 = .ok (.aload_n 1, 1) := by decide +kernel
theorem d_OO_give_35 : decode prog_10_method_2_code 35 = .ok (.invokevirtual 35, 3) := by decide +kernel
theorem d_OO_give_38 : decode prog_10_method_2_code 38 = .ok (.return_, 1) := by decide +kernel
theorem d_PO_give_0 : decode prog_11_method_2_code 0 = .ok (.aload_n 0, 1) := by decide +kernel
theorem d_PO_give_1 : decode prog_11_method_2_code 1 = .ok (.getfield 17, 3) := by decide +kernel
theorem d_PO_give_4 : decode prog_11_method_2_code 4 = .ok (.aload_n 1, 1) := by decide +kernel
theorem d_PO_give_5 : decode prog_11_method_2_code 5 = .ok (.invokevirtual 26, 3) := by decide +kernel
theorem d_PO_give_8 : decode prog_11_method_2_code 8 = .ok (.aload_n 1, 1) := by decide +kernel
theorem d_PO_give_9 : decode prog_11_method_2_code 9 = .ok (.getfield 30, 3) := by decide +kernel
theorem d_PO_give_12 : decode prog_11_method_2_code 12 = .ok (.ifCond .ne 11, 3) := by decide +kernel
theorem d_PO_give_15 : decode prog_11_method_2_code 15 = .ok (.aload_n 0, 1) := by decide +kernel
theorem d_PO_give_16 : decode prog_11_method_2_code 16 = .ok (.getfield 23, 3) := by decide +kernel
theorem d_PO_give_19 : decode prog_11_method_2_code 19 = .ok (.aload_n 1, 1) := by decide +kernel
theorem d_PO_give_20 : decode prog_11_method_2_code 20 = .ok (.invokevirtual 26, 3) := by decide +kernel
theorem d_PO_give_23 : decode prog_11_method_2_code 23 = .ok (.return_, 1) := by decide +kernel
theorem d_In_totalFrom_0 : decode prog_6_method_9_code 0 = .ok (.lconst 0, 1) := by decide +kernel
theorem d_In_totalFrom_1 : decode prog_6_method_9_code 1 = .ok (.lstore_n 2, 1) := by decide +kernel
theorem d_In_totalFrom_2 : decode prog_6_method_9_code 2 = .ok (.iload_n 1, 1) := by decide +kernel
theorem d_In_totalFrom_3 : decode prog_6_method_9_code 3 = .ok (.istore 4, 2) := by decide +kernel
theorem d_In_totalFrom_5 : decode prog_6_method_9_code 5 = .ok (.iload 4, 2) := by decide +kernel
theorem d_In_totalFrom_7 : decode prog_6_method_9_code 7 = .ok (.aload_n 0, 1) := by decide +kernel
theorem d_In_totalFrom_8 : decode prog_6_method_9_code 8 = .ok (.getfield 15, 3) := by decide +kernel
theorem d_In_totalFrom_11 : decode prog_6_method_9_code 11 = .ok (.if_icmp .ge 20, 3) := by decide +kernel
theorem d_In_totalFrom_14 : decode prog_6_method_9_code 14 = .ok (.lload_n 2, 1) := by decide +kernel
theorem d_In_totalFrom_15 : decode prog_6_method_9_code 15 = .ok (.aload_n 0, 1) := by decide +kernel
theorem d_In_totalFrom_16 : decode prog_6_method_9_code 16 = .ok (.iload 4, 2) := by decide +kernel
theorem d_In_totalFrom_18 : decode prog_6_method_9_code 18 = .ok (.iconst 0, 1) := by decide +kernel
theorem d_In_totalFrom_19 : decode prog_6_method_9_code 19 = .ok (.invokevirtual 32, 3) := by decide +kernel
theorem d_In_totalFrom_22 : decode prog_6_method_9_code 22 = .ok (.i2l, 1) := by decide +kernel
theorem d_In_totalFrom_23 : decode prog_6_method_9_code 23 = .ok (.ladd, 1) := by decide +kernel
theorem d_In_totalFrom_24 : decode prog_6_method_9_code 24 = .ok (.lstore_n 2, 1) := by decide +kernel
theorem d_In_totalFrom_25 : decode prog_6_method_9_code 25 = .ok (.iinc 4 1, 3) := by decide +kernel
theorem d_In_totalFrom_28 : decode prog_6_method_9_code 28 = .ok (.goto (-23), 3) := by decide +kernel
theorem d_In_totalFrom_31 : decode prog_6_method_9_code 31 = .ok (.lload_n 2, 1) := by decide +kernel
theorem d_In_totalFrom_32 : decode prog_6_method_9_code 32 = .ok (.lreturn, 1) := by decide +kernel
theorem d_In_raiseFrom_0 : decode prog_6_method_10_code 0 = .ok (.iload_n 1, 1) := by decide +kernel
theorem d_In_raiseFrom_1 : decode prog_6_method_10_code 1 = .ok (.istore_n 3, 1) := by decide +kernel
theorem d_In_raiseFrom_2 : decode prog_6_method_10_code 2 = .ok (.iload_n 3, 1) := by decide +kernel
theorem d_In_raiseFrom_3 : decode prog_6_method_10_code 3 = .ok (.aload_n 0, 1) := by decide +kernel
theorem d_In_raiseFrom_4 : decode prog_6_method_10_code 4 = .ok (.getfield 15, 3) := by decide +kernel
theorem d_In_raiseFrom_7 : decode prog_6_method_10_code 7 = .ok (.if_icmp .ge 22, 3) := by decide +kernel
theorem d_In_raiseFrom_10 : decode prog_6_method_10_code 10 = .ok (.aload_n 0, 1) := by decide +kernel
theorem d_In_raiseFrom_11 : decode prog_6_method_10_code 11 = .ok (.iload_n 3, 1) := by decide +kernel
theorem d_In_raiseFrom_12 : decode prog_6_method_10_code 12 = .ok (.aload_n 0, 1) := by decide +kernel
theorem d_In_raiseFrom_13 : decode prog_6_method_10_code 13 = .ok (.iload_n 3, 1) := by decide +kernel
theorem d_In_raiseFrom_14 : decode prog_6_method_10_code 14 = .ok (.iconst 0, 1) := by decide +kernel
theorem d_In_raiseFrom_15 : decode prog_6_method_10_code 15 = .ok (.invokevirtual 32, 3) := by decide +kernel
theorem d_In_raiseFrom_18 : decode prog_6_method_10_code 18 = .ok (.iload_n 2, 1) := by decide +kernel
theorem d_In_raiseFrom_19 : decode prog_6_method_10_code 19 = .ok (.iadd, 1) := by decide +kernel
theorem d_In_raiseFrom_20 : decode prog_6_method_10_code 20 = .ok (.invokevirtual 39, 3) := by decide +kernel
theorem d_In_raiseFrom_23 : decode prog_6_method_10_code 23 = .ok (.iinc 3 1, 3) := by decide +kernel
theorem d_In_raiseFrom_26 : decode prog_6_method_10_code 26 = .ok (.goto (-24), 3) := by decide +kernel
theorem d_In_raiseFrom_29 : decode prog_6_method_10_code 29 = .ok (.return_, 1) := by decide +kernel
theorem d_In_set_0 : decode prog_6_method_4_code 0 = .ok (.iload_n 1, 1) := by decide +kernel
theorem d_In_set_1 : decode prog_6_method_4_code 1 = .ok (.ifCond .lt 27, 3) := by decide +kernel
theorem d_In_set_4 : decode prog_6_method_4_code 4 = .ok (.iload_n 1, 1) := by decide +kernel
theorem d_In_set_5 : decode prog_6_method_4_code 5 = .ok (.aload_n 0, 1) := by decide +kernel
theorem d_In_set_6 : decode prog_6_method_4_code 6 = .ok (.getfield 15, 3) := by decide +kernel
theorem d_In_set_9 : decode prog_6_method_4_code 9 = .ok (.if_icmp .ge 19, 3) := by decide +kernel
theorem d_In_set_12 : decode prog_6_method_4_code 12 = .ok (.iload_n 1, 1) := by decide +kernel
theorem d_In_set_13 : decode prog_6_method_4_code 13 = .ok (.aload_n 0, 1) := by decide +kernel
theorem d_In_set_14 : decode prog_6_method_4_code 14 = .ok (.getfield 9, 3) := by decide +kernel
theorem d_In_set_17 : decode prog_6_method_4_code 17 = .ok (.arraylength, 1) := by decide +kernel
theorem d_In_set_18 : decode prog_6_method_4_code 18 = .ok (.if_icmp .ge 10, 3) := by decide +kernel
theorem d_In_set_21 : decode prog_6_method_4_code 21 = .ok (.aload_n 0, 1) := by decide +kernel
theorem d_In_set_22 : decode prog_6_method_4_code 22 = .ok (.getfield 9, 3) := by decide +kernel
theorem d_In_set_25 : decode prog_6_method_4_code 25 = .ok (.iload_n 1, 1) := by decide +kernel
theorem d_In_set_26 : decode prog_6_method_4_code 26 = .ok (.iload_n 2, 1) := by decide +kernel
theorem d_In_set_27 : decode prog_6_method_4_code 27 = .ok (.iastore, 1) := by decide +kernel
theorem d_In_set_28 : decode prog_6_method_4_code 28 = .ok (.return_, 1) := by decide +kernel
theorem d_Pr_judge_0 : decode prog_12_method_2_code 0 = .ok (.aload_n 1, 1) := by decide +kernel
theorem d_Pr_judge_1 : decode prog_12_method_2_code 1 = .ok (.invokevirtual 21, 3) := by decide +kernel
theorem d_Pr_judge_4 : decode prog_12_method_2_code 4 = .ok (.aload_n 0, 1) := by decide +kernel
theorem d_Pr_judge_5 : decode prog_12_method_2_code 5 = .ok (.getfield 18, 3) := by decide +kernel
theorem d_Pr_judge_8 : decode prog_12_method_2_code 8 = .ok (.if_icmp .ge 5, 3) := by decide +kernel
theorem d_Pr_judge_11 : decode prog_12_method_2_code 11 = .ok (.iconst 3, 1) := by decide +kernel
theorem d_Pr_judge_12 : decode prog_12_method_2_code 12 = .ok (.ireturn, 1) := by decide +kernel
theorem d_Pr_judge_13 : decode prog_12_method_2_code 13 = .ok (.aload_n 0, 1) := by decide +kernel
theorem d_Pr_judge_14 : decode prog_12_method_2_code 14 = .ok (.getfield 9, 3) := by decide +kernel
theorem d_Pr_judge_17 : decode prog_12_method_2_code 17 = .ok (.tableswitch 98 0 3 #[31, 51, 68, 81], 31) := by decide +kernel
theorem d_Pr_judge_48 : decode prog_12_method_2_code 48 = .ok (.aload_n 1, 1) := by decide +kernel
theorem d_Pr_judge_49 : decode prog_12_method_2_code 49 = .ok (.iconst 0, 1) := by decide +kernel
theorem d_Pr_judge_50 : decode prog_12_method_2_code 50 = .ok (.invokevirtual 27, 3) := by decide +kernel
theorem d_Pr_judge_53 : decode prog_12_method_2_code 53 = .ok (.aload_n 0, 1) := by decide +kernel
theorem d_Pr_judge_54 : decode prog_12_method_2_code 54 = .ok (.getfield 15, 3) := by decide +kernel
theorem d_Pr_judge_57 : decode prog_12_method_2_code 57 = .ok (.i2l, 1) := by decide +kernel
theorem d_Pr_judge_58 : decode prog_12_method_2_code 58 = .ok (.lcmp, 1) := by decide +kernel
theorem d_Pr_judge_59 : decode prog_12_method_2_code 59 = .ok (.ifCond .le 7, 3) := by decide +kernel
theorem d_Pr_judge_62 : decode prog_12_method_2_code 62 = .ok (.iconst 1, 1) := by decide +kernel
theorem d_Pr_judge_63 : decode prog_12_method_2_code 63 = .ok (.goto 4, 3) := by decide +kernel
theorem d_Pr_judge_66 : decode prog_12_method_2_code 66 = .ok (.iconst 0, 1) := by decide +kernel
theorem d_Pr_judge_67 : decode prog_12_method_2_code 67 = .ok (.ireturn, 1) := by decide +kernel
theorem d_Pr_judge_68 : decode prog_12_method_2_code 68 = .ok (.aload_n 1, 1) := by decide +kernel
theorem d_Pr_judge_69 : decode prog_12_method_2_code 69 = .ok (.aload_n 0, 1) := by decide +kernel
theorem d_Pr_judge_70 : decode prog_12_method_2_code 70 = .ok (.getfield 15, 3) := by decide +kernel
theorem d_Pr_judge_73 : decode prog_12_method_2_code 73 = .ok (.invokevirtual 31, 3) := by decide +kernel
theorem d_Pr_judge_76 : decode prog_12_method_2_code 76 = .ok (.ifCond .eq 7, 3) := by decide +kernel
theorem d_Pr_judge_79 : decode prog_12_method_2_code 79 = .ok (.iconst 1, 1) := by decide +kernel
theorem d_Pr_judge_80 : decode prog_12_method_2_code 80 = .ok (.goto 4, 3) := by decide +kernel
theorem d_Pr_judge_83 : decode prog_12_method_2_code 83 = .ok (.iconst 0, 1) := by decide +kernel
theorem d_Pr_judge_84 : decode prog_12_method_2_code 84 = .ok (.ireturn, 1) := by decide +kernel
theorem d_Pr_judge_85 : decode prog_12_method_2_code 85 = .ok (.aload_n 1, 1) := by decide +kernel
theorem d_Pr_judge_86 : decode prog_12_method_2_code 86 = .ok (.invokevirtual 35, 3) := by decide +kernel
theorem d_Pr_judge_89 : decode prog_12_method_2_code 89 = .ok (.ifCond .eq 7, 3) := by decide +kernel
theorem d_Pr_judge_92 : decode prog_12_method_2_code 92 = .ok (.iconst 1, 1) := by decide +kernel
theorem d_Pr_judge_93 : decode prog_12_method_2_code 93 = .ok (.goto 4, 3) := by decide +kernel
theorem d_Pr_judge_96 : decode prog_12_method_2_code 96 = .ok (.iconst 0, 1) := by decide +kernel
theorem d_Pr_judge_97 : decode prog_12_method_2_code 97 = .ok (.ireturn, 1) := by decide +kernel
theorem d_Pr_judge_98 : decode prog_12_method_2_code 98 = .ok (.aload_n 1, 1) := by decide +kernel
theorem d_Pr_judge_99 : decode prog_12_method_2_code 99 = .ok (.invokevirtual 21, 3) := by decide +kernel
theorem d_Pr_judge_102 : decode prog_12_method_2_code 102 = .ok (.aload_n 0, 1) := by decide +kernel
theorem d_Pr_judge_103 : decode prog_12_method_2_code 103 = .ok (.getfield 15, 3) := by decide +kernel
theorem d_Pr_judge_106 : decode prog_12_method_2_code 106 = .ok (.if_icmp .lt 7, 3) := by decide +kernel
theorem d_Pr_judge_109 : decode prog_12_method_2_code 109 = .ok (.iconst 1, 1) := by decide +kernel
theorem d_Pr_judge_110 : decode prog_12_method_2_code 110 = .ok (.goto 4, 3) := by decide +kernel
theorem d_Pr_judge_113 : decode prog_12_method_2_code 113 = .ok (.iconst 0, 1) := by decide +kernel
theorem d_Pr_judge_114 : decode prog_12_method_2_code 114 = .ok (.ireturn, 1) := by decide +kernel
theorem d_Pr_judge_115 : decode prog_12_method_2_code 115 = .ok (.aload_n 1, 1) := by decide +kernel
theorem d_Pr_judge_116 : decode prog_12_method_2_code 116 = .ok (.aload_n 0, 1) := by decide +kernel
theorem d_Pr_judge_117 : decode prog_12_method_2_code 117 = .ok (.getfield 15, 3) := by decide +kernel
theorem d_Pr_judge_120 : decode prog_12_method_2_code 120 = .ok (.invokevirtual 31, 3) := by decide +kernel
theorem d_Pr_judge_123 : decode prog_12_method_2_code 123 = .ok (.ifCond .eq 7, 3) := by decide +kernel
theorem d_Pr_judge_126 : decode prog_12_method_2_code 126 = .ok (.iconst 2, 1) := by decide +kernel
theorem d_Pr_judge_127 : decode prog_12_method_2_code 127 = .ok (.goto 4, 3) := by decide +kernel
theorem d_Pr_judge_130 : decode prog_12_method_2_code 130 = .ok (.iconst 0, 1) := by decide +kernel
theorem d_Pr_judge_131 : decode prog_12_method_2_code 131 = .ok (.ireturn, 1) := by decide +kernel
theorem d_In_has_0 : decode prog_6_method_11_code 0 = .ok (.iconst 0, 1) := by decide +kernel
theorem d_In_has_1 : decode prog_6_method_11_code 1 = .ok (.istore_n 2, 1) := by decide +kernel
theorem d_In_has_2 : decode prog_6_method_11_code 2 = .ok (.iload_n 2, 1) := by decide +kernel
theorem d_In_has_3 : decode prog_6_method_11_code 3 = .ok (.aload_n 0, 1) := by decide +kernel
theorem d_In_has_4 : decode prog_6_method_11_code 4 = .ok (.getfield 15, 3) := by decide +kernel
theorem d_In_has_7 : decode prog_6_method_11_code 7 = .ok (.if_icmp .ge 21, 3) := by decide +kernel
theorem d_In_has_10 : decode prog_6_method_11_code 10 = .ok (.aload_n 0, 1) := by decide +kernel
theorem d_In_has_11 : decode prog_6_method_11_code 11 = .ok (.iload_n 2, 1) := by decide +kernel
theorem d_In_has_12 : decode prog_6_method_11_code 12 = .ok (.iconst 0, 1) := by decide +kernel
theorem d_In_has_13 : decode prog_6_method_11_code 13 = .ok (.invokevirtual 32, 3) := by decide +kernel
theorem d_In_has_16 : decode prog_6_method_11_code 16 = .ok (.iload_n 1, 1) := by decide +kernel
theorem d_In_has_17 : decode prog_6_method_11_code 17 = .ok (.if_icmp .ne 5, 3) := by decide +kernel
theorem d_In_has_20 : decode prog_6_method_11_code 20 = .ok (.iconst 1, 1) := by decide +kernel
theorem d_In_has_21 : decode prog_6_method_11_code 21 = .ok (.ireturn, 1) := by decide +kernel
theorem d_In_has_22 : decode prog_6_method_11_code 22 = .ok (.iinc 2 1, 3) := by decide +kernel
theorem d_In_has_25 : decode prog_6_method_11_code 25 = .ok (.goto (-23), 3) := by decide +kernel
theorem d_In_has_28 : decode prog_6_method_11_code 28 = .ok (.iconst 0, 1) := by decide +kernel
theorem d_In_has_29 : decode prog_6_method_11_code 29 = .ok (.ireturn, 1) := by decide +kernel
theorem d_In_falls_0 : decode prog_6_method_12_code 0 = .ok (.iconst 1, 1) := by decide +kernel
theorem d_In_falls_1 : decode prog_6_method_12_code 1 = .ok (.istore_n 1, 1) := by decide +kernel
theorem d_In_falls_2 : decode prog_6_method_12_code 2 = .ok (.iload_n 1, 1) := by decide +kernel
theorem d_In_falls_3 : decode prog_6_method_12_code 3 = .ok (.aload_n 0, 1) := by decide +kernel
theorem d_In_falls_4 : decode prog_6_method_12_code 4 = .ok (.getfield 15, 3) := by decide +kernel
theorem d_In_falls_7 : decode prog_6_method_12_code 7 = .ok (.if_icmp .ge 28, 3) := by decide +kernel
theorem d_In_falls_10 : decode prog_6_method_12_code 10 = .ok (.aload_n 0, 1) := by decide +kernel
theorem d_In_falls_11 : decode prog_6_method_12_code 11 = .ok (.iload_n 1, 1) := by decide +kernel
theorem d_In_falls_12 : decode prog_6_method_12_code 12 = .ok (.iconst 0, 1) := by decide +kernel
theorem d_In_falls_13 : decode prog_6_method_12_code 13 = .ok (.invokevirtual 32, 3) := by decide +kernel
theorem d_In_falls_16 : decode prog_6_method_12_code 16 = .ok (.aload_n 0, 1) := by decide +kernel
theorem d_In_falls_17 : decode prog_6_method_12_code 17 = .ok (.iload_n 1, 1) := by decide +kernel
theorem d_In_falls_18 : decode prog_6_method_12_code 18 = .ok (.iconst 1, 1) := by decide +kernel
theorem d_In_falls_19 : decode prog_6_method_12_code 19 = .ok (.isub, 1) := by decide +kernel
theorem d_In_falls_20 : decode prog_6_method_12_code 20 = .ok (.iconst 0, 1) := by decide +kernel
theorem d_In_falls_21 : decode prog_6_method_12_code 21 = .ok (.invokevirtual 32, 3) := by decide +kernel
theorem d_In_falls_24 : decode prog_6_method_12_code 24 = .ok (.if_icmp .ge 5, 3) := by decide +kernel
theorem d_In_falls_27 : decode prog_6_method_12_code 27 = .ok (.iconst 1, 1) := by decide +kernel
theorem d_In_falls_28 : decode prog_6_method_12_code 28 = .ok (.ireturn, 1) := by decide +kernel
theorem d_In_falls_29 : decode prog_6_method_12_code 29 = .ok (.iinc 1 1, 3) := by decide +kernel
theorem d_In_falls_32 : decode prog_6_method_12_code 32 = .ok (.goto (-30), 3) := by decide +kernel
theorem d_In_falls_35 : decode prog_6_method_12_code 35 = .ok (.iconst 0, 1) := by decide +kernel
theorem d_In_falls_36 : decode prog_6_method_12_code 36 = .ok (.ireturn, 1) := by decide +kernel
theorem d_Dr_sow_0 : decode prog_3_method_4_code 0 = .ok (.aload_n 0, 1) := by decide +kernel
theorem d_Dr_sow_1 : decode prog_3_method_4_code 1 = .ok (.lload_n 1, 1) := by decide +kernel
theorem d_Dr_sow_2 : decode prog_3_method_4_code 2 = .ok (.putfield 47, 3) := by decide +kernel
theorem d_Dr_sow_5 : decode prog_3_method_4_code 5 = .ok (.return_, 1) := by decide +kernel
theorem d_Dr_beginTry_0 : decode prog_3_method_5_code 0 = .ok (.aload_n 0, 1) := by decide +kernel
theorem d_Dr_beginTry_1 : decode prog_3_method_5_code 1 = .ok (.iload_n 1, 1) := by decide +kernel
theorem d_Dr_beginTry_2 : decode prog_3_method_5_code 2 = .ok (.putfield 51, 3) := by decide +kernel
theorem d_Dr_beginTry_5 : decode prog_3_method_5_code 5 = .ok (.aload_n 0, 1) := by decide +kernel
theorem d_Dr_beginTry_6 : decode prog_3_method_5_code 6 = .ok (.iconst 1, 1) := by decide +kernel
theorem d_Dr_beginTry_7 : decode prog_3_method_5_code 7 = .ok (.invokevirtual 44, 3) := by decide +kernel
theorem d_Dr_beginTry_10 : decode prog_3_method_5_code 10 = .ok (.return_, 1) := by decide +kernel
theorem d_Kp_init_0 : decode prog_8_method_1_code 0 = .ok (.aload_n 0, 1) := by decide +kernel
theorem d_Kp_init_1 : decode prog_8_method_1_code 1 = .ok (.invokespecial 1, 3) := by decide +kernel
theorem d_Kp_init_4 : decode prog_8_method_1_code 4 = .ok (.aload_n 0, 1) := by decide +kernel
theorem d_Kp_init_5 : decode prog_8_method_1_code 5 = .ok (.new 7, 3) := by decide +kernel
theorem d_Kp_init_8 : decode prog_8_method_1_code 8 = .ok (.dup, 1) := by decide +kernel
theorem d_Kp_init_9 : decode prog_8_method_1_code 9 = .ok (.invokespecial 9, 3) := by decide +kernel
theorem d_Kp_init_12 : decode prog_8_method_1_code 12 = .ok (.putfield 10, 3) := by decide +kernel
theorem d_Kp_init_15 : decode prog_8_method_1_code 15 = .ok (.aload_n 0, 1) := by decide +kernel
theorem d_Kp_init_16 : decode prog_8_method_1_code 16 = .ok (.iload_n 1, 1) := by decide +kernel
theorem d_Kp_init_17 : decode prog_8_method_1_code 17 = .ok (.putfield 16, 3) := by decide +kernel
theorem d_Kp_init_20 : decode prog_8_method_1_code 20 = .ok (.aload_n 0, 1) := by decide +kernel
theorem d_Kp_init_21 : decode prog_8_method_1_code 21 = .ok (.iload_n 2, 1) := by decide +kernel
theorem d_Kp_init_22 : decode prog_8_method_1_code 22 = .ok (.putfield 20, 3) := by decide +kernel
theorem d_Kp_init_25 : decode prog_8_method_1_code 25 = .ok (.aload_n 0, 1) := by decide +kernel
theorem d_Kp_init_26 : decode prog_8_method_1_code 26 = .ok (.aload 4, 2) := by decide +kernel
theorem d_Kp_init_28 : decode prog_8_method_1_code 28 = .ok (.putfield 23, 3) := by decide +kernel
theorem d_Kp_init_31 : decode prog_8_method_1_code 31 = .ok (.aload_n 0, 1) := by decide +kernel
theorem d_Kp_init_32 : decode prog_8_method_1_code 32 = .ok (.getfield 10, 3) := by decide +kernel
theorem d_Kp_init_35 : decode prog_8_method_1_code 35 = .ok (.aload_n 3, 1) := by decide +kernel
theorem d_Kp_init_36 : decode prog_8_method_1_code 36 = .ok (.invokevirtual 27, 3) := by decide +kernel
theorem d_Kp_init_39 : decode prog_8_method_1_code 39 = .ok (.return_, 1) := by decide +kernel
theorem d_Dr_beginFirstTurn_0 : decode prog_3_method_6_code 0 = .ok (.aload_n 0, 1) := by decide +kernel
theorem d_Dr_beginFirstTurn_1 : decode prog_3_method_6_code 1 = .ok (.getfield 25, 3) := by decide +kernel
theorem d_Dr_beginFirstTurn_4 : decode prog_3_method_6_code 4 = .ok (.iconst 0, 1) := by decide +kernel
theorem d_Dr_beginFirstTurn_5 : decode prog_3_method_6_code 5 = .ok (.invokevirtual 32, 3) := by decide +kernel
theorem d_Dr_beginFirstTurn_8 : decode prog_3_method_6_code 8 = .ok (.aload_n 0, 1) := by decide +kernel
theorem d_Dr_beginFirstTurn_9 : decode prog_3_method_6_code 9 = .ok (.iconst 2, 1) := by decide +kernel
theorem d_Dr_beginFirstTurn_10 : decode prog_3_method_6_code 10 = .ok (.invokevirtual 44, 3) := by decide +kernel
theorem d_Dr_beginFirstTurn_13 : decode prog_3_method_6_code 13 = .ok (.return_, 1) := by decide +kernel
theorem d_Dr_beginNextTurn_0 : decode prog_3_method_7_code 0 = .ok (.aload_n 0, 1) := by decide +kernel
theorem d_Dr_beginNextTurn_1 : decode prog_3_method_7_code 1 = .ok (.getfield 12, 3) := by decide +kernel
theorem d_Dr_beginNextTurn_4 : decode prog_3_method_7_code 4 = .ok (.invokevirtual 54, 3) := by decide +kernel
theorem d_Dr_beginNextTurn_7 : decode prog_3_method_7_code 7 = .ok (.iconst 1, 1) := by decide +kernel
theorem d_Dr_beginNextTurn_8 : decode prog_3_method_7_code 8 = .ok (.isub, 1) := by decide +kernel
theorem d_Dr_beginNextTurn_9 : decode prog_3_method_7_code 9 = .ok (.istore_n 1, 1) := by decide +kernel
theorem d_Dr_beginNextTurn_10 : decode prog_3_method_7_code 10 = .ok (.iload_n 1, 1) := by decide +kernel
theorem d_Dr_beginNextTurn_11 : decode prog_3_method_7_code 11 = .ok (.ifCond .lt 75, 3) := by decide +kernel
theorem d_Dr_beginNextTurn_14 : decode prog_3_method_7_code 14 = .ok (.iload_n 1, 1) := by decide +kernel
theorem d_Dr_beginNextTurn_15 : decode prog_3_method_7_code 15 = .ok (.aload_n 0, 1) := by decide +kernel
theorem d_Dr_beginNextTurn_16 : decode prog_3_method_7_code 16 = .ok (.getfield 21, 3) := by decide +kernel
theorem d_Dr_beginNextTurn_19 : decode prog_3_method_7_code 19 = .ok (.arraylength, 1) := by decide +kernel
theorem d_Dr_beginNextTurn_20 : decode prog_3_method_7_code 20 = .ok (.if_icmp .ge 66, 3) := by decide +kernel
theorem d_Dr_beginNextTurn_23 : decode prog_3_method_7_code 23 = .ok (.aload_n 0, 1) := by decide +kernel
theorem d_Dr_beginNextTurn_24 : decode prog_3_method_7_code 24 = .ok (.getfield 12, 3) := by decide +kernel
theorem d_Dr_beginNextTurn_27 : decode prog_3_method_7_code 27 = .ok (.iload_n 1, 1) := by decide +kernel
theorem d_Dr_beginNextTurn_28 : decode prog_3_method_7_code 28 = .ok (.iconst 0, 1) := by decide +kernel
theorem d_Dr_beginNextTurn_29 : decode prog_3_method_7_code 29 = .ok (.invokevirtual 58, 3) := by decide +kernel
theorem d_Dr_beginNextTurn_32 : decode prog_3_method_7_code 32 = .ok (.istore_n 2, 1) := by decide +kernel
theorem d_Dr_beginNextTurn_33 : decode prog_3_method_7_code 33 = .ok (.iload_n 2, 1) := by decide +kernel
theorem d_Dr_beginNextTurn_34 : decode prog_3_method_7_code 34 = .ok (.aload_n 0, 1) := by decide +kernel
theorem d_Dr_beginNextTurn_35 : decode prog_3_method_7_code 35 = .ok (.getfield 21, 3) := by decide +kernel
theorem d_Dr_beginNextTurn_38 : decode prog_3_method_7_code 38 = .ok (.iload_n 1, 1) := by decide +kernel
theorem d_Dr_beginNextTurn_39 : decode prog_3_method_7_code 39 = .ok (.iaload, 1) := by decide +kernel
theorem d_Dr_beginNextTurn_40 : decode prog_3_method_7_code 40 = .ok (.if_icmp .ge 40, 3) := by decide +kernel
theorem d_Dr_beginNextTurn_43 : decode prog_3_method_7_code 43 = .ok (.aload_n 0, 1) := by decide +kernel
theorem d_Dr_beginNextTurn_44 : decode prog_3_method_7_code 44 = .ok (.getfield 25, 3) := by decide +kernel
theorem d_Dr_beginNextTurn_47 : decode prog_3_method_7_code 47 = .ok (.aload_n 0, 1) := by decide +kernel
theorem d_Dr_beginNextTurn_48 : decode prog_3_method_7_code 48 = .ok (.getfield 12, 3) := by decide +kernel
theorem d_Dr_beginNextTurn_51 : decode prog_3_method_7_code 51 = .ok (.invokevirtual 40, 3) := by decide +kernel
theorem d_Dr_beginNextTurn_54 : decode prog_3_method_7_code 54 = .ok (.aload_n 0, 1) := by decide +kernel
theorem d_Dr_beginNextTurn_55 : decode prog_3_method_7_code 55 = .ok (.getfield 25, 3) := by decide +kernel
theorem d_Dr_beginNextTurn_58 : decode prog_3_method_7_code 58 = .ok (.iload_n 1, 1) := by decide +kernel
theorem d_Dr_beginNextTurn_59 : decode prog_3_method_7_code 59 = .ok (.invokevirtual 32, 3) := by decide +kernel
theorem d_Dr_beginNextTurn_62 : decode prog_3_method_7_code 62 = .ok (.aload_n 0, 1) := by decide +kernel
theorem d_Dr_beginNextTurn_63 : decode prog_3_method_7_code 63 = .ok (.getfield 25, 3) := by decide +kernel
theorem d_Dr_beginNextTurn_66 : decode prog_3_method_7_code 66 = .ok (.iload_n 2, 1) := by decide +kernel
theorem d_Dr_beginNextTurn_67 : decode prog_3_method_7_code 67 = .ok (.iconst 1, 1) := by decide +kernel
theorem d_Dr_beginNextTurn_68 : decode prog_3_method_7_code 68 = .ok (.iadd, 1) := by decide +kernel
theorem d_Dr_beginNextTurn_69 : decode prog_3_method_7_code 69 = .ok (.invokevirtual 62, 3) := by decide +kernel
theorem d_Dr_beginNextTurn_72 : decode prog_3_method_7_code 72 = .ok (.pop, 1) := by decide +kernel
theorem d_Dr_beginNextTurn_73 : decode prog_3_method_7_code 73 = .ok (.aload_n 0, 1) := by decide +kernel
theorem d_Dr_beginNextTurn_74 : decode prog_3_method_7_code 74 = .ok (.iconst 2, 1) := by decide +kernel
theorem d_Dr_beginNextTurn_75 : decode prog_3_method_7_code 75 = .ok (.invokevirtual 44, 3) := by decide +kernel
theorem d_Dr_beginNextTurn_78 : decode prog_3_method_7_code 78 = .ok (.iconst 1, 1) := by decide +kernel
theorem d_Dr_beginNextTurn_79 : decode prog_3_method_7_code 79 = .ok (.ireturn, 1) := by decide +kernel
theorem d_Dr_beginNextTurn_80 : decode prog_3_method_7_code 80 = .ok (.iinc 1 (-1), 3) := by decide +kernel
theorem d_Dr_beginNextTurn_83 : decode prog_3_method_7_code 83 = .ok (.goto (-73), 3) := by decide +kernel
theorem d_Dr_beginNextTurn_86 : decode prog_3_method_7_code 86 = .ok (.iconst 0, 1) := by decide +kernel
theorem d_Dr_beginNextTurn_87 : decode prog_3_method_7_code 87 = .ok (.ireturn, 1) := by decide +kernel
end
section
/-! decode rows -/
theorem d_PS_init_0 : decode prog_1_method_1_code 0 = .ok (.aload_n 0, 1) := by decide +kernel
theorem d_PS_init_1 : decode prog_1_method_1_code 1 = .ok (.invokespecial 1, 3) := by decide +kernel
theorem d_PS_init_4 : decode prog_1_method_1_code 4 = .ok (.aload_n 0, 1) := by decide +kernel
theorem d_PS_init_5 : decode prog_1_method_1_code 5 = .ok (.bipush 20, 2) := by decide +kernel
theorem d_PS_init_7 : decode prog_1_method_1_code 7 = .ok (.anewarray 9, 3) := by decide +kernel
theorem d_PS_init_10 : decode prog_1_method_1_code 10 = .ok (.putfield 11, 3) := by decide +kernel
theorem d_PS_init_13 : decode prog_1_method_1_code 13 = .ok (.aload_n 0, 1) := by decide +kernel
theorem d_PS_init_14 : decode prog_1_method_1_code 14 = .ok (.bipush 10, 2) := by decide +kernel
theorem d_PS_init_16 : decode prog_1_method_1_code 16 = .ok (.anewarray 15, 3) := by decide +kernel
theorem d_PS_init_19 : decode prog_1_method_1_code 19 = .ok (.putfield 17, 3) := by decide +kernel
theorem d_PS_init_22 : decode prog_1_method_1_code 22 = .ok (.aload_n 0, 1) := by decide +kernel
theorem d_PS_init_23 : decode prog_1_method_1_code 23 = .ok (.new 21, 3) := by decide +kernel
theorem d_PS_init_26 : decode prog_1_method_1_code 26 = .ok (.dup, 1) := by decide +kernel
theorem d_PS_init_27 : decode prog_1_method_1_code 27 = .ok (.invokespecial 23, 3) := by decide +kernel
theorem d_PS_init_30 : decode prog_1_method_1_code 30 = .ok (.putfield 24, 3) := by decide +kernel
theorem d_PS_init_33 : decode prog_1_method_1_code 33 = .ok (.aload_n 0, 1) := by decide +kernel
theorem d_PS_init_34 : decode prog_1_method_1_code 34 = .ok (.new 21, 3) := by decide +kernel
theorem d_PS_init_37 : decode prog_1_method_1_code 37 = .ok (.dup, 1) := by decide +kernel
theorem d_PS_init_38 : decode prog_1_method_1_code 38 = .ok (.invokespecial 23, 3) := by decide +kernel
theorem d_PS_init_41 : decode prog_1_method_1_code 41 = .ok (.putfield 28, 3) := by decide +kernel
theorem d_PS_init_44 : decode prog_1_method_1_code 44 = .ok (.aload_n 0, 1) := by decide +kernel
theorem d_PS_init_45 : decode prog_1_method_1_code 45 = .ok (.new 21, 3) := by decide +kernel
theorem d_PS_init_48 : decode prog_1_method_1_code 48 = .ok (.dup, 1) := by decide +kernel
theorem d_PS_init_49 : decode prog_1_method_1_code 49 = .ok (.invokespecial 23, 3) := by decide +kernel
theorem d_PS_init_52 : decode prog_1_method_1_code 52 = .ok (.putfield 31, 3) := by decide +kernel
theorem d_PS_init_55 : decode prog_1_method_1_code 55 = .ok (.aload_n 0, 1) := by decide +kernel
theorem d_PS_init_56 : decode prog_1_method_1_code 56 = .ok (.new 21, 3) := by decide +kernel
theorem d_PS_init_59 : decode prog_1_method_1_code 59 = .ok (.dup, 1) := by decide +kernel
theorem d_PS_init_60 : decode prog_1_method_1_code 60 = .ok (.invokespecial 23, 3) := by decide +kernel
theorem d_PS_init_63 : decode prog_1_method_1_code 63 = .ok (.putfield 34, 3) := by decide +kernel
theorem d_PS_init_66 : decode prog_1_method_1_code 66 = .ok (.aload_n 0, 1) := by decide +kernel
theorem d_PS_init_67 : decode prog_1_method_1_code 67 = .ok (.new 37, 3) := by decide +kernel
theorem d_PS_init_70 : decode prog_1_method_1_code 70 = .ok (.dup, 1) := by decide +kernel
theorem d_PS_init_71 : decode prog_1_method_1_code 71 = .ok (.invokespecial 39, 3) := by decide +kernel
theorem d_PS_init_74 : decode prog_1_method_1_code 74 = .ok (.putfield 40, 3) := by decide +kernel
theorem d_PS_init_77 : decode prog_1_method_1_code 77 = .ok (.return_, 1) := by decide +kernel
theorem d_PS_generator_0 : decode prog_1_method_2_code 0 = .ok (.aload_n 0, 1) := by decide +kernel
theorem d_PS_generator_1 : decode prog_1_method_2_code 1 = .ok (.getfield 44, 3) := by decide +kernel
theorem d_PS_generator_4 : decode prog_1_method_2_code 4 = .ok (.bipush 20, 2) := by decide +kernel
theorem d_PS_generator_6 : decode prog_1_method_2_code 6 = .ok (.if_icmp .lt 5, 3) := by decide +kernel
theorem d_PS_generator_9 : decode prog_1_method_2_code 9 = .ok (.iconst (-1), 1) := by decide +kernel
theorem d_PS_generator_10 : decode prog_1_method_2_code 10 = .ok (.ireturn, 1) := by decide +kernel
theorem d_PS_generator_11 : decode prog_1_method_2_code 11 = .ok (.aload_n 0, 1) := by decide +kernel
theorem d_PS_generator_12 : decode prog_1_method_2_code 12 = .ok (.iload_n 1, 1) := by decide +kernel
theorem d_PS_generator_13 : decode prog_1_method_2_code 13 = .ok (.iload_n 2, 1) := by decide +kernel
theorem d_PS_generator_14 : decode prog_1_method_2_code 14 = .ok (.iload_n 3, 1) := by decide +kernel
theorem d_PS_generator_15 : decode prog_1_method_2_code 15 = .ok (.invokevirtual 48, 3) := by decide +kernel
theorem d_PS_generator_18 : decode prog_1_method_2_code 18 = .ok (.astore 4, 2) := by decide +kernel
theorem d_PS_generator_20 : decode prog_1_method_2_code 20 = .ok (.aload 4, 2) := by decide +kernel
theorem d_PS_generator_22 : decode prog_1_method_2_code 22 = .ok (.ifnull 13, 3) := by decide +kernel
theorem d_PS_generator_25 : decode prog_1_method_2_code 25 = .ok (.aload 4, 2) := by decide +kernel
theorem d_PS_generator_27 : decode prog_1_method_2_code 27 = .ok (.getfield 52, 3) := by decide +kernel
theorem d_PS_generator_30 : decode prog_1_method_2_code 30 = .ok (.bipush 8, 2) := by decide +kernel
theorem d_PS_generator_32 : decode prog_1_method_2_code 32 = .ok (.if_icmp .le 5, 3) := by decide +kernel
theorem d_PS_generator_35 : decode prog_1_method_2_code 35 = .ok (.iconst (-1), 1) := by decide +kernel
theorem d_PS_generator_36 : decode prog_1_method_2_code 36 = .ok (.ireturn, 1) := by decide +kernel
theorem d_PS_generator_37 : decode prog_1_method_2_code 37 = .ok (.aload_n 0, 1) := by decide +kernel
theorem d_PS_generator_38 : decode prog_1_method_2_code 38 = .ok (.getfield 11, 3) := by decide +kernel
theorem d_PS_generator_41 : decode prog_1_method_2_code 41 = .ok (.aload_n 0, 1) := by decide +kernel
theorem d_PS_generator_42 : decode prog_1_method_2_code 42 = .ok (.getfield 44, 3) := by decide +kernel
theorem d_PS_generator_45 : decode prog_1_method_2_code 45 = .ok (.aload 4, 2) := by decide +kernel
theorem d_PS_generator_47 : decode prog_1_method_2_code 47 = .ok (.aastore, 1) := by decide +kernel
theorem d_PS_generator_48 : decode prog_1_method_2_code 48 = .ok (.aload_n 0, 1) := by decide +kernel
theorem d_PS_generator_49 : decode prog_1_method_2_code 49 = .ok (.dup, 1) := by decide +kernel
theorem d_PS_generator_50 : decode prog_1_method_2_code 50 = .ok (.getfield 44, 3) := by decide +kernel
theorem d_PS_generator_53 : decode prog_1_method_2_code 53 = .ok (.iconst 1, 1) := by decide +kernel
theorem d_PS_generator_54 : decode prog_1_method_2_code 54 = .ok (.iadd, 1) := by decide +kernel
theorem d_PS_generator_55 : decode prog_1_method_2_code 55 = .ok (.putfield 44, 3) := by decide +kernel
theorem d_PS_generator_58 : decode prog_1_method_2_code 58 = .ok (.aload_n 0, 1) := by decide +kernel
theorem d_PS_generator_59 : decode prog_1_method_2_code 59 = .ok (.getfield 44, 3) := by decide +kernel
theorem d_PS_generator_62 : decode prog_1_method_2_code 62 = .ok (.iconst 1, 1) := by decide +kernel
theorem d_PS_generator_63 : decode prog_1_method_2_code 63 = .ok (.isub, 1) := by decide +kernel
theorem d_PS_generator_64 : decode prog_1_method_2_code 64 = .ok (.ireturn, 1) := by decide +kernel
theorem d_PS_makeGenerator_0 : decode prog_1_method_16_code 0 = .ok (.iload_n 1, 1) := by decide +kernel
theorem d_PS_makeGenerator_1 : decode prog_1_method_16_code 1 = .ok (.ifCond .ne 36, 3) := by decide +kernel
theorem d_PS_makeGenerator_4 : decode prog_1_method_16_code 4 = .ok (.iload_n 2, 1) := by decide +kernel
theorem d_PS_makeGenerator_5 : decode prog_1_method_16_code 5 = .ok (.invokestatic 159, 3) := by decide +kernel
theorem d_PS_makeGenerator_8 : decode prog_1_method_16_code 8 = .ok (.ifCond .eq 27, 3) := by decide +kernel
theorem d_PS_makeGenerator_11 : decode prog_1_method_16_code 11 = .ok (.iload_n 3, 1) := by decide +kernel
theorem d_PS_makeGenerator_12 : decode prog_1_method_16_code 12 = .ok (.invokestatic 159, 3) := by decide +kernel
theorem d_PS_makeGenerator_15 : decode prog_1_method_16_code 15 = .ok (.ifCond .eq 20, 3) := by decide +kernel
theorem d_PS_makeGenerator_18 : decode prog_1_method_16_code 18 = .ok (.iload_n 2, 1) := by decide +kernel
theorem d_PS_makeGenerator_19 : decode prog_1_method_16_code 19 = .ok (.iload_n 3, 1) := by decide +kernel
theorem d_PS_makeGenerator_20 : decode prog_1_method_16_code 20 = .ok (.if_icmp .gt 15, 3) := by decide +kernel
theorem d_PS_makeGenerator_23 : decode prog_1_method_16_code 23 = .ok (.new 162, 3) := by decide +kernel
theorem d_PS_makeGenerator_26 : decode prog_1_method_16_code 26 = .ok (.dup, 1) := by decide +kernel
theorem d_PS_makeGenerator_27 : decode prog_1_method_16_code 27 = .ok (.iload_n 2, 1) := by decide +kernel
theorem d_PS_makeGenerator_28 : decode prog_1_method_16_code 28 = .ok (.iload_n 3, 1) := by decide +kernel
theorem d_PS_makeGenerator_29 : decode prog_1_method_16_code 29 = .ok (.invokespecial 164, 3) := by decide +kernel
theorem d_PS_makeGenerator_32 : decode prog_1_method_16_code 32 = .ok (.goto 4, 3) := by decide +kernel
theorem d_PS_makeGenerator_35 : decode prog_1_method_16_code 35 = .ok (.aconst_null, 1) := by decide +kernel
theorem d_PS_makeGenerator_36 : decode prog_1_method_16_code 36 = .ok (.areturn, 1) := by decide +kernel
theorem d_PS_makeGenerator_37 : decode prog_1_method_16_code 37 = .ok (.aload_n 0, 1) := by decide +kernel
theorem d_PS_makeGenerator_38 : decode prog_1_method_16_code 38 = .ok (.iload_n 2, 1) := by decide +kernel
theorem d_PS_makeGenerator_39 : decode prog_1_method_16_code 39 = .ok (.invokevirtual 61, 3) := by decide +kernel
theorem d_PS_makeGenerator_42 : decode prog_1_method_16_code 42 = .ok (.astore 4, 2) := by decide +kernel
theorem d_PS_makeGenerator_44 : decode prog_1_method_16_code 44 = .ok (.aload 4, 2) := by decide +kernel
theorem d_PS_makeGenerator_46 : decode prog_1_method_16_code 46 = .ok (.ifnonnull 5, 3) := by decide +kernel
theorem d_PS_makeGenerator_49 : decode prog_1_method_16_code 49 = .ok (.aconst_null, 1) := by decide +kernel
theorem d_PS_makeGenerator_50 : decode prog_1_method_16_code 50 = .ok (.areturn, 1) := by decide +kernel
theorem d_PS_makeGenerator_51 : decode prog_1_method_16_code 51 = .ok (.iload_n 1, 1) := by decide +kernel
theorem d_PS_makeGenerator_52 : decode prog_1_method_16_code 52 = .ok (.tableswitch 107 1 5 #[36, 107, 107, 61, 85], 36) := by decide +kernel
theorem d_PS_makeGenerator_88 : decode prog_1_method_16_code 88 = .ok (.iload_n 3, 1) := by decide +kernel
theorem d_PS_makeGenerator_89 : decode prog_1_method_16_code 89 = .ok (.ifCond .lt 22, 3) := by decide +kernel
theorem d_PS_makeGenerator_92 : decode prog_1_method_16_code 92 = .ok (.iload_n 3, 1) := by decide +kernel
theorem d_PS_makeGenerator_93 : decode prog_1_method_16_code 93 = .ok (.bipush 9, 2) := by decide +kernel
theorem d_PS_makeGenerator_95 : decode prog_1_method_16_code 95 = .ok (.if_icmp .gt 16, 3) := by decide +kernel
theorem d_PS_makeGenerator_98 : decode prog_1_method_16_code 98 = .ok (.new 167, 3) := by decide +kernel
theorem d_PS_makeGenerator_101 : decode prog_1_method_16_code 101 = .ok (.dup, 1) := by decide +kernel
theorem d_PS_makeGenerator_102 : decode prog_1_method_16_code 102 = .ok (.aload 4, 2) := by decide +kernel
theorem d_PS_makeGenerator_104 : decode prog_1_method_16_code 104 = .ok (.iload_n 3, 1) := by decide +kernel
theorem d_PS_makeGenerator_105 : decode prog_1_method_16_code 105 = .ok (.invokespecial 169, 3) := by decide +kernel
theorem d_PS_makeGenerator_108 : decode prog_1_method_16_code 108 = .ok (.goto 4, 3) := by decide +kernel
theorem d_PS_makeGenerator_111 : decode prog_1_method_16_code 111 = .ok (.aconst_null, 1) := by decide +kernel
theorem d_PS_makeGenerator_112 : decode prog_1_method_16_code 112 = .ok (.areturn, 1) := by decide +kernel
theorem d_PS_makeGenerator_113 : decode prog_1_method_16_code 113 = .ok (.iload_n 3, 1) := by decide +kernel
theorem d_PS_makeGenerator_114 : decode prog_1_method_16_code 114 = .ok (.ifCond .eq 8, 3) := by decide +kernel
theorem d_PS_makeGenerator_117 : decode prog_1_method_16_code 117 = .ok (.iload_n 3, 1) := by decide +kernel
theorem d_PS_makeGenerator_118 : decode prog_1_method_16_code 118 = .ok (.iconst 1, 1) := by decide +kernel
theorem d_PS_makeGenerator_119 : decode prog_1_method_16_code 119 = .ok (.if_icmp .ne 16, 3) := by decide +kernel
theorem d_PS_makeGenerator_122 : decode prog_1_method_16_code 122 = .ok (.new 172, 3) := by decide +kernel
theorem d_PS_makeGenerator_125 : decode prog_1_method_16_code 125 = .ok (.dup, 1) := by decide +kernel
theorem d_PS_makeGenerator_126 : decode prog_1_method_16_code 126 = .ok (.aload 4, 2) := by decide +kernel
theorem d_PS_makeGenerator_128 : decode prog_1_method_16_code 128 = .ok (.iload_n 3, 1) := by decide +kernel
theorem d_PS_makeGenerator_129 : decode prog_1_method_16_code 129 = .ok (.invokespecial 174, 3) := by decide +kernel
theorem d_PS_makeGenerator_132 : decode prog_1_method_16_code 132 = .ok (.goto 4, 3) := by decide +kernel
theorem d_PS_makeGenerator_135 : decode prog_1_method_16_code 135 = .ok (.aconst_null, 1) := by decide +kernel
theorem d_PS_makeGenerator_136 : decode prog_1_method_16_code 136 = .ok (.areturn, 1) := by decide +kernel
theorem d_PS_makeGenerator_137 : decode prog_1_method_16_code 137 = .ok (.iload_n 3, 1) := by decide +kernel
theorem d_PS_makeGenerator_138 : decode prog_1_method_16_code 138 = .ok (.invokestatic 159, 3) := by decide +kernel
theorem d_PS_makeGenerator_141 : decode prog_1_method_16_code 141 = .ok (.ifCond .eq 16, 3) := by decide +kernel
theorem d_PS_makeGenerator_144 : decode prog_1_method_16_code 144 = .ok (.new 175, 3) := by decide +kernel
theorem d_PS_makeGenerator_147 : decode prog_1_method_16_code 147 = .ok (.dup, 1) := by decide +kernel
theorem d_PS_makeGenerator_148 : decode prog_1_method_16_code 148 = .ok (.aload 4, 2) := by decide +kernel
theorem d_PS_makeGenerator_150 : decode prog_1_method_16_code 150 = .ok (.iload_n 3, 1) := by decide +kernel
theorem d_PS_makeGenerator_151 : decode prog_1_method_16_code 151 = .ok (.invokespecial 177, 3) := by decide +kernel
theorem d_PS_makeGenerator_154 : decode prog_1_method_16_code 154 = .ok (.goto 4, 3) := by decide +kernel
theorem d_PS_makeGenerator_157 : decode prog_1_method_16_code 157 = .ok (.aconst_null, 1) := by decide +kernel
theorem d_PS_makeGenerator_158 : decode prog_1_method_16_code 158 = .ok (.areturn, 1) := by decide +kernel
theorem d_PS_makeGenerator_159 : decode prog_1_method_16_code 159 = .ok (.iload_n 1, 1) := by decide +kernel
theorem d_PS_makeGenerator_160 : decode prog_1_method_16_code 160 = .ok (.aload 4, 2) := by decide +kernel
theorem d_PS_makeGenerator_162 : decode prog_1_method_16_code 162 = .ok (.aload_n 0, 1) := by decide +kernel
theorem d_PS_makeGenerator_163 : decode prog_1_method_16_code 163 = .ok (.iload_n 3, 1) := by decide +kernel
theorem d_PS_makeGenerator_164 : decode prog_1_method_16_code 164 = .ok (.invokevirtual 61, 3) := by decide +kernel
theorem d_PS_makeGenerator_167 : decode prog_1_method_16_code 167 = .ok (.invokestatic 178, 3) := by decide +kernel
theorem d_PS_makeGenerator_170 : decode prog_1_method_16_code 170 = .ok (.areturn, 1) := by decide +kernel
theorem d_PS_isNear_0 : decode prog_1_method_18_code 0 = .ok (.iload_n 0, 1) := by decide +kernel
theorem d_PS_isNear_1 : decode prog_1_method_18_code 1 = .ok (.sipush (-1000), 3) := by decide +kernel
theorem d_PS_isNear_4 : decode prog_1_method_18_code 4 = .ok (.if_icmp .lt 14, 3) := by decide +kernel
theorem d_PS_isNear_7 : decode prog_1_method_18_code 7 = .ok (.iload_n 0, 1) := by decide +kernel
theorem d_PS_isNear_8 : decode prog_1_method_18_code 8 = .ok (.sipush 1000, 3) := by decide +kernel
theorem d_PS_isNear_11 : decode prog_1_method_18_code 11 = .ok (.if_icmp .gt 7, 3) := by decide +kernel
theorem d_PS_isNear_14 : decode prog_1_method_18_code 14 = .ok (.iconst 1, 1) := by decide +kernel
theorem d_PS_isNear_15 : decode prog_1_method_18_code 15 = .ok (.goto 4, 3) := by decide +kernel
theorem d_PS_isNear_18 : decode prog_1_method_18_code 18 = .ok (.iconst 0, 1) := by decide +kernel
theorem d_PS_isNear_19 : decode prog_1_method_18_code 19 = .ok (.ireturn, 1) := by decide +kernel
theorem d_PS_generatorAt_0 : decode prog_1_method_14_code 0 = .ok (.iload_n 1, 1) := by decide +kernel
theorem d_PS_generatorAt_1 : decode prog_1_method_14_code 1 = .ok (.ifCond .lt 29, 3) := by decide +kernel
theorem d_PS_generatorAt_4 : decode prog_1_method_14_code 4 = .ok (.iload_n 1, 1) := by decide +kernel
theorem d_PS_generatorAt_5 : decode prog_1_method_14_code 5 = .ok (.aload_n 0, 1) := by decide +kernel
theorem d_PS_generatorAt_6 : decode prog_1_method_14_code 6 = .ok (.getfield 44, 3) := by decide +kernel
theorem d_PS_generatorAt_9 : decode prog_1_method_14_code 9 = .ok (.if_icmp .ge 21, 3) := by decide +kernel
theorem d_PS_generatorAt_12 : decode prog_1_method_14_code 12 = .ok (.iload_n 1, 1) := by decide +kernel
theorem d_PS_generatorAt_13 : decode prog_1_method_14_code 13 = .ok (.aload_n 0, 1) := by decide +kernel
theorem d_PS_generatorAt_14 : decode prog_1_method_14_code 14 = .ok (.getfield 11, 3) := by decide +kernel
theorem d_PS_generatorAt_17 : decode prog_1_method_14_code 17 = .ok (.arraylength, 1) := by decide +kernel
theorem d_PS_generatorAt_18 : decode prog_1_method_14_code 18 = .ok (.if_icmp .ge 12, 3) := by decide +kernel
theorem d_PS_generatorAt_21 : decode prog_1_method_14_code 21 = .ok (.aload_n 0, 1) := by decide +kernel
theorem d_PS_generatorAt_22 : decode prog_1_method_14_code 22 = .ok (.getfield 11, 3) := by decide +kernel
theorem d_PS_generatorAt_25 : decode prog_1_method_14_code 25 = .ok (.iload_n 1, 1) := by decide +kernel
theorem d_PS_generatorAt_26 : decode prog_1_method_14_code 26 = .ok (.aaload, 1) := by decide +kernel
theorem d_PS_generatorAt_27 : decode prog_1_method_14_code 27 = .ok (.goto 4, 3) := by decide +kernel
theorem d_PS_generatorAt_30 : decode prog_1_method_14_code 30 = .ok (.aconst_null, 1) := by decide +kernel
theorem d_PS_generatorAt_31 : decode prog_1_method_14_code 31 = .ok (.areturn, 1) := by decide +kernel
theorem d_PS_makeOfTwo_0 : decode prog_1_method_17_code 0 = .ok (.aload_n 1, 1) := by decide +kernel
theorem d_PS_makeOfTwo_1 : decode prog_1_method_17_code 1 = .ok (.ifnull 7, 3) := by decide +kernel
theorem d_PS_makeOfTwo_4 : decode prog_1_method_17_code 4 = .ok (.aload_n 2, 1) := by decide +kernel
theorem d_PS_makeOfTwo_5 : decode prog_1_method_17_code 5 = .ok (.ifnonnull 5, 3) := by decide +kernel
theorem d_PS_makeOfTwo_8 : decode prog_1_method_17_code 8 = .ok (.aconst_null, 1) := by decide +kernel
theorem d_PS_makeOfTwo_9 : decode prog_1_method_17_code 9 = .ok (.areturn, 1) := by decide +kernel
theorem d_PS_makeOfTwo_10 : decode prog_1_method_17_code 10 = .ok (.iload_n 0, 1) := by decide +kernel
theorem d_PS_makeOfTwo_11 : decode prog_1_method_17_code 11 = .ok (.lookupswitch 45 #[(2, 25), (3, 35)], 25) := by decide +kernel
theorem d_PS_makeOfTwo_36 : decode prog_1_method_17_code 36 = .ok (.new 182, 3) := by decide +kernel
theorem d_PS_makeOfTwo_39 : decode prog_1_method_17_code 39 = .ok (.dup, 1) := by decide +kernel
theorem d_PS_makeOfTwo_40 : decode prog_1_method_17_code 40 = .ok (.aload_n 1, 1) := by decide +kernel
theorem d_PS_makeOfTwo_41 : decode prog_1_method_17_code 41 = .ok (.aload_n 2, 1) := by decide +kernel
theorem d_PS_makeOfTwo_42 : decode prog_1_method_17_code 42 = .ok (.invokespecial 184, 3) := by decide +kernel
theorem d_PS_makeOfTwo_45 : decode prog_1_method_17_code 45 = .ok (.areturn, 1) := by decide +kernel
theorem d_PS_makeOfTwo_46 : decode prog_1_method_17_code 46 = .ok (.new 187, 3) := by decide +kernel
theorem d_PS_makeOfTwo_49 : decode prog_1_method_17_code 49 = .ok (.dup, 1) := by decide +kernel
theorem d_PS_makeOfTwo_50 : decode prog_1_method_17_code 50 = .ok (.aload_n 1, 1) := by decide +kernel
theorem d_PS_makeOfTwo_51 : decode prog_1_method_17_code 51 = .ok (.aload_n 2, 1) := by decide +kernel
theorem d_PS_makeOfTwo_52 : decode prog_1_method_17_code 52 = .ok (.invokespecial 189, 3) := by decide +kernel
theorem d_PS_makeOfTwo_55 : decode prog_1_method_17_code 55 = .ok (.areturn, 1) := by decide +kernel
theorem d_PS_makeOfTwo_56 : decode prog_1_method_17_code 56 = .ok (.aconst_null, 1) := by decide +kernel
theorem d_PS_makeOfTwo_57 : decode prog_1_method_17_code 57 = .ok (.areturn, 1) := by decide +kernel
theorem d_PS_property_0 : decode prog_1_method_3_code 0 = .ok (.aload_n 0, 1) := by decide +kernel
theorem d_PS_property_1 : decode prog_1_method_3_code 1 = .ok (.getfield 55, 3) := by decide +kernel
theorem d_PS_property_4 : decode prog_1_method_3_code 4 = .ok (.bipush 10, 2) := by decide +kernel
theorem d_PS_property_6 : decode prog_1_method_3_code 6 = .ok (.if_icmp .ge 12, 3) := by decide +kernel
theorem d_PS_property_9 : decode prog_1_method_3_code 9 = .ok (.iload_n 1, 1) := by decide +kernel
theorem d_PS_property_10 : decode prog_1_method_3_code 10 = .ok (.ifCond .lt 8, 3) := by decide +kernel
theorem d_PS_property_13 : decode prog_1_method_3_code 13 = .ok (.iload_n 1, 1) := by decide +kernel
theorem d_PS_property_14 : decode prog_1_method_3_code 14 = .ok (.iconst 4, 1) := by decide +kernel
theorem d_PS_property_15 : decode prog_1_method_3_code 15 = .ok (.if_icmp .le 5, 3) := by decide +kernel
theorem d_PS_property_18 : decode prog_1_method_3_code 18 = .ok (.iconst (-1), 1) := by decide +kernel
theorem d_PS_property_19 : decode prog_1_method_3_code 19 = .ok (.ireturn, 1) := by decide +kernel
theorem d_PS_property_20 : decode prog_1_method_3_code 20 = .ok (.iload_n 3, 1) := by decide +kernel
theorem d_PS_property_21 : decode prog_1_method_3_code 21 = .ok (.ifCond .lt 9, 3) := by decide +kernel
theorem d_PS_property_24 : decode prog_1_method_3_code 24 = .ok (.iload_n 3, 1) := by decide +kernel
theorem d_PS_property_25 : decode prog_1_method_3_code 25 = .ok (.bipush 10, 2) := by decide +kernel
theorem d_PS_property_27 : decode prog_1_method_3_code 27 = .ok (.if_icmp .le 5, 3) := by decide +kernel
theorem d_PS_property_30 : decode prog_1_method_3_code 30 = .ok (.iconst (-1), 1) := by decide +kernel
theorem d_PS_property_31 : decode prog_1_method_3_code 31 = .ok (.ireturn, 1) := by decide +kernel
theorem d_PS_property_32 : decode prog_1_method_3_code 32 = .ok (.aload_n 0, 1) := by decide +kernel
theorem d_PS_property_33 : decode prog_1_method_3_code 33 = .ok (.getfield 17, 3) := by decide +kernel
theorem d_PS_property_36 : decode prog_1_method_3_code 36 = .ok (.aload_n 0, 1) := by decide +kernel
theorem d_PS_property_37 : decode prog_1_method_3_code 37 = .ok (.getfield 55, 3) := by decide +kernel
theorem d_PS_property_40 : decode prog_1_method_3_code 40 = .ok (.new 15, 3) := by decide +kernel
theorem d_PS_property_43 : decode prog_1_method_3_code 43 = .ok (.dup, 1) := by decide +kernel
theorem d_PS_property_44 : decode prog_1_method_3_code 44 = .ok (.iload_n 1, 1) := by decide +kernel
theorem d_PS_property_45 : decode prog_1_method_3_code 45 = .ok (.iload_n 2, 1) := by decide +kernel
theorem d_PS_property_46 : decode prog_1_method_3_code 46 = .ok (.iload_n 3, 1) := by decide +kernel
theorem d_PS_property_47 : decode prog_1_method_3_code 47 = .ok (.invokespecial 58, 3) := by decide +kernel
theorem d_PS_property_50 : decode prog_1_method_3_code 50 = .ok (.aastore, 1) := by decide +kernel
theorem d_PS_property_51 : decode prog_1_method_3_code 51 = .ok (.aload_n 0, 1) := by decide +kernel
theorem d_PS_property_52 : decode prog_1_method_3_code 52 = .ok (.dup, 1) := by decide +kernel
theorem d_PS_property_53 : decode prog_1_method_3_code 53 = .ok (.getfield 55, 3) := by decide +kernel
theorem d_PS_property_56 : decode prog_1_method_3_code 56 = .ok (.iconst 1, 1) := by decide +kernel
theorem d_PS_property_57 : decode prog_1_method_3_code 57 = .ok (.iadd, 1) := by decide +kernel
theorem d_PS_property_58 : decode prog_1_method_3_code 58 = .ok (.putfield 55, 3) := by decide +kernel
theorem d_PS_property_61 : decode prog_1_method_3_code 61 = .ok (.aload_n 0, 1) := by decide +kernel
theorem d_PS_property_62 : decode prog_1_method_3_code 62 = .ok (.getfield 55, 3) := by decide +kernel
theorem d_PS_property_65 : decode prog_1_method_3_code 65 = .ok (.iconst 1, 1) := by decide +kernel
theorem d_PS_property_66 : decode prog_1_method_3_code 66 = .ok (.isub, 1) := by decide +kernel
theorem d_PS_property_67 : decode prog_1_method_3_code 67 = .ok (.ireturn, 1) := by decide +kernel
theorem d_PS_check_0 : decode prog_1_method_4_code 0 = .ok (.aload_n 0, 1) := by decide +kernel
theorem d_PS_check_1 : decode prog_1_method_4_code 1 = .ok (.iload_n 1, 1) := by decide +kernel
theorem d_PS_check_2 : decode prog_1_method_4_code 2 = .ok (.invokevirtual 61, 3) := by decide +kernel
theorem d_PS_check_5 : decode prog_1_method_4_code 5 = .ok (.astore 6, 2) := by decide +kernel
theorem d_PS_check_7 : decode prog_1_method_4_code 7 = .ok (.aload_n 0, 1) := by decide +kernel
theorem d_PS_check_8 : decode prog_1_method_4_code 8 = .ok (.iload_n 2, 1) := by decide +kernel
theorem d_PS_check_9 : decode prog_1_method_4_code 9 = .ok (.invokevirtual 65, 3) := by decide +kernel
theorem d_PS_check_12 : decode prog_1_method_4_code 12 = .ok (.astore 7, 2) := by decide +kernel
theorem d_PS_check_14 : decode prog_1_method_4_code 14 = .ok (.aload 6, 2) := by decide +kernel
theorem d_PS_check_16 : decode prog_1_method_4_code 16 = .ok (.ifnull 21, 3) := by decide +kernel
theorem d_PS_check_19 : decode prog_1_method_4_code 19 = .ok (.aload 7, 2) := by decide +kernel
theorem d_PS_check_21 : decode prog_1_method_4_code 21 = .ok (.ifnull 16, 3) := by decide +kernel
theorem d_PS_check_24 : decode prog_1_method_4_code 24 = .ok (.iload 5, 2) := by decide +kernel
theorem d_PS_check_26 : decode prog_1_method_4_code 26 = .ok (.iconst 1, 1) := by decide +kernel
theorem d_PS_check_27 : decode prog_1_method_4_code 27 = .ok (.if_icmp .lt 10, 3) := by decide +kernel
theorem d_PS_check_30 : decode prog_1_method_4_code 30 = .ok (.iload 5, 2) := by decide +kernel
theorem d_PS_check_32 : decode prog_1_method_4_code 32 = .ok (.bipush 60, 2) := by decide +kernel
theorem d_PS_check_34 : decode prog_1_method_4_code 34 = .ok (.if_icmp .le 6, 3) := by decide +kernel
theorem d_PS_check_37 : decode prog_1_method_4_code 37 = .ok (.bipush (-3), 2) := by decide +kernel
theorem d_PS_check_39 : decode prog_1_method_4_code 39 = .ok (.ireturn, 1) := by decide +kernel
theorem d_PS_check_40 : decode prog_1_method_4_code 40 = .ok (.aload_n 0, 1) := by decide +kernel
theorem d_PS_check_41 : decode prog_1_method_4_code 41 = .ok (.iconst 0, 1) := by decide +kernel
theorem d_PS_check_42 : decode prog_1_method_4_code 42 = .ok (.putfield 69, 3) := by decide +kernel
theorem d_PS_check_45 : decode prog_1_method_4_code 45 = .ok (.aload_n 0, 1) := by decide +kernel
theorem d_PS_check_46 : decode prog_1_method_4_code 46 = .ok (.iload_n 1, 1) := by decide +kernel
theorem d_PS_check_47 : decode prog_1_method_4_code 47 = .ok (.iload_n 2, 1) := by decide +kernel
theorem d_PS_check_48 : decode prog_1_method_4_code 48 = .ok (.invokevirtual 72, 3) := by decide +kernel
theorem d_PS_check_51 : decode prog_1_method_4_code 51 = .ok (.ifCond .eq 5, 3) := by decide +kernel
theorem d_PS_check_54 : decode prog_1_method_4_code 54 = .ok (.iconst (-1), 1) := by decide +kernel
theorem d_PS_check_55 : decode prog_1_method_4_code 55 = .ok (.ireturn, 1) := by decide +kernel
theorem d_PS_check_56 : decode prog_1_method_4_code 56 = .ok (.aload_n 0, 1) := by decide +kernel
theorem d_PS_check_57 : decode prog_1_method_4_code 57 = .ok (.aload 6, 2) := by decide +kernel
theorem d_PS_check_59 : decode prog_1_method_4_code 59 = .ok (.aload 7, 2) := by decide +kernel
theorem d_PS_check_61 : decode prog_1_method_4_code 61 = .ok (.lload_n 3, 1) := by decide +kernel
theorem d_PS_check_62 : decode prog_1_method_4_code 62 = .ok (.iload 5, 2) := by decide +kernel
theorem d_PS_check_64 : decode prog_1_method_4_code 64 = .ok (.invokevirtual 76, 3) := by decide +kernel
theorem d_PS_check_67 : decode prog_1_method_4_code 67 = .ok (.istore 8, 2) := by decide +kernel
theorem d_PS_check_69 : decode prog_1_method_4_code 69 = .ok (.iload 8, 2) := by decide +kernel
theorem d_PS_check_71 : decode prog_1_method_4_code 71 = .ok (.iconst (-1), 1) := by decide +kernel
theorem d_PS_check_72 : decode prog_1_method_4_code 72 = .ok (.if_icmp .ne 34, 3) := by decide +kernel
theorem d_PS_check_75 : decode prog_1_method_4_code 75 = .ok (.aload_n 0, 1) := by decide +kernel
theorem d_PS_check_76 : decode prog_1_method_4_code 76 = .ok (.new 80, 3) := by decide +kernel
theorem d_PS_check_79 : decode prog_1_method_4_code 79 = .ok (.dup, 1) := by decide +kernel
theorem d_PS_check_80 : decode prog_1_method_4_code 80 = .ok (.iload_n 1, 1) := by decide +kernel
theorem d_PS_check_81 : decode prog_1_method_4_code 81 = .ok (.iload_n 2, 1) := by decide +kernel
theorem d_PS_check_82 : decode prog_1_method_4_code 82 = .ok (.aload_n 0, 1) := by decide +kernel
theorem d_PS_check_83 : decode prog_1_method_4_code 83 = .ok (.getfield 24, 3) := by decide +kernel
theorem d_PS_check_86 : decode prog_1_method_4_code 86 = .ok (.aload_n 0, 1) := by decide +kernel
theorem d_PS_check_87 : decode prog_1_method_4_code 87 = .ok (.getfield 82, 3) := by decide +kernel
theorem d_PS_check_90 : decode prog_1_method_4_code 90 = .ok (.invokespecial 86, 3) := by decide +kernel
theorem d_PS_check_93 : decode prog_1_method_4_code 93 = .ok (.putfield 82, 3) := by decide +kernel
theorem d_PS_check_96 : decode prog_1_method_4_code 96 = .ok (.aload_n 0, 1) := by decide +kernel
theorem d_PS_check_97 : decode prog_1_method_4_code 97 = .ok (.dup, 1) := by decide +kernel
theorem d_PS_check_98 : decode prog_1_method_4_code 98 = .ok (.getfield 89, 3) := by decide +kernel
theorem d_PS_check_101 : decode prog_1_method_4_code 101 = .ok (.iconst 1, 1) := by decide +kernel
theorem d_PS_check_102 : decode prog_1_method_4_code 102 = .ok (.iadd, 1) := by decide +kernel
theorem d_PS_check_103 : decode prog_1_method_4_code 103 = .ok (.putfield 89, 3) := by decide +kernel
theorem d_PS_check_106 : decode prog_1_method_4_code 106 = .ok (.iload 8, 2) := by decide +kernel
theorem d_PS_check_108 : decode prog_1_method_4_code 108 = .ok (.ireturn, 1) := by decide +kernel
theorem d_PS_propertyAt_0 : decode prog_1_method_15_code 0 = .ok (.iload_n 1, 1) := by decide +kernel
theorem d_PS_propertyAt_1 : decode prog_1_method_15_code 1 = .ok (.ifCond .lt 29, 3) := by decide +kernel
theorem d_PS_propertyAt_4 : decode prog_1_method_15_code 4 = .ok (.iload_n 1, 1) := by decide +kernel
theorem d_PS_propertyAt_5 : decode prog_1_method_15_code 5 = .ok (.aload_n 0, 1) := by decide +kernel
theorem d_PS_propertyAt_6 : decode prog_1_method_15_code 6 = .ok (.getfield 55, 3) := by decide +kernel
theorem d_PS_propertyAt_9 : decode prog_1_method_15_code 9 = .ok (.if_icmp .ge 21, 3) := by decide +kernel
theorem d_PS_propertyAt_12 : decode prog_1_method_15_code 12 = .ok (.iload_n 1, 1) := by decide +kernel
theorem d_PS_propertyAt_13 : decode prog_1_method_15_code 13 = .ok (.aload_n 0, 1) := by decide +kernel
theorem d_PS_propertyAt_14 : decode prog_1_method_15_code 14 = .ok (.getfield 17, 3) := by decide +kernel
theorem d_PS_propertyAt_17 : decode prog_1_method_15_code 17 = .ok (.arraylength, 1) := by decide +kernel
theorem d_PS_propertyAt_18 : decode prog_1_method_15_code 18 = .ok (.if_icmp .ge 12, 3) := by decide +kernel
theorem d_PS_propertyAt_21 : decode prog_1_method_15_code 21 = .ok (.aload_n 0, 1) := by decide +kernel
theorem d_PS_propertyAt_22 : decode prog_1_method_15_code 22 = .ok (.getfield 17, 3) := by decide +kernel
theorem d_PS_propertyAt_25 : decode prog_1_method_15_code 25 = .ok (.iload_n 1, 1) := by decide +kernel
theorem d_PS_propertyAt_26 : decode prog_1_method_15_code 26 = .ok (.aaload, 1) := by decide +kernel
theorem d_PS_propertyAt_27 : decode prog_1_method_15_code 27 = .ok (.goto 4, 3) := by decide +kernel
theorem d_PS_propertyAt_30 : decode prog_1_method_15_code 30 = .ok (.aconst_null, 1) := by decide +kernel
theorem d_PS_propertyAt_31 : decode prog_1_method_15_code 31 = .ok (.areturn, 1) := by decide +kernel
theorem d_PS_findAmongKept_0 : decode prog_1_method_22_code 0 = .ok (.aload_n 0, 1) := by decide +kernel
theorem d_PS_findAmongKept_1 : decode prog_1_method_22_code 1 = .ok (.iload_n 1, 1) := by decide +kernel
theorem d_PS_findAmongKept_2 : decode prog_1_method_22_code 2 = .ok (.invokevirtual 61, 3) := by decide +kernel
theorem d_PS_findAmongKept_5 : decode prog_1_method_22_code 5 = .ok (.astore_n 3, 1) := by decide +kernel
theorem d_PS_findAmongKept_6 : decode prog_1_method_22_code 6 = .ok (.aload_n 0, 1) := by decide +kernel
theorem d_PS_findAmongKept_7 : decode prog_1_method_22_code 7 = .ok (.iload_n 2, 1) := by decide +kernel
theorem d_PS_findAmongKept_8 : decode prog_1_method_22_code 8 = .ok (.invokevirtual 65, 3) := by decide +kernel
theorem d_PS_findAmongKept_11 : decode prog_1_method_22_code 11 = .ok (.astore 4, 2) := by decide +kernel
theorem d_PS_findAmongKept_13 : decode prog_1_method_22_code 13 = .ok (.aload_n 3, 1) := by decide +kernel
theorem d_PS_findAmongKept_14 : decode prog_1_method_22_code 14 = .ok (.ifnull 8, 3) := by decide +kernel
theorem d_PS_findAmongKept_17 : decode prog_1_method_22_code 17 = .ok (.aload 4, 2) := by decide +kernel
theorem d_PS_findAmongKept_19 : decode prog_1_method_22_code 19 = .ok (.ifnonnull 5, 3) := by decide +kernel
theorem d_PS_findAmongKept_22 : decode prog_1_method_22_code 22 = .ok (.iconst 0, 1) := by decide +kernel
theorem d_PS_findAmongKept_23 : decode prog_1_method_22_code 23 = .ok (.ireturn, 1) := by decide +kernel
theorem d_PS_findAmongKept_24 : decode prog_1_method_22_code 24 = .ok (.aload_n 0, 1) := by decide +kernel
theorem d_PS_findAmongKept_25 : decode prog_1_method_22_code 25 = .ok (.getfield 82, 3) := by decide +kernel
theorem d_PS_findAmongKept_28 : decode prog_1_method_22_code 28 = .ok (.astore 5, 2) := by decide +kernel
theorem d_PS_findAmongKept_30 : decode prog_1_method_22_code 30 = .ok (.aload 5, 2) := by decide +kernel
theorem d_PS_findAmongKept_32 : decode prog_1_method_22_code 32 = .ok (.ifnull 64, 3) := by decide +kernel
theorem d_PS_findAmongKept_35 : decode prog_1_method_22_code 35 = .ok (.aload 5, 2) := by decide +kernel
theorem d_PS_findAmongKept_37 : decode prog_1_method_22_code 37 = .ok (.getfield 201, 3) := by decide +kernel
theorem d_PS_findAmongKept_40 : decode prog_1_method_22_code 40 = .ok (.iload_n 1, 1) := by decide +kernel
theorem d_PS_findAmongKept_41 : decode prog_1_method_22_code 41 = .ok (.if_icmp .ne 45, 3) := by decide +kernel
theorem d_PS_findAmongKept_44 : decode prog_1_method_22_code 44 = .ok (.aload 5, 2) := by decide +kernel
theorem d_PS_findAmongKept_46 : decode prog_1_method_22_code 46 = .ok (.getfield 204, 3) := by decide +kernel
theorem d_PS_findAmongKept_49 : decode prog_1_method_22_code 49 = .ok (.iload_n 2, 1) := by decide +kernel
theorem d_PS_findAmongKept_50 : decode prog_1_method_22_code 50 = .ok (.if_icmp .ne 36, 3) := by decide +kernel
theorem d_PS_findAmongKept_53 : decode prog_1_method_22_code 53 = .ok (.aload_n 0, 1) := by decide +kernel
theorem d_PS_findAmongKept_54 : decode prog_1_method_22_code 54 = .ok (.aload_n 3, 1) := by decide +kernel
theorem d_PS_findAmongKept_55 : decode prog_1_method_22_code 55 = .ok (.aload 4, 2) := by decide +kernel
theorem d_PS_findAmongKept_57 : decode prog_1_method_22_code 57 = .ok (.aload 5, 2) := by decide +kernel
theorem d_PS_findAmongKept_59 : decode prog_1_method_22_code 59 = .ok (.getfield 207, 3) := by decide +kernel
theorem d_PS_findAmongKept_62 : decode prog_1_method_22_code 62 = .ok (.invokevirtual 100, 3) := by decide +kernel
theorem d_PS_findAmongKept_65 : decode prog_1_method_22_code 65 = .ok (.istore 6, 2) := by decide +kernel
theorem d_PS_findAmongKept_67 : decode prog_1_method_22_code 67 = .ok (.iload 6, 2) := by decide +kernel
theorem d_PS_findAmongKept_69 : decode prog_1_method_22_code 69 = .ok (.invokestatic 210, 3) := by decide +kernel
theorem d_PS_findAmongKept_72 : decode prog_1_method_22_code 72 = .ok (.ifCond .eq 14, 3) := by decide +kernel
theorem d_PS_findAmongKept_75 : decode prog_1_method_22_code 75 = .ok (.aload_n 0, 1) := by decide +kernel
theorem d_PS_findAmongKept_76 : decode prog_1_method_22_code 76 = .ok (.aload_n 3, 1) := by decide +kernel
theorem d_PS_findAmongKept_77 : decode prog_1_method_22_code 77 = .ok (.aload 4, 2) := by decide +kernel
theorem d_PS_findAmongKept_79 : decode prog_1_method_22_code 79 = .ok (.iload 6, 2) := by decide +kernel
theorem d_PS_findAmongKept_81 : decode prog_1_method_22_code 81 = .ok (.invokevirtual 213, 3) := by decide +kernel
theorem d_PS_findAmongKept_84 : decode prog_1_method_22_code 84 = .ok (.iconst 1, 1) := by decide +kernel
theorem d_PS_findAmongKept_85 : decode prog_1_method_22_code 85 = .ok (.ireturn, 1) := by decide +kernel
theorem d_PS_findAmongKept_86 : decode prog_1_method_22_code 86 = .ok (.aload 5, 2) := by decide +kernel
theorem d_PS_findAmongKept_88 : decode prog_1_method_22_code 88 = .ok (.getfield 217, 3) := by decide +kernel
theorem d_PS_findAmongKept_91 : decode prog_1_method_22_code 91 = .ok (.astore 5, 2) := by decide +kernel
theorem d_PS_findAmongKept_93 : decode prog_1_method_22_code 93 = .ok (.goto (-63), 3) := by decide +kernel
theorem d_PS_findAmongKept_96 : decode prog_1_method_22_code 96 = .ok (.iconst 0, 1) := by decide +kernel
theorem d_PS_findAmongKept_97 : decode prog_1_method_22_code 97 = .ok (.ireturn, 1) := by decide +kernel
theorem d_PS_replayRow_0 : decode prog_1_method_19_code 0 = .ok (.aload_n 0, 1) := by decide +kernel
theorem d_PS_replayRow_1 : decode prog_1_method_19_code 1 = .ok (.getfield 40, 3) := by decide +kernel
theorem d_PS_replayRow_4 : decode prog_1_method_19_code 4 = .ok (.aload_n 3, 1) := by decide +kernel
theorem d_PS_replayRow_5 : decode prog_1_method_19_code 5 = .ok (.invokevirtual 190, 3) := by decide +kernel
theorem d_PS_replayRow_8 : decode prog_1_method_19_code 8 = .ok (.aload_n 1, 1) := by decide +kernel
theorem d_PS_replayRow_9 : decode prog_1_method_19_code 9 = .ok (.aload_n 0, 1) := by decide +kernel
theorem d_PS_replayRow_10 : decode prog_1_method_19_code 10 = .ok (.getfield 40, 3) := by decide +kernel
theorem d_PS_replayRow_13 : decode prog_1_method_19_code 13 = .ok (.invokevirtual 145, 3) := by decide +kernel
theorem d_PS_replayRow_16 : decode prog_1_method_19_code 16 = .ok (.aload_n 0, 1) := by decide +kernel
theorem d_PS_replayRow_17 : decode prog_1_method_19_code 17 = .ok (.aload_n 2, 1) := by decide +kernel
theorem d_PS_replayRow_18 : decode prog_1_method_19_code 18 = .ok (.invokevirtual 193, 3) := by decide +kernel
theorem d_PS_replayRow_21 : decode prog_1_method_19_code 21 = .ok (.ireturn, 1) := by decide +kernel
theorem d_PS_verdictOfDraws_0 : decode prog_1_method_20_code 0 = .ok (.aload_n 0, 1) := by decide +kernel
theorem d_PS_verdictOfDraws_1 : decode prog_1_method_20_code 1 = .ok (.getfield 40, 3) := by decide +kernel
theorem d_PS_verdictOfDraws_4 : decode prog_1_method_20_code 4 = .ok (.getfield 149, 3) := by decide +kernel
theorem d_PS_verdictOfDraws_7 : decode prog_1_method_20_code 7 = .ok (.ifCond .eq 7, 3) := by decide +kernel
theorem d_PS_verdictOfDraws_10 : decode prog_1_method_20_code 10 = .ok (.iconst 4, 1) := by decide +kernel
theorem d_PS_verdictOfDraws_11 : decode prog_1_method_20_code 11 = .ok (.goto 14, 3) := by decide +kernel
theorem d_PS_verdictOfDraws_14 : decode prog_1_method_20_code 14 = .ok (.aload_n 1, 1) := by decide +kernel
theorem d_PS_verdictOfDraws_15 : decode prog_1_method_20_code 15 = .ok (.aload_n 0, 1) := by decide +kernel
theorem d_PS_verdictOfDraws_16 : decode prog_1_method_20_code 16 = .ok (.getfield 40, 3) := by decide +kernel
theorem d_PS_verdictOfDraws_19 : decode prog_1_method_20_code 19 = .ok (.getfield 122, 3) := by decide +kernel
theorem d_PS_verdictOfDraws_22 : decode prog_1_method_20_code 22 = .ok (.invokevirtual 197, 3) := by decide +kernel
theorem d_PS_verdictOfDraws_25 : decode prog_1_method_20_code 25 = .ok (.ireturn, 1) := by decide +kernel
theorem d_PS_isBad_0 : decode prog_1_method_21_code 0 = .ok (.iload_n 0, 1) := by decide +kernel
theorem d_PS_isBad_1 : decode prog_1_method_21_code 1 = .ok (.iconst 1, 1) := by decide +kernel
theorem d_PS_isBad_2 : decode prog_1_method_21_code 2 = .ok (.if_icmp .eq 8, 3) := by decide +kernel
theorem d_PS_isBad_5 : decode prog_1_method_21_code 5 = .ok (.iload_n 0, 1) := by decide +kernel
theorem d_PS_isBad_6 : decode prog_1_method_21_code 6 = .ok (.iconst 2, 1) := by decide +kernel
theorem d_PS_isBad_7 : decode prog_1_method_21_code 7 = .ok (.if_icmp .ne 7, 3) := by decide +kernel
theorem d_PS_isBad_10 : decode prog_1_method_21_code 10 = .ok (.iconst 1, 1) := by decide +kernel
theorem d_PS_isBad_11 : decode prog_1_method_21_code 11 = .ok (.goto 4, 3) := by decide +kernel
theorem d_PS_isBad_14 : decode prog_1_method_21_code 14 = .ok (.iconst 0, 1) := by decide +kernel
theorem d_PS_isBad_15 : decode prog_1_method_21_code 15 = .ok (.ireturn, 1) := by decide +kernel
theorem d_PS_takeFound_0 : decode prog_1_method_24_code 0 = .ok (.aload_n 0, 1) := by decide +kernel
theorem d_PS_takeFound_1 : decode prog_1_method_24_code 1 = .ok (.aload_n 1, 1) := by decide +kernel
theorem d_PS_takeFound_2 : decode prog_1_method_24_code 2 = .ok (.putfield 92, 3) := by decide +kernel
theorem d_PS_takeFound_5 : decode prog_1_method_24_code 5 = .ok (.aload_n 0, 1) := by decide +kernel
theorem d_PS_takeFound_6 : decode prog_1_method_24_code 6 = .ok (.aload_n 2, 1) := by decide +kernel
theorem d_PS_takeFound_7 : decode prog_1_method_24_code 7 = .ok (.putfield 96, 3) := by decide +kernel
theorem d_PS_takeFound_10 : decode prog_1_method_24_code 10 = .ok (.aload_n 0, 1) := by decide +kernel
theorem d_PS_takeFound_11 : decode prog_1_method_24_code 11 = .ok (.iload_n 3, 1) := by decide +kernel
theorem d_PS_takeFound_12 : decode prog_1_method_24_code 12 = .ok (.putfield 115, 3) := by decide +kernel
theorem d_PS_takeFound_15 : decode prog_1_method_24_code 15 = .ok (.aload_n 0, 1) := by decide +kernel
theorem d_PS_takeFound_16 : decode prog_1_method_24_code 16 = .ok (.iconst 0, 1) := by decide +kernel
theorem d_PS_takeFound_17 : decode prog_1_method_24_code 17 = .ok (.putfield 111, 3) := by decide +kernel
theorem d_PS_takeFound_20 : decode prog_1_method_24_code 20 = .ok (.aload_n 0, 1) := by decide +kernel
theorem d_PS_takeFound_21 : decode prog_1_method_24_code 21 = .ok (.invokevirtual 104, 3) := by decide +kernel
theorem d_PS_takeFound_24 : decode prog_1_method_24_code 24 = .ok (.return_, 1) := by decide +kernel
theorem d_PS_takeRow_0 : decode prog_1_method_25_code 0 = .ok (.aload_n 0, 1) := by decide +kernel
theorem d_PS_takeRow_1 : decode prog_1_method_25_code 1 = .ok (.getfield 24, 3) := by decide +kernel
theorem d_PS_takeRow_4 : decode prog_1_method_25_code 4 = .ok (.aload_n 0, 1) := by decide +kernel
theorem d_PS_takeRow_5 : decode prog_1_method_25_code 5 = .ok (.getfield 40, 3) := by decide +kernel
theorem d_PS_takeRow_8 : decode prog_1_method_25_code 8 = .ok (.getfield 227, 3) := by decide +kernel
theorem d_PS_takeRow_11 : decode prog_1_method_25_code 11 = .ok (.invokevirtual 123, 3) := by decide +kernel
theorem d_PS_takeRow_14 : decode prog_1_method_25_code 14 = .ok (.aload_n 0, 1) := by decide +kernel
theorem d_PS_takeRow_15 : decode prog_1_method_25_code 15 = .ok (.getfield 28, 3) := by decide +kernel
theorem d_PS_takeRow_18 : decode prog_1_method_25_code 18 = .ok (.aload_n 0, 1) := by decide +kernel
theorem d_PS_takeRow_19 : decode prog_1_method_25_code 19 = .ok (.getfield 40, 3) := by decide +kernel
theorem d_PS_takeRow_22 : decode prog_1_method_25_code 22 = .ok (.getfield 122, 3) := by decide +kernel
theorem d_PS_takeRow_25 : decode prog_1_method_25_code 25 = .ok (.invokevirtual 123, 3) := by decide +kernel
theorem d_PS_takeRow_28 : decode prog_1_method_25_code 28 = .ok (.return_, 1) := by decide +kernel
theorem d_PS_findBySeed_0 : decode prog_1_method_23_code 0 = .ok (.iconst 0, 1) := by decide +kernel
theorem d_PS_findBySeed_1 : decode prog_1_method_23_code 1 = .ok (.istore 6, 2) := by decide +kernel
theorem d_PS_findBySeed_3 : decode prog_1_method_23_code 3 = .ok (.aload_n 0, 1) := by decide +kernel
theorem d_PS_findBySeed_4 : decode prog_1_method_23_code 4 = .ok (.getfield 40, 3) := by decide +kernel
theorem d_PS_findBySeed_7 : decode prog_1_method_23_code 7 = .ok (.lload_n 3, 1) := by decide +kernel
theorem d_PS_findBySeed_8 : decode prog_1_method_23_code 8 = .ok (.invokevirtual 220, 3) := by decide +kernel
theorem d_PS_findBySeed_11 : decode prog_1_method_23_code 11 = .ok (.iconst 0, 1) := by decide +kernel
theorem d_PS_findBySeed_12 : decode prog_1_method_23_code 12 = .ok (.istore 7, 2) := by decide +kernel
theorem d_PS_findBySeed_14 : decode prog_1_method_23_code 14 = .ok (.iload 6, 2) := by decide +kernel
theorem d_PS_findBySeed_16 : decode prog_1_method_23_code 16 = .ok (.iload 5, 2) := by decide +kernel
theorem d_PS_findBySeed_18 : decode prog_1_method_23_code 18 = .ok (.if_icmp .ge 91, 3) := by decide +kernel
theorem d_PS_findBySeed_21 : decode prog_1_method_23_code 21 = .ok (.iload 7, 2) := by decide +kernel
theorem d_PS_findBySeed_23 : decode prog_1_method_23_code 23 = .ok (.bipush 120, 2) := by decide +kernel
theorem d_PS_findBySeed_25 : decode prog_1_method_23_code 25 = .ok (.if_icmp .gt 84, 3) := by decide +kernel
theorem d_PS_findBySeed_28 : decode prog_1_method_23_code 28 = .ok (.aload_n 0, 1) := by decide +kernel
theorem d_PS_findBySeed_29 : decode prog_1_method_23_code 29 = .ok (.getfield 40, 3) := by decide +kernel
theorem d_PS_findBySeed_32 : decode prog_1_method_23_code 32 = .ok (.iload 7, 2) := by decide +kernel
theorem d_PS_findBySeed_34 : decode prog_1_method_23_code 34 = .ok (.invokevirtual 224, 3) := by decide +kernel
theorem d_PS_findBySeed_37 : decode prog_1_method_23_code 37 = .ok (.aload_n 1, 1) := by decide +kernel
theorem d_PS_findBySeed_38 : decode prog_1_method_23_code 38 = .ok (.aload_n 0, 1) := by decide +kernel
theorem d_PS_findBySeed_39 : decode prog_1_method_23_code 39 = .ok (.getfield 40, 3) := by decide +kernel
theorem d_PS_findBySeed_42 : decode prog_1_method_23_code 42 = .ok (.invokevirtual 145, 3) := by decide +kernel
theorem d_PS_findBySeed_45 : decode prog_1_method_23_code 45 = .ok (.aload_n 0, 1) := by decide +kernel
theorem d_PS_findBySeed_46 : decode prog_1_method_23_code 46 = .ok (.aload_n 2, 1) := by decide +kernel
theorem d_PS_findBySeed_47 : decode prog_1_method_23_code 47 = .ok (.invokevirtual 193, 3) := by decide +kernel
theorem d_PS_findBySeed_50 : decode prog_1_method_23_code 50 = .ok (.istore 8, 2) := by decide +kernel
theorem d_PS_findBySeed_52 : decode prog_1_method_23_code 52 = .ok (.iload 8, 2) := by decide +kernel
theorem d_PS_findBySeed_54 : decode prog_1_method_23_code 54 = .ok (.invokestatic 210, 3) := by decide +kernel
theorem d_PS_findBySeed_57 : decode prog_1_method_23_code 57 = .ok (.ifCond .eq 13, 3) := by decide +kernel
theorem d_PS_findBySeed_60 : decode prog_1_method_23_code 60 = .ok (.aload_n 0, 1) := by decide +kernel
theorem d_PS_findBySeed_61 : decode prog_1_method_23_code 61 = .ok (.aload_n 1, 1) := by decide +kernel
theorem d_PS_findBySeed_62 : decode prog_1_method_23_code 62 = .ok (.aload_n 2, 1) := by decide +kernel
theorem d_PS_findBySeed_63 : decode prog_1_method_23_code 63 = .ok (.iload 8, 2) := by decide +kernel
theorem d_PS_findBySeed_65 : decode prog_1_method_23_code 65 = .ok (.invokevirtual 213, 3) := by decide +kernel
theorem d_PS_findBySeed_68 : decode prog_1_method_23_code 68 = .ok (.iconst (-1), 1) := by decide +kernel
theorem d_PS_findBySeed_69 : decode prog_1_method_23_code 69 = .ok (.ireturn, 1) := by decide +kernel
theorem d_PS_findBySeed_70 : decode prog_1_method_23_code 70 = .ok (.iload 8, 2) := by decide +kernel
theorem d_PS_findBySeed_72 : decode prog_1_method_23_code 72 = .ok (.ifCond .ne 9, 3) := by decide +kernel
theorem d_PS_findBySeed_75 : decode prog_1_method_23_code 75 = .ok (.iinc 6 1, 3) := by decide +kernel
theorem d_PS_findBySeed_78 : decode prog_1_method_23_code 78 = .ok (.goto 13, 3) := by decide +kernel
theorem d_PS_findBySeed_81 : decode prog_1_method_23_code 81 = .ok (.aload_n 0, 1) := by decide +kernel
theorem d_PS_findBySeed_82 : decode prog_1_method_23_code 82 = .ok (.dup, 1) := by decide +kernel
theorem d_PS_findBySeed_83 : decode prog_1_method_23_code 83 = .ok (.getfield 69, 3) := by decide +kernel
theorem d_PS_findBySeed_86 : decode prog_1_method_23_code 86 = .ok (.iconst 1, 1) := by decide +kernel
theorem d_PS_findBySeed_87 : decode prog_1_method_23_code 87 = .ok (.iadd, 1) := by decide +kernel
theorem d_PS_findBySeed_88 : decode prog_1_method_23_code 88 = .ok (.putfield 69, 3) := by decide +kernel
theorem d_PS_findBySeed_91 : decode prog_1_method_23_code 91 = .ok (.aload_n 0, 1) := by decide +kernel
theorem d_PS_findBySeed_92 : decode prog_1_method_23_code 92 = .ok (.getfield 69, 3) := by decide +kernel
theorem d_PS_findBySeed_95 : decode prog_1_method_23_code 95 = .ok (.iload 5, 2) := by decide +kernel
theorem d_PS_findBySeed_97 : decode prog_1_method_23_code 97 = .ok (.if_icmp .le 6, 3) := by decide +kernel
theorem d_PS_findBySeed_100 : decode prog_1_method_23_code 100 = .ok (.bipush (-2), 2) := by decide +kernel
theorem d_PS_findBySeed_102 : decode prog_1_method_23_code 102 = .ok (.ireturn, 1) := by decide +kernel
theorem d_PS_findBySeed_103 : decode prog_1_method_23_code 103 = .ok (.iinc 7 1, 3) := by decide +kernel
theorem d_PS_findBySeed_106 : decode prog_1_method_23_code 106 = .ok (.goto (-92), 3) := by decide +kernel
theorem d_PS_findBySeed_109 : decode prog_1_method_23_code 109 = .ok (.iload 5, 2) := by decide +kernel
theorem d_PS_findBySeed_111 : decode prog_1_method_23_code 111 = .ok (.ireturn, 1) := by decide +kernel
theorem d_PS_shrink_0 : decode prog_1_method_5_code 0 = .ok (.aload_n 0, 1) := by decide +kernel
theorem d_PS_shrink_1 : decode prog_1_method_5_code 1 = .ok (.getfield 92, 3) := by decide +kernel
theorem d_PS_shrink_4 : decode prog_1_method_5_code 4 = .ok (.astore_n 2, 1) := by decide +kernel
theorem d_PS_shrink_5 : decode prog_1_method_5_code 5 = .ok (.aload_n 0, 1) := by decide +kernel
theorem d_PS_shrink_6 : decode prog_1_method_5_code 6 = .ok (.getfield 96, 3) := by decide +kernel
theorem d_PS_shrink_9 : decode prog_1_method_5_code 9 = .ok (.astore_n 3, 1) := by decide +kernel
theorem d_PS_shrink_10 : decode prog_1_method_5_code 10 = .ok (.aload_n 2, 1) := by decide +kernel
theorem d_PS_shrink_11 : decode prog_1_method_5_code 11 = .ok (.ifnull 18, 3) := by decide +kernel
theorem d_PS_shrink_14 : decode prog_1_method_5_code 14 = .ok (.aload_n 3, 1) := by decide +kernel
theorem d_PS_shrink_15 : decode prog_1_method_5_code 15 = .ok (.ifnull 14, 3) := by decide +kernel
theorem d_PS_shrink_18 : decode prog_1_method_5_code 18 = .ok (.iload_n 1, 1) := by decide +kernel
theorem d_PS_shrink_19 : decode prog_1_method_5_code 19 = .ok (.ifCond .lt 10, 3) := by decide +kernel
theorem d_PS_shrink_22 : decode prog_1_method_5_code 22 = .ok (.iload_n 1, 1) := by decide +kernel
theorem d_PS_shrink_23 : decode prog_1_method_5_code 23 = .ok (.sipush 400, 3) := by decide +kernel
theorem d_PS_shrink_26 : decode prog_1_method_5_code 26 = .ok (.if_icmp .le 5, 3) := by decide +kernel
theorem d_PS_shrink_29 : decode prog_1_method_5_code 29 = .ok (.iconst (-1), 1) := by decide +kernel
theorem d_PS_shrink_30 : decode prog_1_method_5_code 30 = .ok (.ireturn, 1) := by decide +kernel
theorem d_PS_shrink_31 : decode prog_1_method_5_code 31 = .ok (.aload_n 0, 1) := by decide +kernel
theorem d_PS_shrink_32 : decode prog_1_method_5_code 32 = .ok (.aload_n 2, 1) := by decide +kernel
theorem d_PS_shrink_33 : decode prog_1_method_5_code 33 = .ok (.aload_n 3, 1) := by decide +kernel
theorem d_PS_shrink_34 : decode prog_1_method_5_code 34 = .ok (.aload_n 0, 1) := by decide +kernel
theorem d_PS_shrink_35 : decode prog_1_method_5_code 35 = .ok (.getfield 24, 3) := by decide +kernel
theorem d_PS_shrink_38 : decode prog_1_method_5_code 38 = .ok (.invokevirtual 100, 3) := by decide +kernel
theorem d_PS_shrink_41 : decode prog_1_method_5_code 41 = .ok (.pop, 1) := by decide +kernel
theorem d_PS_shrink_42 : decode prog_1_method_5_code 42 = .ok (.aload_n 0, 1) := by decide +kernel
theorem d_PS_shrink_43 : decode prog_1_method_5_code 43 = .ok (.invokevirtual 104, 3) := by decide +kernel
theorem d_PS_shrink_46 : decode prog_1_method_5_code 46 = .ok (.iconst 0, 1) := by decide +kernel
theorem d_PS_shrink_47 : decode prog_1_method_5_code 47 = .ok (.istore 4, 2) := by decide +kernel
theorem d_PS_shrink_49 : decode prog_1_method_5_code 49 = .ok (.iconst 0, 1) := by decide +kernel
theorem d_PS_shrink_50 : decode prog_1_method_5_code 50 = .ok (.istore 5, 2) := by decide +kernel
theorem d_PS_shrink_52 : decode prog_1_method_5_code 52 = .ok (.iconst 0, 1) := by decide +kernel
theorem d_PS_shrink_53 : decode prog_1_method_5_code 53 = .ok (.istore 6, 2) := by decide +kernel
theorem d_PS_shrink_55 : decode prog_1_method_5_code 55 = .ok (.iload 6, 2) := by decide +kernel
theorem d_PS_shrink_57 : decode prog_1_method_5_code 57 = .ok (.iload_n 1, 1) := by decide +kernel
theorem d_PS_shrink_58 : decode prog_1_method_5_code 58 = .ok (.if_icmp .ge 56, 3) := by decide +kernel
theorem d_PS_shrink_61 : decode prog_1_method_5_code 61 = .ok (.aload_n 0, 1) := by decide +kernel
theorem d_PS_shrink_62 : decode prog_1_method_5_code 62 = .ok (.iload 5, 2) := by decide +kernel
theorem d_PS_shrink_64 : decode prog_1_method_5_code 64 = .ok (.invokevirtual 107, 3) := by decide +kernel
theorem d_PS_shrink_67 : decode prog_1_method_5_code 67 = .ok (.ifCond .ne 11, 3) := by decide +kernel
theorem d_PS_shrink_70 : decode prog_1_method_5_code 70 = .ok (.aload_n 0, 1) := by decide +kernel
theorem d_PS_shrink_71 : decode prog_1_method_5_code 71 = .ok (.iconst 1, 1) := by decide +kernel
theorem d_PS_shrink_72 : decode prog_1_method_5_code 72 = .ok (.putfield 111, 3) := by decide +kernel
theorem d_PS_shrink_75 : decode prog_1_method_5_code 75 = .ok (.iload 4, 2) := by decide +kernel
theorem d_PS_shrink_77 : decode prog_1_method_5_code 77 = .ok (.ireturn, 1) := by decide +kernel
theorem d_PS_shrink_78 : decode prog_1_method_5_code 78 = .ok (.iinc 5 1, 3) := by decide +kernel
theorem d_PS_shrink_81 : decode prog_1_method_5_code 81 = .ok (.aload_n 0, 1) := by decide +kernel
theorem d_PS_shrink_82 : decode prog_1_method_5_code 82 = .ok (.aload_n 2, 1) := by decide +kernel
theorem d_PS_shrink_83 : decode prog_1_method_5_code 83 = .ok (.aload_n 3, 1) := by decide +kernel
theorem d_PS_shrink_84 : decode prog_1_method_5_code 84 = .ok (.aload_n 0, 1) := by decide +kernel
theorem d_PS_shrink_85 : decode prog_1_method_5_code 85 = .ok (.getfield 34, 3) := by decide +kernel
theorem d_PS_shrink_88 : decode prog_1_method_5_code 88 = .ok (.invokevirtual 100, 3) := by decide +kernel
theorem d_PS_shrink_91 : decode prog_1_method_5_code 91 = .ok (.aload_n 0, 1) := by decide +kernel
theorem d_PS_shrink_92 : decode prog_1_method_5_code 92 = .ok (.getfield 115, 3) := by decide +kernel
theorem d_PS_shrink_95 : decode prog_1_method_5_code 95 = .ok (.if_icmp .ne 13, 3) := by decide +kernel
theorem d_PS_shrink_98 : decode prog_1_method_5_code 98 = .ok (.aload_n 0, 1) := by decide +kernel
theorem d_PS_shrink_99 : decode prog_1_method_5_code 99 = .ok (.invokevirtual 104, 3) := by decide +kernel
theorem d_PS_shrink_102 : decode prog_1_method_5_code 102 = .ok (.iinc 4 1, 3) := by decide +kernel
theorem d_PS_shrink_105 : decode prog_1_method_5_code 105 = .ok (.iconst 0, 1) := by decide +kernel
theorem d_PS_shrink_106 : decode prog_1_method_5_code 106 = .ok (.istore 5, 2) := by decide +kernel
theorem d_PS_shrink_108 : decode prog_1_method_5_code 108 = .ok (.iinc 6 1, 3) := by decide +kernel
theorem d_PS_shrink_111 : decode prog_1_method_5_code 111 = .ok (.goto (-56), 3) := by decide +kernel
theorem d_PS_shrink_114 : decode prog_1_method_5_code 114 = .ok (.iload 4, 2) := by decide +kernel
theorem d_PS_shrink_116 : decode prog_1_method_5_code 116 = .ok (.ireturn, 1) := by decide +kernel
theorem d_PS_makeStep_0 : decode prog_1_method_26_code 0 = .ok (.aload_n 0, 1) := by decide +kernel
theorem d_PS_makeStep_1 : decode prog_1_method_26_code 1 = .ok (.iload_n 1, 1) := by decide +kernel
theorem d_PS_makeStep_2 : decode prog_1_method_26_code 2 = .ok (.invokevirtual 228, 3) := by decide +kernel
theorem d_PS_makeStep_5 : decode prog_1_method_26_code 5 = .ok (.istore_n 2, 1) := by decide +kernel
theorem d_PS_makeStep_6 : decode prog_1_method_26_code 6 = .ok (.iload_n 2, 1) := by decide +kernel
theorem d_PS_makeStep_7 : decode prog_1_method_26_code 7 = .ok (.iconst (-1), 1) := by decide +kernel
theorem d_PS_makeStep_8 : decode prog_1_method_26_code 8 = .ok (.if_icmp .eq 9, 3) := by decide +kernel
theorem d_PS_makeStep_11 : decode prog_1_method_26_code 11 = .ok (.aload_n 0, 1) := by decide +kernel
theorem d_PS_makeStep_12 : decode prog_1_method_26_code 12 = .ok (.iload_n 2, 1) := by decide +kernel
theorem d_PS_makeStep_13 : decode prog_1_method_26_code 13 = .ok (.invokevirtual 232, 3) := by decide +kernel
theorem d_PS_makeStep_16 : decode prog_1_method_26_code 16 = .ok (.istore_n 2, 1) := by decide +kernel
theorem d_PS_makeStep_17 : decode prog_1_method_26_code 17 = .ok (.iload_n 2, 1) := by decide +kernel
theorem d_PS_makeStep_18 : decode prog_1_method_26_code 18 = .ok (.iconst (-1), 1) := by decide +kernel
theorem d_PS_makeStep_19 : decode prog_1_method_26_code 19 = .ok (.if_icmp .eq 9, 3) := by decide +kernel
theorem d_PS_makeStep_22 : decode prog_1_method_26_code 22 = .ok (.aload_n 0, 1) := by decide +kernel
theorem d_PS_makeStep_23 : decode prog_1_method_26_code 23 = .ok (.iload_n 2, 1) := by decide +kernel
theorem d_PS_makeStep_24 : decode prog_1_method_26_code 24 = .ok (.invokevirtual 235, 3) := by decide +kernel
theorem d_PS_makeStep_27 : decode prog_1_method_26_code 27 = .ok (.istore_n 2, 1) := by decide +kernel
theorem d_PS_makeStep_28 : decode prog_1_method_26_code 28 = .ok (.iload_n 2, 1) := by decide +kernel
theorem d_PS_makeStep_29 : decode prog_1_method_26_code 29 = .ok (.iconst (-1), 1) := by decide +kernel
theorem d_PS_makeStep_30 : decode prog_1_method_26_code 30 = .ok (.if_icmp .ne 7, 3) := by decide +kernel
theorem d_PS_makeStep_33 : decode prog_1_method_26_code 33 = .ok (.iconst 1, 1) := by decide +kernel
theorem d_PS_makeStep_34 : decode prog_1_method_26_code 34 = .ok (.goto 4, 3) := by decide +kernel
theorem d_PS_makeStep_37 : decode prog_1_method_26_code 37 = .ok (.iconst 0, 1) := by decide +kernel
theorem d_PS_makeStep_38 : decode prog_1_method_26_code 38 = .ok (.ireturn, 1) := by decide +kernel
theorem d_PS_makeDrop_0 : decode prog_1_method_27_code 0 = .ok (.iload_n 1, 1) := by decide +kernel
theorem d_PS_makeDrop_1 : decode prog_1_method_27_code 1 = .ok (.istore_n 2, 1) := by decide +kernel
theorem d_PS_makeDrop_2 : decode prog_1_method_27_code 2 = .ok (.bipush 8, 2) := by decide +kernel
theorem d_PS_makeDrop_4 : decode prog_1_method_27_code 4 = .ok (.istore_n 3, 1) := by decide +kernel
theorem d_PS_makeDrop_5 : decode prog_1_method_27_code 5 = .ok (.iload_n 3, 1) := by decide +kernel
theorem d_PS_makeDrop_6 : decode prog_1_method_27_code 6 = .ok (.iconst 1, 1) := by decide +kernel
theorem d_PS_makeDrop_7 : decode prog_1_method_27_code 7 = .ok (.if_icmp .lt 53, 3) := by decide +kernel
theorem d_PS_makeDrop_10 : decode prog_1_method_27_code 10 = .ok (.iconst 0, 1) := by decide +kernel
theorem d_PS_makeDrop_11 : decode prog_1_method_27_code 11 = .ok (.aload_n 0, 1) := by decide +kernel
theorem d_PS_makeDrop_12 : decode prog_1_method_27_code 12 = .ok (.getfield 24, 3) := by decide +kernel
theorem d_PS_makeDrop_15 : decode prog_1_method_27_code 15 = .ok (.invokevirtual 134, 3) := by decide +kernel
theorem d_PS_makeDrop_18 : decode prog_1_method_27_code 18 = .ok (.iload_n 3, 1) := by decide +kernel
theorem d_PS_makeDrop_19 : decode prog_1_method_27_code 19 = .ok (.isub, 1) := by decide +kernel
theorem d_PS_makeDrop_20 : decode prog_1_method_27_code 20 = .ok (.iconst 1, 1) := by decide +kernel
theorem d_PS_makeDrop_21 : decode prog_1_method_27_code 21 = .ok (.iadd, 1) := by decide +kernel
theorem d_PS_makeDrop_22 : decode prog_1_method_27_code 22 = .ok (.invokestatic 238, 3) := by decide +kernel
theorem d_PS_makeDrop_25 : decode prog_1_method_27_code 25 = .ok (.istore 4, 2) := by decide +kernel
theorem d_PS_makeDrop_27 : decode prog_1_method_27_code 27 = .ok (.iload_n 2, 1) := by decide +kernel
theorem d_PS_makeDrop_28 : decode prog_1_method_27_code 28 = .ok (.iload 4, 2) := by decide +kernel
theorem d_PS_makeDrop_30 : decode prog_1_method_27_code 30 = .ok (.if_icmp .ge 18, 3) := by decide +kernel
theorem d_PS_makeDrop_33 : decode prog_1_method_27_code 33 = .ok (.aload_n 0, 1) := by decide +kernel
theorem d_PS_makeDrop_34 : decode prog_1_method_27_code 34 = .ok (.getfield 34, 3) := by decide +kernel
theorem d_PS_makeDrop_37 : decode prog_1_method_27_code 37 = .ok (.aload_n 0, 1) := by decide +kernel
theorem d_PS_makeDrop_38 : decode prog_1_method_27_code 38 = .ok (.getfield 24, 3) := by decide +kernel
theorem d_PS_makeDrop_41 : decode prog_1_method_27_code 41 = .ok (.iload_n 2, 1) := by decide +kernel
theorem d_PS_makeDrop_42 : decode prog_1_method_27_code 42 = .ok (.iload_n 3, 1) := by decide +kernel
theorem d_PS_makeDrop_43 : decode prog_1_method_27_code 43 = .ok (.invokevirtual 243, 3) := by decide +kernel
theorem d_PS_makeDrop_46 : decode prog_1_method_27_code 46 = .ok (.iconst (-1), 1) := by decide +kernel
theorem d_PS_makeDrop_47 : decode prog_1_method_27_code 47 = .ok (.ireturn, 1) := by decide +kernel
theorem d_PS_makeDrop_48 : decode prog_1_method_27_code 48 = .ok (.iload_n 2, 1) := by decide +kernel
theorem d_PS_makeDrop_49 : decode prog_1_method_27_code 49 = .ok (.iload 4, 2) := by decide +kernel
theorem d_PS_makeDrop_51 : decode prog_1_method_27_code 51 = .ok (.isub, 1) := by decide +kernel
theorem d_PS_makeDrop_52 : decode prog_1_method_27_code 52 = .ok (.istore_n 2, 1) := by decide +kernel
theorem d_PS_makeDrop_53 : decode prog_1_method_27_code 53 = .ok (.iload_n 3, 1) := by decide +kernel
theorem d_PS_makeDrop_54 : decode prog_1_method_27_code 54 = .ok (.iconst 2, 1) := by decide +kernel
theorem d_PS_makeDrop_55 : decode prog_1_method_27_code 55 = .ok (.idiv, 1) := by decide +kernel
theorem d_PS_makeDrop_56 : decode prog_1_method_27_code 56 = .ok (.istore_n 3, 1) := by decide +kernel
theorem d_PS_makeDrop_57 : decode prog_1_method_27_code 57 = .ok (.goto (-52), 3) := by decide +kernel
theorem d_PS_makeDrop_60 : decode prog_1_method_27_code 60 = .ok (.iload_n 2, 1) := by decide +kernel
theorem d_PS_makeDrop_61 : decode prog_1_method_27_code 61 = .ok (.ireturn, 1) := by decide +kernel
theorem d_PS_makeLowering_0 : decode prog_1_method_28_code 0 = .ok (.iload_n 1, 1) := by decide +kernel
theorem d_PS_makeLowering_1 : decode prog_1_method_28_code 1 = .ok (.istore_n 2, 1) := by decide +kernel
theorem d_PS_makeLowering_2 : decode prog_1_method_28_code 2 = .ok (.iconst 0, 1) := by decide +kernel
theorem d_PS_makeLowering_3 : decode prog_1_method_28_code 3 = .ok (.istore_n 3, 1) := by decide +kernel
theorem d_PS_makeLowering_4 : decode prog_1_method_28_code 4 = .ok (.iload_n 3, 1) := by decide +kernel
theorem d_PS_makeLowering_5 : decode prog_1_method_28_code 5 = .ok (.aload_n 0, 1) := by decide +kernel
theorem d_PS_makeLowering_6 : decode prog_1_method_28_code 6 = .ok (.getfield 24, 3) := by decide +kernel
theorem d_PS_makeLowering_9 : decode prog_1_method_28_code 9 = .ok (.invokevirtual 134, 3) := by decide +kernel
theorem d_PS_makeLowering_12 : decode prog_1_method_28_code 12 = .ok (.if_icmp .ge 66, 3) := by decide +kernel
theorem d_PS_makeLowering_15 : decode prog_1_method_28_code 15 = .ok (.aload_n 0, 1) := by decide +kernel
theorem d_PS_makeLowering_16 : decode prog_1_method_28_code 16 = .ok (.getfield 24, 3) := by decide +kernel
theorem d_PS_makeLowering_19 : decode prog_1_method_28_code 19 = .ok (.iload_n 3, 1) := by decide +kernel
theorem d_PS_makeLowering_20 : decode prog_1_method_28_code 20 = .ok (.iconst 0, 1) := by decide +kernel
theorem d_PS_makeLowering_21 : decode prog_1_method_28_code 21 = .ok (.invokevirtual 130, 3) := by decide +kernel
theorem d_PS_makeLowering_24 : decode prog_1_method_28_code 24 = .ok (.istore 4, 2) := by decide +kernel
theorem d_PS_makeLowering_26 : decode prog_1_method_28_code 26 = .ok (.iload 4, 2) := by decide +kernel
theorem d_PS_makeLowering_28 : decode prog_1_method_28_code 28 = .ok (.iconst 3, 1) := by decide +kernel
theorem d_PS_makeLowering_29 : decode prog_1_method_28_code 29 = .ok (.invokestatic 247, 3) := by decide +kernel
theorem d_PS_makeLowering_32 : decode prog_1_method_28_code 32 = .ok (.istore 5, 2) := by decide +kernel
theorem d_PS_makeLowering_34 : decode prog_1_method_28_code 34 = .ok (.iload_n 2, 1) := by decide +kernel
theorem d_PS_makeLowering_35 : decode prog_1_method_28_code 35 = .ok (.iload 5, 2) := by decide +kernel
theorem d_PS_makeLowering_37 : decode prog_1_method_28_code 37 = .ok (.if_icmp .ge 30, 3) := by decide +kernel
theorem d_PS_makeLowering_40 : decode prog_1_method_28_code 40 = .ok (.aload_n 0, 1) := by decide +kernel
theorem d_PS_makeLowering_41 : decode prog_1_method_28_code 41 = .ok (.getfield 34, 3) := by decide +kernel
theorem d_PS_makeLowering_44 : decode prog_1_method_28_code 44 = .ok (.aload_n 0, 1) := by decide +kernel
theorem d_PS_makeLowering_45 : decode prog_1_method_28_code 45 = .ok (.getfield 24, 3) := by decide +kernel
theorem d_PS_makeLowering_48 : decode prog_1_method_28_code 48 = .ok (.invokevirtual 123, 3) := by decide +kernel
theorem d_PS_makeLowering_51 : decode prog_1_method_28_code 51 = .ok (.aload_n 0, 1) := by decide +kernel
theorem d_PS_makeLowering_52 : decode prog_1_method_28_code 52 = .ok (.getfield 34, 3) := by decide +kernel
theorem d_PS_makeLowering_55 : decode prog_1_method_28_code 55 = .ok (.iload_n 3, 1) := by decide +kernel
theorem d_PS_makeLowering_56 : decode prog_1_method_28_code 56 = .ok (.iload 4, 2) := by decide +kernel
theorem d_PS_makeLowering_58 : decode prog_1_method_28_code 58 = .ok (.iload_n 2, 1) := by decide +kernel
theorem d_PS_makeLowering_59 : decode prog_1_method_28_code 59 = .ok (.invokestatic 250, 3) := by decide +kernel
theorem d_PS_makeLowering_62 : decode prog_1_method_28_code 62 = .ok (.invokevirtual 253, 3) := by decide +kernel
theorem d_PS_makeLowering_65 : decode prog_1_method_28_code 65 = .ok (.iconst (-1), 1) := by decide +kernel
theorem d_PS_makeLowering_66 : decode prog_1_method_28_code 66 = .ok (.ireturn, 1) := by decide +kernel
theorem d_PS_makeLowering_67 : decode prog_1_method_28_code 67 = .ok (.iload_n 2, 1) := by decide +kernel
theorem d_PS_makeLowering_68 : decode prog_1_method_28_code 68 = .ok (.iload 5, 2) := by decide +kernel
theorem d_PS_makeLowering_70 : decode prog_1_method_28_code 70 = .ok (.isub, 1) := by decide +kernel
theorem d_PS_makeLowering_71 : decode prog_1_method_28_code 71 = .ok (.istore_n 2, 1) := by decide +kernel
theorem d_PS_makeLowering_72 : decode prog_1_method_28_code 72 = .ok (.iinc 3 1, 3) := by decide +kernel
theorem d_PS_makeLowering_75 : decode prog_1_method_28_code 75 = .ok (.goto (-71), 3) := by decide +kernel
theorem d_PS_makeLowering_78 : decode prog_1_method_28_code 78 = .ok (.iload_n 2, 1) := by decide +kernel
theorem d_PS_makeLowering_79 : decode prog_1_method_28_code 79 = .ok (.ireturn, 1) := by decide +kernel
theorem d_PS_lowered_0 : decode prog_1_method_29_code 0 = .ok (.iload_n 1, 1) := by decide +kernel
theorem d_PS_lowered_1 : decode prog_1_method_29_code 1 = .ok (.lookupswitch 33 #[(0, 27), (1, 29)], 27) := by decide +kernel
theorem d_PS_lowered_28 : decode prog_1_method_29_code 28 = .ok (.iconst 0, 1) := by decide +kernel
theorem d_PS_lowered_29 : decode prog_1_method_29_code 29 = .ok (.ireturn, 1) := by decide +kernel
theorem d_PS_lowered_30 : decode prog_1_method_29_code 30 = .ok (.iload_n 0, 1) := by decide +kernel
theorem d_PS_lowered_31 : decode prog_1_method_29_code 31 = .ok (.iconst 2, 1) := by decide +kernel
theorem d_PS_lowered_32 : decode prog_1_method_29_code 32 = .ok (.idiv, 1) := by decide +kernel
theorem d_PS_lowered_33 : decode prog_1_method_29_code 33 = .ok (.ireturn, 1) := by decide +kernel
theorem d_PS_lowered_34 : decode prog_1_method_29_code 34 = .ok (.iload_n 0, 1) := by decide +kernel
theorem d_PS_lowered_35 : decode prog_1_method_29_code 35 = .ok (.iconst 1, 1) := by decide +kernel
theorem d_PS_lowered_36 : decode prog_1_method_29_code 36 = .ok (.isub, 1) := by decide +kernel
theorem d_PS_lowered_37 : decode prog_1_method_29_code 37 = .ok (.ireturn, 1) := by decide +kernel
theorem d_PS_makeSwap_0 : decode prog_1_method_30_code 0 = .ok (.iload_n 1, 1) := by decide +kernel
theorem d_PS_makeSwap_1 : decode prog_1_method_30_code 1 = .ok (.istore_n 2, 1) := by decide +kernel
theorem d_PS_makeSwap_2 : decode prog_1_method_30_code 2 = .ok (.iconst 0, 1) := by decide +kernel
theorem d_PS_makeSwap_3 : decode prog_1_method_30_code 3 = .ok (.istore_n 3, 1) := by decide +kernel
theorem d_PS_makeSwap_4 : decode prog_1_method_30_code 4 = .ok (.iload_n 3, 1) := by decide +kernel
theorem d_PS_makeSwap_5 : decode prog_1_method_30_code 5 = .ok (.iconst 1, 1) := by decide +kernel
theorem d_PS_makeSwap_6 : decode prog_1_method_30_code 6 = .ok (.iadd, 1) := by decide +kernel
theorem d_PS_makeSwap_7 : decode prog_1_method_30_code 7 = .ok (.aload_n 0, 1) := by decide +kernel
theorem d_PS_makeSwap_8 : decode prog_1_method_30_code 8 = .ok (.getfield 24, 3) := by decide +kernel
theorem d_PS_makeSwap_11 : decode prog_1_method_30_code 11 = .ok (.invokevirtual 134, 3) := by decide +kernel
theorem d_PS_makeSwap_14 : decode prog_1_method_30_code 14 = .ok (.if_icmp .ge 82, 3) := by decide +kernel
theorem d_PS_makeSwap_17 : decode prog_1_method_30_code 17 = .ok (.aload_n 0, 1) := by decide +kernel
theorem d_PS_makeSwap_18 : decode prog_1_method_30_code 18 = .ok (.getfield 24, 3) := by decide +kernel
theorem d_PS_makeSwap_21 : decode prog_1_method_30_code 21 = .ok (.iload_n 3, 1) := by decide +kernel
theorem d_PS_makeSwap_22 : decode prog_1_method_30_code 22 = .ok (.iconst 0, 1) := by decide +kernel
theorem d_PS_makeSwap_23 : decode prog_1_method_30_code 23 = .ok (.invokevirtual 130, 3) := by decide +kernel
theorem d_PS_makeSwap_26 : decode prog_1_method_30_code 26 = .ok (.istore 4, 2) := by decide +kernel
theorem d_PS_makeSwap_28 : decode prog_1_method_30_code 28 = .ok (.aload_n 0, 1) := by decide +kernel
theorem d_PS_makeSwap_29 : decode prog_1_method_30_code 29 = .ok (.getfield 24, 3) := by decide +kernel
theorem d_PS_makeSwap_32 : decode prog_1_method_30_code 32 = .ok (.iload_n 3, 1) := by decide +kernel
theorem d_PS_makeSwap_33 : decode prog_1_method_30_code 33 = .ok (.iconst 1, 1) := by decide +kernel
theorem d_PS_makeSwap_34 : decode prog_1_method_30_code 34 = .ok (.iadd, 1) := by decide +kernel
theorem d_PS_makeSwap_35 : decode prog_1_method_30_code 35 = .ok (.iconst 0, 1) := by decide +kernel
theorem d_PS_makeSwap_36 : decode prog_1_method_30_code 36 = .ok (.invokevirtual 130, 3) := by decide +kernel
theorem d_PS_makeSwap_39 : decode prog_1_method_30_code 39 = .ok (.istore 5, 2) := by decide +kernel
theorem d_PS_makeSwap_41 : decode prog_1_method_30_code 41 = .ok (.iload 4, 2) := by decide +kernel
theorem d_PS_makeSwap_43 : decode prog_1_method_30_code 43 = .ok (.iload 5, 2) := by decide +kernel
theorem d_PS_makeSwap_45 : decode prog_1_method_30_code 45 = .ok (.if_icmp .le 45, 3) := by decide +kernel
theorem d_PS_makeSwap_48 : decode prog_1_method_30_code 48 = .ok (.iload_n 2, 1) := by decide +kernel
theorem d_PS_makeSwap_49 : decode prog_1_method_30_code 49 = .ok (.ifCond .ne 38, 3) := by decide +kernel
theorem d_PS_makeSwap_52 : decode prog_1_method_30_code 52 = .ok (.aload_n 0, 1) := by decide +kernel
theorem d_PS_makeSwap_53 : decode prog_1_method_30_code 53 = .ok (.getfield 34, 3) := by decide +kernel
theorem d_PS_makeSwap_56 : decode prog_1_method_30_code 56 = .ok (.aload_n 0, 1) := by decide +kernel
theorem d_PS_makeSwap_57 : decode prog_1_method_30_code 57 = .ok (.getfield 24, 3) := by decide +kernel
theorem d_PS_makeSwap_60 : decode prog_1_method_30_code 60 = .ok (.invokevirtual 123, 3) := by decide +kernel
theorem d_PS_makeSwap_63 : decode prog_1_method_30_code 63 = .ok (.aload_n 0, 1) := by decide +kernel
theorem d_PS_makeSwap_64 : decode prog_1_method_30_code 64 = .ok (.getfield 34, 3) := by decide +kernel
theorem d_PS_makeSwap_67 : decode prog_1_method_30_code 67 = .ok (.iload_n 3, 1) := by decide +kernel
theorem d_PS_makeSwap_68 : decode prog_1_method_30_code 68 = .ok (.iload 5, 2) := by decide +kernel
theorem d_PS_makeSwap_70 : decode prog_1_method_30_code 70 = .ok (.invokevirtual 253, 3) := by decide +kernel
theorem d_PS_makeSwap_73 : decode prog_1_method_30_code 73 = .ok (.aload_n 0, 1) := by decide +kernel
theorem d_PS_makeSwap_74 : decode prog_1_method_30_code 74 = .ok (.getfield 34, 3) := by decide +kernel
theorem d_PS_makeSwap_77 : decode prog_1_method_30_code 77 = .ok (.iload_n 3, 1) := by decide +kernel
theorem d_PS_makeSwap_78 : decode prog_1_method_30_code 78 = .ok (.iconst 1, 1) := by decide +kernel
theorem d_PS_makeSwap_79 : decode prog_1_method_30_code 79 = .ok (.iadd, 1) := by decide +kernel
theorem d_PS_makeSwap_80 : decode prog_1_method_30_code 80 = .ok (.iload 4, 2) := by decide +kernel
theorem d_PS_makeSwap_82 : decode prog_1_method_30_code 82 = .ok (.invokevirtual 253, 3) := by decide +kernel
theorem d_PS_makeSwap_85 : decode prog_1_method_30_code 85 = .ok (.iconst (-1), 1) := by decide +kernel
theorem d_PS_makeSwap_86 : decode prog_1_method_30_code 86 = .ok (.ireturn, 1) := by decide +kernel
theorem d_PS_makeSwap_87 : decode prog_1_method_30_code 87 = .ok (.iinc 2 (-1), 3) := by decide +kernel
theorem d_PS_makeSwap_90 : decode prog_1_method_30_code 90 = .ok (.iinc 3 1, 3) := by decide +kernel
theorem d_PS_makeSwap_93 : decode prog_1_method_30_code 93 = .ok (.goto (-89), 3) := by decide +kernel
theorem d_PS_makeSwap_96 : decode prog_1_method_30_code 96 = .ok (.iload_n 2, 1) := by decide +kernel
theorem d_PS_makeSwap_97 : decode prog_1_method_30_code 97 = .ok (.ireturn, 1) := by decide +kernel
theorem d_PS_least_0 : decode prog_1_method_6_code 0 = .ok (.aload_n 0, 1) := by decide +kernel
theorem d_PS_least_1 : decode prog_1_method_6_code 1 = .ok (.getfield 111, 3) := by decide +kernel
theorem d_PS_least_4 : decode prog_1_method_6_code 4 = .ok (.ireturn, 1) := by decide +kernel
theorem d_PS_replay_0 : decode prog_1_method_7_code 0 = .ok (.aload_n 0, 1) := by decide +kernel
theorem d_PS_replay_1 : decode prog_1_method_7_code 1 = .ok (.iload_n 1, 1) := by decide +kernel
theorem d_PS_replay_2 : decode prog_1_method_7_code 2 = .ok (.invokevirtual 61, 3) := by decide +kernel
theorem d_PS_replay_5 : decode prog_1_method_7_code 5 = .ok (.astore_n 3, 1) := by decide +kernel
theorem d_PS_replay_6 : decode prog_1_method_7_code 6 = .ok (.aload_n 0, 1) := by decide +kernel
theorem d_PS_replay_7 : decode prog_1_method_7_code 7 = .ok (.iload_n 2, 1) := by decide +kernel
theorem d_PS_replay_8 : decode prog_1_method_7_code 8 = .ok (.invokevirtual 65, 3) := by decide +kernel
theorem d_PS_replay_11 : decode prog_1_method_7_code 11 = .ok (.astore 4, 2) := by decide +kernel
theorem d_PS_replay_13 : decode prog_1_method_7_code 13 = .ok (.aload_n 3, 1) := by decide +kernel
theorem d_PS_replay_14 : decode prog_1_method_7_code 14 = .ok (.ifnull 8, 3) := by decide +kernel
theorem d_PS_replay_17 : decode prog_1_method_7_code 17 = .ok (.aload 4, 2) := by decide +kernel
theorem d_PS_replay_19 : decode prog_1_method_7_code 19 = .ok (.ifnonnull 5, 3) := by decide +kernel
theorem d_PS_replay_22 : decode prog_1_method_7_code 22 = .ok (.iconst (-1), 1) := by decide +kernel
theorem d_PS_replay_23 : decode prog_1_method_7_code 23 = .ok (.ireturn, 1) := by decide +kernel
theorem d_PS_replay_24 : decode prog_1_method_7_code 24 = .ok (.aload_n 0, 1) := by decide +kernel
theorem d_PS_replay_25 : decode prog_1_method_7_code 25 = .ok (.aload_n 3, 1) := by decide +kernel
theorem d_PS_replay_26 : decode prog_1_method_7_code 26 = .ok (.aload 4, 2) := by decide +kernel
theorem d_PS_replay_28 : decode prog_1_method_7_code 28 = .ok (.aload_n 0, 1) := by decide +kernel
theorem d_PS_replay_29 : decode prog_1_method_7_code 29 = .ok (.getfield 31, 3) := by decide +kernel
theorem d_PS_replay_32 : decode prog_1_method_7_code 32 = .ok (.invokevirtual 100, 3) := by decide +kernel
theorem d_PS_replay_35 : decode prog_1_method_7_code 35 = .ok (.istore 5, 2) := by decide +kernel
theorem d_PS_replay_37 : decode prog_1_method_7_code 37 = .ok (.aload_n 0, 1) := by decide +kernel
theorem d_PS_replay_38 : decode prog_1_method_7_code 38 = .ok (.getfield 31, 3) := by decide +kernel
theorem d_PS_replay_41 : decode prog_1_method_7_code 41 = .ok (.iconst 0, 1) := by decide +kernel
theorem d_PS_replay_42 : decode prog_1_method_7_code 42 = .ok (.invokevirtual 118, 3) := by decide +kernel
theorem d_PS_replay_45 : decode prog_1_method_7_code 45 = .ok (.aload_n 0, 1) := by decide +kernel
theorem d_PS_replay_46 : decode prog_1_method_7_code 46 = .ok (.getfield 28, 3) := by decide +kernel
theorem d_PS_replay_49 : decode prog_1_method_7_code 49 = .ok (.aload_n 0, 1) := by decide +kernel
theorem d_PS_replay_50 : decode prog_1_method_7_code 50 = .ok (.getfield 40, 3) := by decide +kernel
theorem d_PS_replay_53 : decode prog_1_method_7_code 53 = .ok (.getfield 122, 3) := by decide +kernel
theorem d_PS_replay_56 : decode prog_1_method_7_code 56 = .ok (.invokevirtual 123, 3) := by decide +kernel
theorem d_PS_replay_59 : decode prog_1_method_7_code 59 = .ok (.iload 5, 2) := by decide +kernel
theorem d_PS_replay_61 : decode prog_1_method_7_code 61 = .ok (.iconst 4, 1) := by decide +kernel
theorem d_PS_replay_62 : decode prog_1_method_7_code 62 = .ok (.if_icmp .ne 11, 3) := by decide +kernel
theorem d_PS_replay_65 : decode prog_1_method_7_code 65 = .ok (.aload_n 0, 1) := by decide +kernel
theorem d_PS_replay_66 : decode prog_1_method_7_code 66 = .ok (.getfield 28, 3) := by decide +kernel
theorem d_PS_replay_69 : decode prog_1_method_7_code 69 = .ok (.iconst 0, 1) := by decide +kernel
theorem d_PS_replay_70 : decode prog_1_method_7_code 70 = .ok (.invokevirtual 118, 3) := by decide +kernel
theorem d_PS_replay_73 : decode prog_1_method_7_code 73 = .ok (.iload 5, 2) := by decide +kernel
theorem d_PS_replay_75 : decode prog_1_method_7_code 75 = .ok (.ireturn, 1) := by decide +kernel
theorem d_PS_put_0 : decode prog_1_method_8_code 0 = .ok (.iload_n 1, 1) := by decide +kernel
theorem d_PS_put_1 : decode prog_1_method_8_code 1 = .ok (.ifCond .lt 18, 3) := by decide +kernel
theorem d_PS_put_4 : decode prog_1_method_8_code 4 = .ok (.aload_n 0, 1) := by decide +kernel
theorem d_PS_put_5 : decode prog_1_method_8_code 5 = .ok (.getfield 31, 3) := by decide +kernel
theorem d_PS_put_8 : decode prog_1_method_8_code 8 = .ok (.iload_n 1, 1) := by decide +kernel
theorem d_PS_put_9 : decode prog_1_method_8_code 9 = .ok (.invokevirtual 127, 3) := by decide +kernel
theorem d_PS_put_12 : decode prog_1_method_8_code 12 = .ok (.ifCond .eq 7, 3) := by decide +kernel
theorem d_PS_put_15 : decode prog_1_method_8_code 15 = .ok (.iconst 1, 1) := by decide +kernel
theorem d_PS_put_16 : decode prog_1_method_8_code 16 = .ok (.goto 4, 3) := by decide +kernel
theorem d_PS_put_19 : decode prog_1_method_8_code 19 = .ok (.iconst 0, 1) := by decide +kernel
theorem d_PS_put_20 : decode prog_1_method_8_code 20 = .ok (.ireturn, 1) := by decide +kernel
theorem d_PS_choice_0 : decode prog_1_method_9_code 0 = .ok (.aload_n 0, 1) := by decide +kernel
theorem d_PS_choice_1 : decode prog_1_method_9_code 1 = .ok (.getfield 24, 3) := by decide +kernel
theorem d_PS_choice_4 : decode prog_1_method_9_code 4 = .ok (.iload_n 1, 1) := by decide +kernel
theorem d_PS_choice_5 : decode prog_1_method_9_code 5 = .ok (.iconst (-1), 1) := by decide +kernel
theorem d_PS_choice_6 : decode prog_1_method_9_code 6 = .ok (.invokevirtual 130, 3) := by decide +kernel
theorem d_PS_choice_9 : decode prog_1_method_9_code 9 = .ok (.ireturn, 1) := by decide +kernel
theorem d_PS_size_0 : decode prog_1_method_10_code 0 = .ok (.iload_n 1, 1) := by decide +kernel
theorem d_PS_size_1 : decode prog_1_method_10_code 1 = .ok (.tableswitch 57 0 3 #[31, 39, 47, 52], 31) := by decide +kernel
theorem d_PS_size_32 : decode prog_1_method_10_code 32 = .ok (.aload_n 0, 1) := by decide +kernel
theorem d_PS_size_33 : decode prog_1_method_10_code 33 = .ok (.getfield 24, 3) := by decide +kernel
theorem d_PS_size_36 : decode prog_1_method_10_code 36 = .ok (.invokevirtual 134, 3) := by decide +kernel
theorem d_PS_size_39 : decode prog_1_method_10_code 39 = .ok (.ireturn, 1) := by decide +kernel
theorem d_PS_size_40 : decode prog_1_method_10_code 40 = .ok (.aload_n 0, 1) := by decide +kernel
theorem d_PS_size_41 : decode prog_1_method_10_code 41 = .ok (.getfield 28, 3) := by decide +kernel
theorem d_PS_size_44 : decode prog_1_method_10_code 44 = .ok (.invokevirtual 134, 3) := by decide +kernel
theorem d_PS_size_47 : decode prog_1_method_10_code 47 = .ok (.ireturn, 1) := by decide +kernel
theorem d_PS_size_48 : decode prog_1_method_10_code 48 = .ok (.aload_n 0, 1) := by decide +kernel
theorem d_PS_size_49 : decode prog_1_method_10_code 49 = .ok (.getfield 89, 3) := by decide +kernel
theorem d_PS_size_52 : decode prog_1_method_10_code 52 = .ok (.ireturn, 1) := by decide +kernel
theorem d_PS_size_53 : decode prog_1_method_10_code 53 = .ok (.aload_n 0, 1) := by decide +kernel
theorem d_PS_size_54 : decode prog_1_method_10_code 54 = .ok (.getfield 69, 3) := by decide +kernel
theorem d_PS_size_57 : decode prog_1_method_10_code 57 = .ok (.ireturn, 1) := by decide +kernel
theorem d_PS_size_58 : decode prog_1_method_10_code 58 = .ok (.iconst (-1), 1) := by decide +kernel
theorem d_PS_size_59 : decode prog_1_method_10_code 59 = .ok (.ireturn, 1) := by decide +kernel
theorem d_PS_number_0 : decode prog_1_method_11_code 0 = .ok (.aload_n 0, 1) := by decide +kernel
theorem d_PS_number_1 : decode prog_1_method_11_code 1 = .ok (.getfield 28, 3) := by decide +kernel
theorem d_PS_number_4 : decode prog_1_method_11_code 4 = .ok (.iload_n 1, 1) := by decide +kernel
theorem d_PS_number_5 : decode prog_1_method_11_code 5 = .ok (.iconst 0, 1) := by decide +kernel
theorem d_PS_number_6 : decode prog_1_method_11_code 6 = .ok (.invokevirtual 130, 3) := by decide +kernel
theorem d_PS_number_9 : decode prog_1_method_11_code 9 = .ok (.ireturn, 1) := by decide +kernel
theorem d_PS_all_0 : decode prog_1_method_12_code 0 = .ok (.aload_n 0, 1) := by decide +kernel
theorem d_PS_all_1 : decode prog_1_method_12_code 1 = .ok (.iload_n 1, 1) := by decide +kernel
theorem d_PS_all_2 : decode prog_1_method_12_code 2 = .ok (.invokevirtual 61, 3) := by decide +kernel
theorem d_PS_all_5 : decode prog_1_method_12_code 5 = .ok (.astore_n 3, 1) := by decide +kernel
theorem d_PS_all_6 : decode prog_1_method_12_code 6 = .ok (.aload_n 3, 1) := by decide +kernel
theorem d_PS_all_7 : decode prog_1_method_12_code 7 = .ok (.ifnull 15, 3) := by decide +kernel
theorem d_PS_all_10 : decode prog_1_method_12_code 10 = .ok (.iload_n 2, 1) := by decide +kernel
theorem d_PS_all_11 : decode prog_1_method_12_code 11 = .ok (.iconst 1, 1) := by decide +kernel
theorem d_PS_all_12 : decode prog_1_method_12_code 12 = .ok (.if_icmp .lt 10, 3) := by decide +kernel
theorem d_PS_all_15 : decode prog_1_method_12_code 15 = .ok (.iload_n 2, 1) := by decide +kernel
theorem d_PS_all_16 : decode prog_1_method_12_code 16 = .ok (.sipush 200, 3) := by decide +kernel
theorem d_PS_all_19 : decode prog_1_method_12_code 19 = .ok (.if_icmp .le 5, 3) := by decide +kernel
theorem d_PS_all_22 : decode prog_1_method_12_code 22 = .ok (.iconst (-1), 1) := by decide +kernel
theorem d_PS_all_23 : decode prog_1_method_12_code 23 = .ok (.ireturn, 1) := by decide +kernel
theorem d_PS_all_24 : decode prog_1_method_12_code 24 = .ok (.aload_n 0, 1) := by decide +kernel
theorem d_PS_all_25 : decode prog_1_method_12_code 25 = .ok (.lconst 0, 1) := by decide +kernel
theorem d_PS_all_26 : decode prog_1_method_12_code 26 = .ok (.putfield 138, 3) := by decide +kernel
theorem d_PS_all_29 : decode prog_1_method_12_code 29 = .ok (.iconst 0, 1) := by decide +kernel
theorem d_PS_all_30 : decode prog_1_method_12_code 30 = .ok (.istore 4, 2) := by decide +kernel
theorem d_PS_all_32 : decode prog_1_method_12_code 32 = .ok (.iconst 1, 1) := by decide +kernel
theorem d_PS_all_33 : decode prog_1_method_12_code 33 = .ok (.istore 5, 2) := by decide +kernel
theorem d_PS_all_35 : decode prog_1_method_12_code 35 = .ok (.aload_n 0, 1) := by decide +kernel
theorem d_PS_all_36 : decode prog_1_method_12_code 36 = .ok (.getfield 40, 3) := by decide +kernel
theorem d_PS_all_39 : decode prog_1_method_12_code 39 = .ok (.invokevirtual 142, 3) := by decide +kernel
theorem d_PS_all_42 : decode prog_1_method_12_code 42 = .ok (.iconst 0, 1) := by decide +kernel
theorem d_PS_all_43 : decode prog_1_method_12_code 43 = .ok (.istore 6, 2) := by decide +kernel
theorem d_PS_all_45 : decode prog_1_method_12_code 45 = .ok (.iload 6, 2) := by decide +kernel
theorem d_PS_all_47 : decode prog_1_method_12_code 47 = .ok (.sipush 2000, 3) := by decide +kernel
theorem d_PS_all_50 : decode prog_1_method_12_code 50 = .ok (.if_icmp .ge 61, 3) := by decide +kernel
theorem d_PS_all_53 : decode prog_1_method_12_code 53 = .ok (.iload 4, 2) := by decide +kernel
theorem d_PS_all_55 : decode prog_1_method_12_code 55 = .ok (.iload_n 2, 1) := by decide +kernel
theorem d_PS_all_56 : decode prog_1_method_12_code 56 = .ok (.if_icmp .ge 55, 3) := by decide +kernel
theorem d_PS_all_59 : decode prog_1_method_12_code 59 = .ok (.iload 5, 2) := by decide +kernel
theorem d_PS_all_61 : decode prog_1_method_12_code 61 = .ok (.ifCond .eq 50, 3) := by decide +kernel
theorem d_PS_all_64 : decode prog_1_method_12_code 64 = .ok (.aload_n 3, 1) := by decide +kernel
theorem d_PS_all_65 : decode prog_1_method_12_code 65 = .ok (.aload_n 0, 1) := by decide +kernel
theorem d_PS_all_66 : decode prog_1_method_12_code 66 = .ok (.getfield 40, 3) := by decide +kernel
theorem d_PS_all_69 : decode prog_1_method_12_code 69 = .ok (.invokevirtual 145, 3) := by decide +kernel
theorem d_PS_all_72 : decode prog_1_method_12_code 72 = .ok (.aload_n 0, 1) := by decide +kernel
theorem d_PS_all_73 : decode prog_1_method_12_code 73 = .ok (.getfield 40, 3) := by decide +kernel
theorem d_PS_all_76 : decode prog_1_method_12_code 76 = .ok (.getfield 149, 3) := by decide +kernel
theorem d_PS_all_79 : decode prog_1_method_12_code 79 = .ok (.ifCond .ne 17, 3) := by decide +kernel
theorem d_PS_all_82 : decode prog_1_method_12_code 82 = .ok (.iinc 4 1, 3) := by decide +kernel
theorem d_PS_all_85 : decode prog_1_method_12_code 85 = .ok (.aload_n 0, 1) := by decide +kernel
theorem d_PS_all_86 : decode prog_1_method_12_code 86 = .ok (.aload_n 0, 1) := by decide +kernel
theorem d_PS_all_87 : decode prog_1_method_12_code 87 = .ok (.getfield 40, 3) := by decide +kernel
theorem d_PS_all_90 : decode prog_1_method_12_code 90 = .ok (.getfield 122, 3) := by decide +kernel
theorem d_PS_all_93 : decode prog_1_method_12_code 93 = .ok (.invokevirtual 152, 3) := by decide +kernel
theorem d_PS_all_96 : decode prog_1_method_12_code 96 = .ok (.aload_n 0, 1) := by decide +kernel
theorem d_PS_all_97 : decode prog_1_method_12_code 97 = .ok (.getfield 40, 3) := by decide +kernel
theorem d_PS_all_100 : decode prog_1_method_12_code 100 = .ok (.invokevirtual 155, 3) := by decide +kernel
theorem d_PS_all_103 : decode prog_1_method_12_code 103 = .ok (.istore 5, 2) := by decide +kernel
theorem d_PS_all_105 : decode prog_1_method_12_code 105 = .ok (.iinc 6 1, 3) := by decide +kernel
theorem d_PS_all_108 : decode prog_1_method_12_code 108 = .ok (.goto (-63), 3) := by decide +kernel
theorem d_PS_all_111 : decode prog_1_method_12_code 111 = .ok (.iload 4, 2) := by decide +kernel
theorem d_PS_all_113 : decode prog_1_method_12_code 113 = .ok (.ireturn, 1) := by decide +kernel
theorem d_PS_addToRowsSum_0 : decode prog_1_method_31_code 0 = .ok (.iconst 0, 1) := by decide +kernel
theorem d_PS_addToRowsSum_1 : decode prog_1_method_31_code 1 = .ok (.istore_n 2, 1) := by decide +kernel
theorem d_PS_addToRowsSum_2 : decode prog_1_method_31_code 2 = .ok (.iload_n 2, 1) := by decide +kernel
theorem d_PS_addToRowsSum_3 : decode prog_1_method_31_code 3 = .ok (.aload_n 1, 1) := by decide +kernel
theorem d_PS_addToRowsSum_4 : decode prog_1_method_31_code 4 = .ok (.invokevirtual 134, 3) := by decide +kernel
theorem d_PS_addToRowsSum_7 : decode prog_1_method_31_code 7 = .ok (.if_icmp .ge 29, 3) := by decide +kernel
theorem d_PS_addToRowsSum_10 : decode prog_1_method_31_code 10 = .ok (.aload_n 0, 1) := by decide +kernel
theorem d_PS_addToRowsSum_11 : decode prog_1_method_31_code 11 = .ok (.ldc2_w 256, 3) := by decide +kernel
theorem d_PS_addToRowsSum_14 : decode prog_1_method_31_code 14 = .ok (.aload_n 0, 1) := by decide +kernel
theorem d_PS_addToRowsSum_15 : decode prog_1_method_31_code 15 = .ok (.getfield 138, 3) := by decide +kernel
theorem d_PS_addToRowsSum_18 : decode prog_1_method_31_code 18 = .ok (.lmul, 1) := by decide +kernel
theorem d_PS_addToRowsSum_19 : decode prog_1_method_31_code 19 = .ok (.aload_n 1, 1) := by decide +kernel
theorem d_PS_addToRowsSum_20 : decode prog_1_method_31_code 20 = .ok (.iload_n 2, 1) := by decide +kernel
theorem d_PS_addToRowsSum_21 : decode prog_1_method_31_code 21 = .ok (.iconst 0, 1) := by decide +kernel
theorem d_PS_addToRowsSum_22 : decode prog_1_method_31_code 22 = .ok (.invokevirtual 130, 3) := by decide +kernel
theorem d_PS_addToRowsSum_25 : decode prog_1_method_31_code 25 = .ok (.i2l, 1) := by decide +kernel
theorem d_PS_addToRowsSum_26 : decode prog_1_method_31_code 26 = .ok (.ladd, 1) := by decide +kernel
theorem d_PS_addToRowsSum_27 : decode prog_1_method_31_code 27 = .ok (.putfield 138, 3) := by decide +kernel
theorem d_PS_addToRowsSum_30 : decode prog_1_method_31_code 30 = .ok (.iinc 2 1, 3) := by decide +kernel
theorem d_PS_addToRowsSum_33 : decode prog_1_method_31_code 33 = .ok (.goto (-31), 3) := by decide +kernel
theorem d_PS_addToRowsSum_36 : decode prog_1_method_31_code 36 = .ok (.aload_n 0, 1) := by decide +kernel
theorem d_PS_addToRowsSum_37 : decode prog_1_method_31_code 37 = .ok (.ldc2_w 256, 3) := by decide +kernel
theorem d_PS_addToRowsSum_40 : decode prog_1_method_31_code 40 = .ok (.aload_n 0, 1) := by decide +kernel
theorem d_PS_addToRowsSum_41 : decode prog_1_method_31_code 41 = .ok (.getfield 138, 3) := by decide +kernel
theorem d_PS_addToRowsSum_44 : decode prog_1_method_31_code 44 = .ok (.lmul, 1) := by decide +kernel
theorem d_PS_addToRowsSum_45 : decode prog_1_method_31_code 45 = .ok (.ldc2_w 258, 3) := by decide +kernel
theorem d_PS_addToRowsSum_48 : decode prog_1_method_31_code 48 = .ok (.ladd, 1) := by decide +kernel
theorem d_PS_addToRowsSum_49 : decode prog_1_method_31_code 49 = .ok (.putfield 138, 3) := by decide +kernel
theorem d_PS_addToRowsSum_52 : decode prog_1_method_31_code 52 = .ok (.return_, 1) := by decide +kernel
theorem d_PS_sum_0 : decode prog_1_method_13_code 0 = .ok (.aload_n 0, 1) := by decide +kernel
theorem d_PS_sum_1 : decode prog_1_method_13_code 1 = .ok (.getfield 138, 3) := by decide +kernel
theorem d_PS_sum_4 : decode prog_1_method_13_code 4 = .ok (.lreturn, 1) := by decide +kernel
end
section
/-! decode rows -/
theorem d_Mo_init_0 : decode prog_14_method_1_code 0 = .ok (.aload_n 0, 1) := by decide +kernel
theorem d_Mo_init_1 : decode prog_14_method_1_code 1 = .ok (.invokespecial 1, 3) := by decide +kernel
theorem d_Mo_init_4 : decode prog_14_method_1_code 4 = .ok (.aload_n 0, 1) := by decide +kernel
theorem d_Mo_init_5 : decode prog_14_method_1_code 5 = .ok (.bipush 20, 2) := by decide +kernel
theorem d_Mo_init_7 : decode prog_14_method_1_code 7 = .ok (.newarray .int, 2) := by decide +kernel
theorem d_Mo_init_9 : decode prog_14_method_1_code 9 = .ok (.putfield 7, 3) := by decide +kernel
theorem d_Mo_init_12 : decode prog_14_method_1_code 12 = .ok (.aload_n 0, 1) := by decide +kernel
theorem d_Mo_init_13 : decode prog_14_method_1_code 13 = .ok (.bipush 20, 2) := by decide +kernel
theorem d_Mo_init_15 : decode prog_14_method_1_code 15 = .ok (.newarray .int, 2) := by decide +kernel
theorem d_Mo_init_17 : decode prog_14_method_1_code 17 = .ok (.putfield 13, 3) := by decide +kernel
theorem d_Mo_init_20 : decode prog_14_method_1_code 20 = .ok (.aload_n 0, 1) := by decide +kernel
theorem d_Mo_init_21 : decode prog_14_method_1_code 21 = .ok (.bipush 20, 2) := by decide +kernel
theorem d_Mo_init_23 : decode prog_14_method_1_code 23 = .ok (.newarray .int, 2) := by decide +kernel
theorem d_Mo_init_25 : decode prog_14_method_1_code 25 = .ok (.putfield 16, 3) := by decide +kernel
theorem d_Mo_init_28 : decode prog_14_method_1_code 28 = .ok (.aload_n 0, 1) := by decide +kernel
theorem d_Mo_init_29 : decode prog_14_method_1_code 29 = .ok (.bipush 20, 2) := by decide +kernel
theorem d_Mo_init_31 : decode prog_14_method_1_code 31 = .ok (.newarray .int, 2) := by decide +kernel
theorem d_Mo_init_33 : decode prog_14_method_1_code 33 = .ok (.putfield 19, 3) := by decide +kernel
theorem d_Mo_init_36 : decode prog_14_method_1_code 36 = .ok (.aload_n 0, 1) := by decide +kernel
theorem d_Mo_init_37 : decode prog_14_method_1_code 37 = .ok (.bipush 10, 2) := by decide +kernel
theorem d_Mo_init_39 : decode prog_14_method_1_code 39 = .ok (.newarray .int, 2) := by decide +kernel
theorem d_Mo_init_41 : decode prog_14_method_1_code 41 = .ok (.putfield 22, 3) := by decide +kernel
theorem d_Mo_init_44 : decode prog_14_method_1_code 44 = .ok (.aload_n 0, 1) := by decide +kernel
theorem d_Mo_init_45 : decode prog_14_method_1_code 45 = .ok (.bipush 10, 2) := by decide +kernel
theorem d_Mo_init_47 : decode prog_14_method_1_code 47 = .ok (.newarray .int, 2) := by decide +kernel
theorem d_Mo_init_49 : decode prog_14_method_1_code 49 = .ok (.putfield 25, 3) := by decide +kernel
theorem d_Mo_init_52 : decode prog_14_method_1_code 52 = .ok (.aload_n 0, 1) := by decide +kernel
theorem d_Mo_init_53 : decode prog_14_method_1_code 53 = .ok (.bipush 10, 2) := by decide +kernel
theorem d_Mo_init_55 : decode prog_14_method_1_code 55 = .ok (.newarray .int, 2) := by decide +kernel
theorem d_Mo_init_57 : decode prog_14_method_1_code 57 = .ok (.putfield 28, 3) := by decide +kernel
theorem d_Mo_init_60 : decode prog_14_method_1_code 60 = .ok (.aload_n 0, 1) := by decide +kernel
theorem d_Mo_init_61 : decode prog_14_method_1_code 61 = .ok (.bipush 60, 2) := by decide +kernel
theorem d_Mo_init_63 : decode prog_14_method_1_code 63 = .ok (.newarray .int, 2) := by decide +kernel
theorem d_Mo_init_65 : decode prog_14_method_1_code 65 = .ok (.putfield 31, 3) := by decide +kernel
theorem d_Mo_init_68 : decode prog_14_method_1_code 68 = .ok (.aload_n 0, 1) := by decide +kernel
theorem d_Mo_init_69 : decode prog_14_method_1_code 69 = .ok (.bipush 60, 2) := by decide +kernel
theorem d_Mo_init_71 : decode prog_14_method_1_code 71 = .ok (.newarray .int, 2) := by decide +kernel
theorem d_Mo_init_73 : decode prog_14_method_1_code 73 = .ok (.putfield 34, 3) := by decide +kernel
theorem d_Mo_init_76 : decode prog_14_method_1_code 76 = .ok (.aload_n 0, 1) := by decide +kernel
theorem d_Mo_init_77 : decode prog_14_method_1_code 77 = .ok (.bipush 60, 2) := by decide +kernel
theorem d_Mo_init_79 : decode prog_14_method_1_code 79 = .ok (.newarray .int, 2) := by decide +kernel
theorem d_Mo_init_81 : decode prog_14_method_1_code 81 = .ok (.putfield 37, 3) := by decide +kernel
theorem d_Mo_init_84 : decode prog_14_method_1_code 84 = .ok (.aload_n 0, 1) := by decide +kernel
theorem d_Mo_init_85 : decode prog_14_method_1_code 85 = .ok (.bipush 60, 2) := by decide +kernel
theorem d_Mo_init_87 : decode prog_14_method_1_code 87 = .ok (.newarray .int, 2) := by decide +kernel
theorem d_Mo_init_89 : decode prog_14_method_1_code 89 = .ok (.putfield 40, 3) := by decide +kernel
theorem d_Mo_init_92 : decode prog_14_method_1_code 92 = .ok (.aload_n 0, 1) := by decide +kernel
theorem d_Mo_init_93 : decode prog_14_method_1_code 93 = .ok (.bipush 20, 2) := by decide +kernel
theorem d_Mo_init_95 : decode prog_14_method_1_code 95 = .ok (.newarray .int, 2) := by decide +kernel
theorem d_Mo_init_97 : decode prog_14_method_1_code 97 = .ok (.putfield 43, 3) := by decide +kernel
theorem d_Mo_init_100 : decode prog_14_method_1_code 100 = .ok (.aload_n 0, 1) := by decide +kernel
theorem d_Mo_init_101 : decode prog_14_method_1_code 101 = .ok (.bipush 20, 2) := by decide +kernel
theorem d_Mo_init_103 : decode prog_14_method_1_code 103 = .ok (.newarray .int, 2) := by decide +kernel
theorem d_Mo_init_105 : decode prog_14_method_1_code 105 = .ok (.putfield 46, 3) := by decide +kernel
theorem d_Mo_init_108 : decode prog_14_method_1_code 108 = .ok (.aload_n 0, 1) := by decide +kernel
theorem d_Mo_init_109 : decode prog_14_method_1_code 109 = .ok (.bipush 20, 2) := by decide +kernel
theorem d_Mo_init_111 : decode prog_14_method_1_code 111 = .ok (.newarray .int, 2) := by decide +kernel
theorem d_Mo_init_113 : decode prog_14_method_1_code 113 = .ok (.putfield 49, 3) := by decide +kernel
theorem d_Mo_init_116 : decode prog_14_method_1_code 116 = .ok (.aload_n 0, 1) := by decide +kernel
theorem d_Mo_init_117 : decode prog_14_method_1_code 117 = .ok (.bipush 20, 2) := by decide +kernel
theorem d_Mo_init_119 : decode prog_14_method_1_code 119 = .ok (.newarray .int, 2) := by decide +kernel
theorem d_Mo_init_121 : decode prog_14_method_1_code 121 = .ok (.putfield 52, 3) := by decide +kernel
theorem d_Mo_init_124 : decode prog_14_method_1_code 124 = .ok (.aload_n 0, 1) := by decide +kernel
theorem d_Mo_init_125 : decode prog_14_method_1_code 125 = .ok (.iconst (-1), 1) := by decide +kernel
theorem d_Mo_init_126 : decode prog_14_method_1_code 126 = .ok (.putfield 55, 3) := by decide +kernel
theorem d_Mo_init_129 : decode prog_14_method_1_code 129 = .ok (.aload_n 0, 1) := by decide +kernel
theorem d_Mo_init_130 : decode prog_14_method_1_code 130 = .ok (.bipush 60, 2) := by decide +kernel
theorem d_Mo_init_132 : decode prog_14_method_1_code 132 = .ok (.newarray .int, 2) := by decide +kernel
theorem d_Mo_init_134 : decode prog_14_method_1_code 134 = .ok (.putfield 59, 3) := by decide +kernel
theorem d_Mo_init_137 : decode prog_14_method_1_code 137 = .ok (.aload_n 0, 1) := by decide +kernel
theorem d_Mo_init_138 : decode prog_14_method_1_code 138 = .ok (.sipush 200, 3) := by decide +kernel
theorem d_Mo_init_141 : decode prog_14_method_1_code 141 = .ok (.newarray .int, 2) := by decide +kernel
theorem d_Mo_init_143 : decode prog_14_method_1_code 143 = .ok (.putfield 62, 3) := by decide +kernel
theorem d_Mo_init_146 : decode prog_14_method_1_code 146 = .ok (.aload_n 0, 1) := by decide +kernel
theorem d_Mo_init_147 : decode prog_14_method_1_code 147 = .ok (.sipush 200, 3) := by decide +kernel
theorem d_Mo_init_150 : decode prog_14_method_1_code 150 = .ok (.newarray .int, 2) := by decide +kernel
theorem d_Mo_init_152 : decode prog_14_method_1_code 152 = .ok (.putfield 65, 3) := by decide +kernel
theorem d_Mo_init_155 : decode prog_14_method_1_code 155 = .ok (.aload_n 0, 1) := by decide +kernel
theorem d_Mo_init_156 : decode prog_14_method_1_code 156 = .ok (.sipush 200, 3) := by decide +kernel
theorem d_Mo_init_159 : decode prog_14_method_1_code 159 = .ok (.newarray .int, 2) := by decide +kernel
theorem d_Mo_init_161 : decode prog_14_method_1_code 161 = .ok (.putfield 68, 3) := by decide +kernel
theorem d_Mo_init_164 : decode prog_14_method_1_code 164 = .ok (.aload_n 0, 1) := by decide +kernel
theorem d_Mo_init_165 : decode prog_14_method_1_code 165 = .ok (.sipush 12000, 3) := by decide +kernel
theorem d_Mo_init_168 : decode prog_14_method_1_code 168 = .ok (.newarray .int, 2) := by decide +kernel
theorem d_Mo_init_170 : decode prog_14_method_1_code 170 = .ok (.putfield 71, 3) := by decide +kernel
theorem d_Mo_init_173 : decode prog_14_method_1_code 173 = .ok (.aload_n 0, 1) := by decide +kernel
theorem d_Mo_init_174 : decode prog_14_method_1_code 174 = .ok (.bipush 60, 2) := by decide +kernel
theorem d_Mo_init_176 : decode prog_14_method_1_code 176 = .ok (.newarray .int, 2) := by decide +kernel
theorem d_Mo_init_178 : decode prog_14_method_1_code 178 = .ok (.putfield 74, 3) := by decide +kernel
theorem d_Mo_init_181 : decode prog_14_method_1_code 181 = .ok (.aload_n 0, 1) := by decide +kernel
theorem d_Mo_init_182 : decode prog_14_method_1_code 182 = .ok (.bipush 60, 2) := by decide +kernel
theorem d_Mo_init_184 : decode prog_14_method_1_code 184 = .ok (.newarray .int, 2) := by decide +kernel
theorem d_Mo_init_186 : decode prog_14_method_1_code 186 = .ok (.putfield 77, 3) := by decide +kernel
theorem d_Mo_init_189 : decode prog_14_method_1_code 189 = .ok (.return_, 1) := by decide +kernel
theorem d_Mo_generator_0 : decode prog_14_method_5_code 0 = .ok (.aload_n 0, 1) := by decide +kernel
theorem d_Mo_generator_1 : decode prog_14_method_5_code 1 = .ok (.iconst 0, 1) := by decide +kernel
theorem d_Mo_generator_2 : decode prog_14_method_5_code 2 = .ok (.putfield 80, 3) := by decide +kernel
theorem d_Mo_generator_5 : decode prog_14_method_5_code 5 = .ok (.aload_n 0, 1) := by decide +kernel
theorem d_Mo_generator_6 : decode prog_14_method_5_code 6 = .ok (.getfield 83, 3) := by decide +kernel
theorem d_Mo_generator_9 : decode prog_14_method_5_code 9 = .ok (.bipush 20, 2) := by decide +kernel
theorem d_Mo_generator_11 : decode prog_14_method_5_code 11 = .ok (.if_icmp .ge 17, 3) := by decide +kernel
theorem d_Mo_generator_14 : decode prog_14_method_5_code 14 = .ok (.iload_n 1, 1) := by decide +kernel
theorem d_Mo_generator_15 : decode prog_14_method_5_code 15 = .ok (.ifCond .lt 13, 3) := by decide +kernel
theorem d_Mo_generator_18 : decode prog_14_method_5_code 18 = .ok (.iload_n 1, 1) := by decide +kernel
theorem d_Mo_generator_19 : decode prog_14_method_5_code 19 = .ok (.bipush 6, 2) := by decide +kernel
theorem d_Mo_generator_21 : decode prog_14_method_5_code 21 = .ok (.if_icmp .ge 7, 3) := by decide +kernel
theorem d_Mo_generator_24 : decode prog_14_method_5_code 24 = .ok (.iconst 1, 1) := by decide +kernel
theorem d_Mo_generator_25 : decode prog_14_method_5_code 25 = .ok (.goto 4, 3) := by decide +kernel
theorem d_Mo_generator_28 : decode prog_14_method_5_code 28 = .ok (.iconst 0, 1) := by decide +kernel
theorem d_Mo_generator_29 : decode prog_14_method_5_code 29 = .ok (.istore 4, 2) := by decide +kernel
theorem d_Mo_generator_31 : decode prog_14_method_5_code 31 = .ok (.iload_n 1, 1) := by decide +kernel
theorem d_Mo_generator_32 : decode prog_14_method_5_code 32 = .ok (.ifCond .ne 49, 3) := by decide +kernel
theorem d_Mo_generator_35 : decode prog_14_method_5_code 35 = .ok (.iload 4, 2) := by decide +kernel
theorem d_Mo_generator_37 : decode prog_14_method_5_code 37 = .ok (.ifCond .eq 38, 3) := by decide +kernel
theorem d_Mo_generator_40 : decode prog_14_method_5_code 40 = .ok (.iload_n 2, 1) := by decide +kernel
theorem d_Mo_generator_41 : decode prog_14_method_5_code 41 = .ok (.sipush (-1000), 3) := by decide +kernel
theorem d_Mo_generator_44 : decode prog_14_method_5_code 44 = .ok (.sipush 1000, 3) := by decide +kernel
theorem d_Mo_generator_47 : decode prog_14_method_5_code 47 = .ok (.invokestatic 86, 3) := by decide +kernel
theorem d_Mo_generator_50 : decode prog_14_method_5_code 50 = .ok (.ifCond .eq 25, 3) := by decide +kernel
theorem d_Mo_generator_53 : decode prog_14_method_5_code 53 = .ok (.iload_n 3, 1) := by decide +kernel
theorem d_Mo_generator_54 : decode prog_14_method_5_code 54 = .ok (.sipush (-1000), 3) := by decide +kernel
theorem d_Mo_generator_57 : decode prog_14_method_5_code 57 = .ok (.sipush 1000, 3) := by decide +kernel
theorem d_Mo_generator_60 : decode prog_14_method_5_code 60 = .ok (.invokestatic 86, 3) := by decide +kernel
theorem d_Mo_generator_63 : decode prog_14_method_5_code 63 = .ok (.ifCond .eq 12, 3) := by decide +kernel
theorem d_Mo_generator_66 : decode prog_14_method_5_code 66 = .ok (.iload_n 2, 1) := by decide +kernel
theorem d_Mo_generator_67 : decode prog_14_method_5_code 67 = .ok (.iload_n 3, 1) := by decide +kernel
theorem d_Mo_generator_68 : decode prog_14_method_5_code 68 = .ok (.if_icmp .gt 7, 3) := by decide +kernel
theorem d_Mo_generator_71 : decode prog_14_method_5_code 71 = .ok (.iconst 1, 1) := by decide +kernel
theorem d_Mo_generator_72 : decode prog_14_method_5_code 72 = .ok (.goto 4, 3) := by decide +kernel
theorem d_Mo_generator_75 : decode prog_14_method_5_code 75 = .ok (.iconst 0, 1) := by decide +kernel
theorem d_Mo_generator_76 : decode prog_14_method_5_code 76 = .ok (.istore 4, 2) := by decide +kernel
theorem d_Mo_generator_78 : decode prog_14_method_5_code 78 = .ok (.goto 23, 3) := by decide +kernel
theorem d_Mo_generator_81 : decode prog_14_method_5_code 81 = .ok (.iload 4, 2) := by decide +kernel
theorem d_Mo_generator_83 : decode prog_14_method_5_code 83 = .ok (.ifCond .eq 15, 3) := by decide +kernel
theorem d_Mo_generator_86 : decode prog_14_method_5_code 86 = .ok (.aload_n 0, 1) := by decide +kernel
theorem d_Mo_generator_87 : decode prog_14_method_5_code 87 = .ok (.iload_n 2, 1) := by decide +kernel
theorem d_Mo_generator_88 : decode prog_14_method_5_code 88 = .ok (.invokevirtual 90, 3) := by decide +kernel
theorem d_Mo_generator_91 : decode prog_14_method_5_code 91 = .ok (.ifCond .eq 7, 3) := by decide +kernel
theorem d_Mo_generator_94 : decode prog_14_method_5_code 94 = .ok (.iconst 1, 1) := by decide +kernel
theorem d_Mo_generator_95 : decode prog_14_method_5_code 95 = .ok (.goto 4, 3) := by decide +kernel
theorem d_Mo_generator_98 : decode prog_14_method_5_code 98 = .ok (.iconst 0, 1) := by decide +kernel
theorem d_Mo_generator_99 : decode prog_14_method_5_code 99 = .ok (.istore 4, 2) := by decide +kernel
theorem d_Mo_generator_101 : decode prog_14_method_5_code 101 = .ok (.iload_n 1, 1) := by decide +kernel
theorem d_Mo_generator_102 : decode prog_14_method_5_code 102 = .ok (.iconst 1, 1) := by decide +kernel
theorem d_Mo_generator_103 : decode prog_14_method_5_code 103 = .ok (.if_icmp .ne 25, 3) := by decide +kernel
theorem d_Mo_generator_106 : decode prog_14_method_5_code 106 = .ok (.iload 4, 2) := by decide +kernel
theorem d_Mo_generator_108 : decode prog_14_method_5_code 108 = .ok (.ifCond .eq 17, 3) := by decide +kernel
theorem d_Mo_generator_111 : decode prog_14_method_5_code 111 = .ok (.iload_n 3, 1) := by decide +kernel
theorem d_Mo_generator_112 : decode prog_14_method_5_code 112 = .ok (.iconst 0, 1) := by decide +kernel
theorem d_Mo_generator_113 : decode prog_14_method_5_code 113 = .ok (.bipush 9, 2) := by decide +kernel
theorem d_Mo_generator_115 : decode prog_14_method_5_code 115 = .ok (.invokestatic 86, 3) := by decide +kernel
theorem d_Mo_generator_118 : decode prog_14_method_5_code 118 = .ok (.ifCond .eq 7, 3) := by decide +kernel
theorem d_Mo_generator_121 : decode prog_14_method_5_code 121 = .ok (.iconst 1, 1) := by decide +kernel
theorem d_Mo_generator_122 : decode prog_14_method_5_code 122 = .ok (.goto 4, 3) := by decide +kernel
theorem d_Mo_generator_125 : decode prog_14_method_5_code 125 = .ok (.iconst 0, 1) := by decide +kernel
theorem d_Mo_generator_126 : decode prog_14_method_5_code 126 = .ok (.istore 4, 2) := by decide +kernel
theorem d_Mo_generator_128 : decode prog_14_method_5_code 128 = .ok (.iload_n 1, 1) := by decide +kernel
theorem d_Mo_generator_129 : decode prog_14_method_5_code 129 = .ok (.iconst 2, 1) := by decide +kernel
theorem d_Mo_generator_130 : decode prog_14_method_5_code 130 = .ok (.if_icmp .eq 8, 3) := by decide +kernel
theorem d_Mo_generator_133 : decode prog_14_method_5_code 133 = .ok (.iload_n 1, 1) := by decide +kernel
theorem d_Mo_generator_134 : decode prog_14_method_5_code 134 = .ok (.iconst 3, 1) := by decide +kernel
theorem d_Mo_generator_135 : decode prog_14_method_5_code 135 = .ok (.if_icmp .ne 23, 3) := by decide +kernel
theorem d_Mo_generator_138 : decode prog_14_method_5_code 138 = .ok (.iload 4, 2) := by decide +kernel
theorem d_Mo_generator_140 : decode prog_14_method_5_code 140 = .ok (.ifCond .eq 15, 3) := by decide +kernel
theorem d_Mo_generator_143 : decode prog_14_method_5_code 143 = .ok (.aload_n 0, 1) := by decide +kernel
theorem d_Mo_generator_144 : decode prog_14_method_5_code 144 = .ok (.iload_n 3, 1) := by decide +kernel
theorem d_Mo_generator_145 : decode prog_14_method_5_code 145 = .ok (.invokevirtual 90, 3) := by decide +kernel
theorem d_Mo_generator_148 : decode prog_14_method_5_code 148 = .ok (.ifCond .eq 7, 3) := by decide +kernel
theorem d_Mo_generator_151 : decode prog_14_method_5_code 151 = .ok (.iconst 1, 1) := by decide +kernel
theorem d_Mo_generator_152 : decode prog_14_method_5_code 152 = .ok (.goto 4, 3) := by decide +kernel
theorem d_Mo_generator_155 : decode prog_14_method_5_code 155 = .ok (.iconst 0, 1) := by decide +kernel
theorem d_Mo_generator_156 : decode prog_14_method_5_code 156 = .ok (.istore 4, 2) := by decide +kernel
theorem d_Mo_generator_158 : decode prog_14_method_5_code 158 = .ok (.iload_n 1, 1) := by decide +kernel
theorem d_Mo_generator_159 : decode prog_14_method_5_code 159 = .ok (.iconst 4, 1) := by decide +kernel
theorem d_Mo_generator_160 : decode prog_14_method_5_code 160 = .ok (.if_icmp .ne 24, 3) := by decide +kernel
theorem d_Mo_generator_163 : decode prog_14_method_5_code 163 = .ok (.iload 4, 2) := by decide +kernel
theorem d_Mo_generator_165 : decode prog_14_method_5_code 165 = .ok (.ifCond .eq 16, 3) := by decide +kernel
theorem d_Mo_generator_168 : decode prog_14_method_5_code 168 = .ok (.iload_n 3, 1) := by decide +kernel
theorem d_Mo_generator_169 : decode prog_14_method_5_code 169 = .ok (.iconst 0, 1) := by decide +kernel
theorem d_Mo_generator_170 : decode prog_14_method_5_code 170 = .ok (.iconst 1, 1) := by decide +kernel
theorem d_Mo_generator_171 : decode prog_14_method_5_code 171 = .ok (.invokestatic 86, 3) := by decide +kernel
theorem d_Mo_generator_174 : decode prog_14_method_5_code 174 = .ok (.ifCond .eq 7, 3) := by decide +kernel
theorem d_Mo_generator_177 : decode prog_14_method_5_code 177 = .ok (.iconst 1, 1) := by decide +kernel
theorem d_Mo_generator_178 : decode prog_14_method_5_code 178 = .ok (.goto 4, 3) := by decide +kernel
theorem d_Mo_generator_181 : decode prog_14_method_5_code 181 = .ok (.iconst 0, 1) := by decide +kernel
theorem d_Mo_generator_182 : decode prog_14_method_5_code 182 = .ok (.istore 4, 2) := by decide +kernel
theorem d_Mo_generator_184 : decode prog_14_method_5_code 184 = .ok (.iload_n 1, 1) := by decide +kernel
theorem d_Mo_generator_185 : decode prog_14_method_5_code 185 = .ok (.iconst 5, 1) := by decide +kernel
theorem d_Mo_generator_186 : decode prog_14_method_5_code 186 = .ok (.if_icmp .ne 28, 3) := by decide +kernel
theorem d_Mo_generator_189 : decode prog_14_method_5_code 189 = .ok (.iload 4, 2) := by decide +kernel
theorem d_Mo_generator_191 : decode prog_14_method_5_code 191 = .ok (.ifCond .eq 20, 3) := by decide +kernel
theorem d_Mo_generator_194 : decode prog_14_method_5_code 194 = .ok (.iload_n 3, 1) := by decide +kernel
theorem d_Mo_generator_195 : decode prog_14_method_5_code 195 = .ok (.sipush (-1000), 3) := by decide +kernel
theorem d_Mo_generator_198 : decode prog_14_method_5_code 198 = .ok (.sipush 1000, 3) := by decide +kernel
theorem d_Mo_generator_201 : decode prog_14_method_5_code 201 = .ok (.invokestatic 86, 3) := by decide +kernel
theorem d_Mo_generator_204 : decode prog_14_method_5_code 204 = .ok (.ifCond .eq 7, 3) := by decide +kernel
theorem d_Mo_generator_207 : decode prog_14_method_5_code 207 = .ok (.iconst 1, 1) := by decide +kernel
theorem d_Mo_generator_208 : decode prog_14_method_5_code 208 = .ok (.goto 4, 3) := by decide +kernel
theorem d_Mo_generator_211 : decode prog_14_method_5_code 211 = .ok (.iconst 0, 1) := by decide +kernel
theorem d_Mo_generator_212 : decode prog_14_method_5_code 212 = .ok (.istore 4, 2) := by decide +kernel
theorem d_Mo_generator_214 : decode prog_14_method_5_code 214 = .ok (.iload 4, 2) := by decide +kernel
theorem d_Mo_generator_216 : decode prog_14_method_5_code 216 = .ok (.ifCond .ne 5, 3) := by decide +kernel
theorem d_Mo_generator_219 : decode prog_14_method_5_code 219 = .ok (.iconst (-1), 1) := by decide +kernel
theorem d_Mo_generator_220 : decode prog_14_method_5_code 220 = .ok (.ireturn, 1) := by decide +kernel
theorem d_Mo_generator_221 : decode prog_14_method_5_code 221 = .ok (.iload_n 1, 1) := by decide +kernel
theorem d_Mo_generator_222 : decode prog_14_method_5_code 222 = .ok (.ifCond .ne 7, 3) := by decide +kernel
theorem d_Mo_generator_225 : decode prog_14_method_5_code 225 = .ok (.iconst 0, 1) := by decide +kernel
theorem d_Mo_generator_226 : decode prog_14_method_5_code 226 = .ok (.goto 9, 3) := by decide +kernel
theorem d_Mo_generator_229 : decode prog_14_method_5_code 229 = .ok (.aload_n 0, 1) := by decide +kernel
theorem d_Mo_generator_230 : decode prog_14_method_5_code 230 = .ok (.getfield 19, 3) := by decide +kernel
theorem d_Mo_generator_233 : decode prog_14_method_5_code 233 = .ok (.iload_n 2, 1) := by decide +kernel
theorem d_Mo_generator_234 : decode prog_14_method_5_code 234 = .ok (.iaload, 1) := by decide +kernel
theorem d_Mo_generator_235 : decode prog_14_method_5_code 235 = .ok (.istore 5, 2) := by decide +kernel
theorem d_Mo_generator_237 : decode prog_14_method_5_code 237 = .ok (.iload_n 1, 1) := by decide +kernel
theorem d_Mo_generator_238 : decode prog_14_method_5_code 238 = .ok (.iconst 2, 1) := by decide +kernel
theorem d_Mo_generator_239 : decode prog_14_method_5_code 239 = .ok (.if_icmp .eq 8, 3) := by decide +kernel
theorem d_Mo_generator_242 : decode prog_14_method_5_code 242 = .ok (.iload_n 1, 1) := by decide +kernel
theorem d_Mo_generator_243 : decode prog_14_method_5_code 243 = .ok (.iconst 3, 1) := by decide +kernel
theorem d_Mo_generator_244 : decode prog_14_method_5_code 244 = .ok (.if_icmp .ne 23, 3) := by decide +kernel
theorem d_Mo_generator_247 : decode prog_14_method_5_code 247 = .ok (.aload_n 0, 1) := by decide +kernel
theorem d_Mo_generator_248 : decode prog_14_method_5_code 248 = .ok (.getfield 19, 3) := by decide +kernel
theorem d_Mo_generator_251 : decode prog_14_method_5_code 251 = .ok (.iload_n 3, 1) := by decide +kernel
theorem d_Mo_generator_252 : decode prog_14_method_5_code 252 = .ok (.iaload, 1) := by decide +kernel
theorem d_Mo_generator_253 : decode prog_14_method_5_code 253 = .ok (.iload 5, 2) := by decide +kernel
theorem d_Mo_generator_255 : decode prog_14_method_5_code 255 = .ok (.if_icmp .le 12, 3) := by decide +kernel
theorem d_Mo_generator_258 : decode prog_14_method_5_code 258 = .ok (.aload_n 0, 1) := by decide +kernel
theorem d_Mo_generator_259 : decode prog_14_method_5_code 259 = .ok (.getfield 19, 3) := by decide +kernel
theorem d_Mo_generator_262 : decode prog_14_method_5_code 262 = .ok (.iload_n 3, 1) := by decide +kernel
theorem d_Mo_generator_263 : decode prog_14_method_5_code 263 = .ok (.iaload, 1) := by decide +kernel
theorem d_Mo_generator_264 : decode prog_14_method_5_code 264 = .ok (.goto 5, 3) := by decide +kernel
theorem d_Mo_generator_267 : decode prog_14_method_5_code 267 = .ok (.iload 5, 2) := by decide +kernel
theorem d_Mo_generator_269 : decode prog_14_method_5_code 269 = .ok (.istore 5, 2) := by decide +kernel
theorem d_Mo_generator_271 : decode prog_14_method_5_code 271 = .ok (.iload 5, 2) := by decide +kernel
theorem d_Mo_generator_273 : decode prog_14_method_5_code 273 = .ok (.bipush 8, 2) := by decide +kernel
theorem d_Mo_generator_275 : decode prog_14_method_5_code 275 = .ok (.if_icmp .ne 5, 3) := by decide +kernel
theorem d_Mo_generator_278 : decode prog_14_method_5_code 278 = .ok (.iconst (-1), 1) := by decide +kernel
theorem d_Mo_generator_279 : decode prog_14_method_5_code 279 = .ok (.ireturn, 1) := by decide +kernel
theorem d_Mo_generator_280 : decode prog_14_method_5_code 280 = .ok (.aload_n 0, 1) := by decide +kernel
theorem d_Mo_generator_281 : decode prog_14_method_5_code 281 = .ok (.getfield 7, 3) := by decide +kernel
theorem d_Mo_generator_284 : decode prog_14_method_5_code 284 = .ok (.aload_n 0, 1) := by decide +kernel
theorem d_Mo_generator_285 : decode prog_14_method_5_code 285 = .ok (.getfield 83, 3) := by decide +kernel
theorem d_Mo_generator_288 : decode prog_14_method_5_code 288 = .ok (.iload_n 1, 1) := by decide +kernel
theorem d_Mo_generator_289 : decode prog_14_method_5_code 289 = .ok (.iastore, 1) := by decide +kernel
theorem d_Mo_generator_290 : decode prog_14_method_5_code 290 = .ok (.aload_n 0, 1) := by decide +kernel
theorem d_Mo_generator_291 : decode prog_14_method_5_code 291 = .ok (.getfield 13, 3) := by decide +kernel
theorem d_Mo_generator_294 : decode prog_14_method_5_code 294 = .ok (.aload_n 0, 1) := by decide +kernel
theorem d_Mo_generator_295 : decode prog_14_method_5_code 295 = .ok (.getfield 83, 3) := by decide +kernel
theorem d_Mo_generator_298 : decode prog_14_method_5_code 298 = .ok (.iload_n 2, 1) := by decide +kernel
theorem d_Mo_generator_299 : decode prog_14_method_5_code 299 = .ok (.iastore, 1) := by decide +kernel
theorem d_Mo_generator_300 : decode prog_14_method_5_code 300 = .ok (.aload_n 0, 1) := by decide +kernel
theorem d_Mo_generator_301 : decode prog_14_method_5_code 301 = .ok (.getfield 16, 3) := by decide +kernel
theorem d_Mo_generator_304 : decode prog_14_method_5_code 304 = .ok (.aload_n 0, 1) := by decide +kernel
theorem d_Mo_generator_305 : decode prog_14_method_5_code 305 = .ok (.getfield 83, 3) := by decide +kernel
theorem d_Mo_generator_308 : decode prog_14_method_5_code 308 = .ok (.iload_n 3, 1) := by decide +kernel
theorem d_Mo_generator_309 : decode prog_14_method_5_code 309 = .ok (.iastore, 1) := by decide +kernel
theorem d_Mo_generator_310 : decode prog_14_method_5_code 310 = .ok (.aload_n 0, 1) := by decide +kernel
theorem d_Mo_generator_311 : decode prog_14_method_5_code 311 = .ok (.getfield 19, 3) := by decide +kernel
theorem d_Mo_generator_314 : decode prog_14_method_5_code 314 = .ok (.aload_n 0, 1) := by decide +kernel
theorem d_Mo_generator_315 : decode prog_14_method_5_code 315 = .ok (.getfield 83, 3) := by decide +kernel
theorem d_Mo_generator_318 : decode prog_14_method_5_code 318 = .ok (.iload 5, 2) := by decide +kernel
theorem d_Mo_generator_320 : decode prog_14_method_5_code 320 = .ok (.iconst 1, 1) := by decide +kernel
theorem d_Mo_generator_321 : decode prog_14_method_5_code 321 = .ok (.iadd, 1) := by decide +kernel
theorem d_Mo_generator_322 : decode prog_14_method_5_code 322 = .ok (.iastore, 1) := by decide +kernel
theorem d_Mo_generator_323 : decode prog_14_method_5_code 323 = .ok (.aload_n 0, 1) := by decide +kernel
theorem d_Mo_generator_324 : decode prog_14_method_5_code 324 = .ok (.dup, 1) := by decide +kernel
theorem d_Mo_generator_325 : decode prog_14_method_5_code 325 = .ok (.getfield 83, 3) := by decide +kernel
theorem d_Mo_generator_328 : decode prog_14_method_5_code 328 = .ok (.iconst 1, 1) := by decide +kernel
theorem d_Mo_generator_329 : decode prog_14_method_5_code 329 = .ok (.iadd, 1) := by decide +kernel
theorem d_Mo_generator_330 : decode prog_14_method_5_code 330 = .ok (.putfield 83, 3) := by decide +kernel
theorem d_Mo_generator_333 : decode prog_14_method_5_code 333 = .ok (.aload_n 0, 1) := by decide +kernel
theorem d_Mo_generator_334 : decode prog_14_method_5_code 334 = .ok (.getfield 83, 3) := by decide +kernel
theorem d_Mo_generator_337 : decode prog_14_method_5_code 337 = .ok (.iconst 1, 1) := by decide +kernel
theorem d_Mo_generator_338 : decode prog_14_method_5_code 338 = .ok (.isub, 1) := by decide +kernel
theorem d_Mo_generator_339 : decode prog_14_method_5_code 339 = .ok (.ireturn, 1) := by decide +kernel
theorem d_Mo_isWithin_0 : decode prog_14_method_4_code 0 = .ok (.iload_n 0, 1) := by decide +kernel
theorem d_Mo_isWithin_1 : decode prog_14_method_4_code 1 = .ok (.iload_n 1, 1) := by decide +kernel
theorem d_Mo_isWithin_2 : decode prog_14_method_4_code 2 = .ok (.if_icmp .lt 12, 3) := by decide +kernel
theorem d_Mo_isWithin_5 : decode prog_14_method_4_code 5 = .ok (.iload_n 0, 1) := by decide +kernel
theorem d_Mo_isWithin_6 : decode prog_14_method_4_code 6 = .ok (.iload_n 2, 1) := by decide +kernel
theorem d_Mo_isWithin_7 : decode prog_14_method_4_code 7 = .ok (.if_icmp .gt 7, 3) := by decide +kernel
theorem d_Mo_isWithin_10 : decode prog_14_method_4_code 10 = .ok (.iconst 1, 1) := by decide +kernel
theorem d_Mo_isWithin_11 : decode prog_14_method_4_code 11 = .ok (.goto 4, 3) := by decide +kernel
theorem d_Mo_isWithin_14 : decode prog_14_method_4_code 14 = .ok (.iconst 0, 1) := by decide +kernel
theorem d_Mo_isWithin_15 : decode prog_14_method_4_code 15 = .ok (.ireturn, 1) := by decide +kernel
theorem d_Mo_isGenerator_0 : decode prog_14_method_3_code 0 = .ok (.iload_n 1, 1) := by decide +kernel
theorem d_Mo_isGenerator_1 : decode prog_14_method_3_code 1 = .ok (.ifCond .lt 15, 3) := by decide +kernel
theorem d_Mo_isGenerator_4 : decode prog_14_method_3_code 4 = .ok (.iload_n 1, 1) := by decide +kernel
theorem d_Mo_isGenerator_5 : decode prog_14_method_3_code 5 = .ok (.aload_n 0, 1) := by decide +kernel
theorem d_Mo_isGenerator_6 : decode prog_14_method_3_code 6 = .ok (.getfield 83, 3) := by decide +kernel
theorem d_Mo_isGenerator_9 : decode prog_14_method_3_code 9 = .ok (.if_icmp .ge 7, 3) := by decide +kernel
theorem d_Mo_isGenerator_12 : decode prog_14_method_3_code 12 = .ok (.iconst 1, 1) := by decide +kernel
theorem d_Mo_isGenerator_13 : decode prog_14_method_3_code 13 = .ok (.goto 4, 3) := by decide +kernel
theorem d_Mo_isGenerator_16 : decode prog_14_method_3_code 16 = .ok (.iconst 0, 1) := by decide +kernel
theorem d_Mo_isGenerator_17 : decode prog_14_method_3_code 17 = .ok (.ireturn, 1) := by decide +kernel
theorem d_Mo_property_0 : decode prog_14_method_6_code 0 = .ok (.aload_n 0, 1) := by decide +kernel
theorem d_Mo_property_1 : decode prog_14_method_6_code 1 = .ok (.iconst 0, 1) := by decide +kernel
theorem d_Mo_property_2 : decode prog_14_method_6_code 2 = .ok (.putfield 80, 3) := by decide +kernel
theorem d_Mo_property_5 : decode prog_14_method_6_code 5 = .ok (.aload_n 0, 1) := by decide +kernel
theorem d_Mo_property_6 : decode prog_14_method_6_code 6 = .ok (.getfield 94, 3) := by decide +kernel
theorem d_Mo_property_9 : decode prog_14_method_6_code 9 = .ok (.bipush 10, 2) := by decide +kernel
theorem d_Mo_property_11 : decode prog_14_method_6_code 11 = .ok (.if_icmp .eq 22, 3) := by decide +kernel
theorem d_Mo_property_14 : decode prog_14_method_6_code 14 = .ok (.iload_n 1, 1) := by decide +kernel
theorem d_Mo_property_15 : decode prog_14_method_6_code 15 = .ok (.ifCond .lt 18, 3) := by decide +kernel
theorem d_Mo_property_18 : decode prog_14_method_6_code 18 = .ok (.iload_n 1, 1) := by decide +kernel
theorem d_Mo_property_19 : decode prog_14_method_6_code 19 = .ok (.iconst 4, 1) := by decide +kernel
theorem d_Mo_property_20 : decode prog_14_method_6_code 20 = .ok (.if_icmp .gt 13, 3) := by decide +kernel
theorem d_Mo_property_23 : decode prog_14_method_6_code 23 = .ok (.iload_n 3, 1) := by decide +kernel
theorem d_Mo_property_24 : decode prog_14_method_6_code 24 = .ok (.ifCond .lt 9, 3) := by decide +kernel
theorem d_Mo_property_27 : decode prog_14_method_6_code 27 = .ok (.iload_n 3, 1) := by decide +kernel
theorem d_Mo_property_28 : decode prog_14_method_6_code 28 = .ok (.bipush 10, 2) := by decide +kernel
theorem d_Mo_property_30 : decode prog_14_method_6_code 30 = .ok (.if_icmp .le 5, 3) := by decide +kernel
theorem d_Mo_property_33 : decode prog_14_method_6_code 33 = .ok (.iconst (-1), 1) := by decide +kernel
theorem d_Mo_property_34 : decode prog_14_method_6_code 34 = .ok (.ireturn, 1) := by decide +kernel
theorem d_Mo_property_35 : decode prog_14_method_6_code 35 = .ok (.aload_n 0, 1) := by decide +kernel
theorem d_Mo_property_36 : decode prog_14_method_6_code 36 = .ok (.getfield 22, 3) := by decide +kernel
theorem d_Mo_property_39 : decode prog_14_method_6_code 39 = .ok (.aload_n 0, 1) := by decide +kernel
theorem d_Mo_property_40 : decode prog_14_method_6_code 40 = .ok (.getfield 94, 3) := by decide +kernel
theorem d_Mo_property_43 : decode prog_14_method_6_code 43 = .ok (.iload_n 1, 1) := by decide +kernel
theorem d_Mo_property_44 : decode prog_14_method_6_code 44 = .ok (.iastore, 1) := by decide +kernel
theorem d_Mo_property_45 : decode prog_14_method_6_code 45 = .ok (.aload_n 0, 1) := by decide +kernel
theorem d_Mo_property_46 : decode prog_14_method_6_code 46 = .ok (.getfield 25, 3) := by decide +kernel
theorem d_Mo_property_49 : decode prog_14_method_6_code 49 = .ok (.aload_n 0, 1) := by decide +kernel
theorem d_Mo_property_50 : decode prog_14_method_6_code 50 = .ok (.getfield 94, 3) := by decide +kernel
theorem d_Mo_property_53 : decode prog_14_method_6_code 53 = .ok (.iload_n 2, 1) := by decide +kernel
theorem d_Mo_property_54 : decode prog_14_method_6_code 54 = .ok (.iastore, 1) := by decide +kernel
theorem d_Mo_property_55 : decode prog_14_method_6_code 55 = .ok (.aload_n 0, 1) := by decide +kernel
theorem d_Mo_property_56 : decode prog_14_method_6_code 56 = .ok (.getfield 28, 3) := by decide +kernel
theorem d_Mo_property_59 : decode prog_14_method_6_code 59 = .ok (.aload_n 0, 1) := by decide +kernel
theorem d_Mo_property_60 : decode prog_14_method_6_code 60 = .ok (.getfield 94, 3) := by decide +kernel
theorem d_Mo_property_63 : decode prog_14_method_6_code 63 = .ok (.iload_n 3, 1) := by decide +kernel
theorem d_Mo_property_64 : decode prog_14_method_6_code 64 = .ok (.iastore, 1) := by decide +kernel
theorem d_Mo_property_65 : decode prog_14_method_6_code 65 = .ok (.aload_n 0, 1) := by decide +kernel
theorem d_Mo_property_66 : decode prog_14_method_6_code 66 = .ok (.dup, 1) := by decide +kernel
theorem d_Mo_property_67 : decode prog_14_method_6_code 67 = .ok (.getfield 94, 3) := by decide +kernel
theorem d_Mo_property_70 : decode prog_14_method_6_code 70 = .ok (.iconst 1, 1) := by decide +kernel
theorem d_Mo_property_71 : decode prog_14_method_6_code 71 = .ok (.iadd, 1) := by decide +kernel
theorem d_Mo_property_72 : decode prog_14_method_6_code 72 = .ok (.putfield 94, 3) := by decide +kernel
theorem d_Mo_property_75 : decode prog_14_method_6_code 75 = .ok (.aload_n 0, 1) := by decide +kernel
theorem d_Mo_property_76 : decode prog_14_method_6_code 76 = .ok (.getfield 94, 3) := by decide +kernel
theorem d_Mo_property_79 : decode prog_14_method_6_code 79 = .ok (.iconst 1, 1) := by decide +kernel
theorem d_Mo_property_80 : decode prog_14_method_6_code 80 = .ok (.isub, 1) := by decide +kernel
theorem d_Mo_property_81 : decode prog_14_method_6_code 81 = .ok (.ireturn, 1) := by decide +kernel
theorem d_Mo_check_0 : decode prog_14_method_18_code 0 = .ok (.aload_n 0, 1) := by decide +kernel
theorem d_Mo_check_1 : decode prog_14_method_18_code 1 = .ok (.iconst 0, 1) := by decide +kernel
theorem d_Mo_check_2 : decode prog_14_method_18_code 2 = .ok (.putfield 80, 3) := by decide +kernel
theorem d_Mo_check_5 : decode prog_14_method_18_code 5 = .ok (.aload_n 0, 1) := by decide +kernel
theorem d_Mo_check_6 : decode prog_14_method_18_code 6 = .ok (.iload_n 1, 1) := by decide +kernel
theorem d_Mo_check_7 : decode prog_14_method_18_code 7 = .ok (.invokevirtual 90, 3) := by decide +kernel
theorem d_Mo_check_10 : decode prog_14_method_18_code 10 = .ok (.ifCond .eq 28, 3) := by decide +kernel
theorem d_Mo_check_13 : decode prog_14_method_18_code 13 = .ok (.iload_n 2, 1) := by decide +kernel
theorem d_Mo_check_14 : decode prog_14_method_18_code 14 = .ok (.ifCond .lt 24, 3) := by decide +kernel
theorem d_Mo_check_17 : decode prog_14_method_18_code 17 = .ok (.iload_n 2, 1) := by decide +kernel
theorem d_Mo_check_18 : decode prog_14_method_18_code 18 = .ok (.aload_n 0, 1) := by decide +kernel
theorem d_Mo_check_19 : decode prog_14_method_18_code 19 = .ok (.getfield 94, 3) := by decide +kernel
theorem d_Mo_check_22 : decode prog_14_method_18_code 22 = .ok (.if_icmp .ge 16, 3) := by decide +kernel
theorem d_Mo_check_25 : decode prog_14_method_18_code 25 = .ok (.iload 5, 2) := by decide +kernel
theorem d_Mo_check_27 : decode prog_14_method_18_code 27 = .ok (.iconst 1, 1) := by decide +kernel
theorem d_Mo_check_28 : decode prog_14_method_18_code 28 = .ok (.if_icmp .lt 10, 3) := by decide +kernel
theorem d_Mo_check_31 : decode prog_14_method_18_code 31 = .ok (.iload 5, 2) := by decide +kernel
theorem d_Mo_check_33 : decode prog_14_method_18_code 33 = .ok (.bipush 60, 2) := by decide +kernel
theorem d_Mo_check_35 : decode prog_14_method_18_code 35 = .ok (.if_icmp .le 6, 3) := by decide +kernel
theorem d_Mo_check_38 : decode prog_14_method_18_code 38 = .ok (.bipush (-3), 2) := by decide +kernel
theorem d_Mo_check_40 : decode prog_14_method_18_code 40 = .ok (.ireturn, 1) := by decide +kernel
theorem d_Mo_check_41 : decode prog_14_method_18_code 41 = .ok (.aload_n 0, 1) := by decide +kernel
theorem d_Mo_check_42 : decode prog_14_method_18_code 42 = .ok (.iconst 0, 1) := by decide +kernel
theorem d_Mo_check_43 : decode prog_14_method_18_code 43 = .ok (.putfield 174, 3) := by decide +kernel
theorem d_Mo_check_46 : decode prog_14_method_18_code 46 = .ok (.aload_n 0, 1) := by decide +kernel
theorem d_Mo_check_47 : decode prog_14_method_18_code 47 = .ok (.iload_n 1, 1) := by decide +kernel
theorem d_Mo_check_48 : decode prog_14_method_18_code 48 = .ok (.iload_n 2, 1) := by decide +kernel
theorem d_Mo_check_49 : decode prog_14_method_18_code 49 = .ok (.invokevirtual 177, 3) := by decide +kernel
theorem d_Mo_check_52 : decode prog_14_method_18_code 52 = .ok (.ifCond .eq 10, 3) := by decide +kernel
theorem d_Mo_check_55 : decode prog_14_method_18_code 55 = .ok (.aload_n 0, 1) := by decide +kernel
theorem d_Mo_check_56 : decode prog_14_method_18_code 56 = .ok (.iconst 0, 1) := by decide +kernel
theorem d_Mo_check_57 : decode prog_14_method_18_code 57 = .ok (.putfield 181, 3) := by decide +kernel
theorem d_Mo_check_60 : decode prog_14_method_18_code 60 = .ok (.iconst (-1), 1) := by decide +kernel
theorem d_Mo_check_61 : decode prog_14_method_18_code 61 = .ok (.ireturn, 1) := by decide +kernel
theorem d_Mo_check_62 : decode prog_14_method_18_code 62 = .ok (.aload_n 0, 1) := by decide +kernel
theorem d_Mo_check_63 : decode prog_14_method_18_code 63 = .ok (.lload_n 3, 1) := by decide +kernel
theorem d_Mo_check_64 : decode prog_14_method_18_code 64 = .ok (.putfield 100, 3) := by decide +kernel
theorem d_Mo_check_67 : decode prog_14_method_18_code 67 = .ok (.aload_n 0, 1) := by decide +kernel
theorem d_Mo_check_68 : decode prog_14_method_18_code 68 = .ok (.iconst 0, 1) := by decide +kernel
theorem d_Mo_check_69 : decode prog_14_method_18_code 69 = .ok (.putfield 118, 3) := by decide +kernel
theorem d_Mo_check_72 : decode prog_14_method_18_code 72 = .ok (.iconst 0, 1) := by decide +kernel
theorem d_Mo_check_73 : decode prog_14_method_18_code 73 = .ok (.istore 6, 2) := by decide +kernel
theorem d_Mo_check_75 : decode prog_14_method_18_code 75 = .ok (.iload 6, 2) := by decide +kernel
theorem d_Mo_check_77 : decode prog_14_method_18_code 77 = .ok (.iload 5, 2) := by decide +kernel
theorem d_Mo_check_79 : decode prog_14_method_18_code 79 = .ok (.if_icmp .ge 102, 3) := by decide +kernel
theorem d_Mo_check_82 : decode prog_14_method_18_code 82 = .ok (.aload_n 0, 1) := by decide +kernel
theorem d_Mo_check_83 : decode prog_14_method_18_code 83 = .ok (.iload_n 1, 1) := by decide +kernel
theorem d_Mo_check_84 : decode prog_14_method_18_code 84 = .ok (.iconst 1, 1) := by decide +kernel
theorem d_Mo_check_85 : decode prog_14_method_18_code 85 = .ok (.invokevirtual 161, 3) := by decide +kernel
theorem d_Mo_check_88 : decode prog_14_method_18_code 88 = .ok (.aload_n 0, 1) := by decide +kernel
theorem d_Mo_check_89 : decode prog_14_method_18_code 89 = .ok (.dup, 1) := by decide +kernel
theorem d_Mo_check_90 : decode prog_14_method_18_code 90 = .ok (.getfield 118, 3) := by decide +kernel
theorem d_Mo_check_93 : decode prog_14_method_18_code 93 = .ok (.iconst 1, 1) := by decide +kernel
theorem d_Mo_check_94 : decode prog_14_method_18_code 94 = .ok (.iadd, 1) := by decide +kernel
theorem d_Mo_check_95 : decode prog_14_method_18_code 95 = .ok (.putfield 118, 3) := by decide +kernel
theorem d_Mo_check_98 : decode prog_14_method_18_code 98 = .ok (.aload_n 0, 1) := by decide +kernel
theorem d_Mo_check_99 : decode prog_14_method_18_code 99 = .ok (.iload_n 2, 1) := by decide +kernel
theorem d_Mo_check_100 : decode prog_14_method_18_code 100 = .ok (.invokevirtual 164, 3) := by decide +kernel
theorem d_Mo_check_103 : decode prog_14_method_18_code 103 = .ok (.istore 7, 2) := by decide +kernel
theorem d_Mo_check_105 : decode prog_14_method_18_code 105 = .ok (.iload 7, 2) := by decide +kernel
theorem d_Mo_check_107 : decode prog_14_method_18_code 107 = .ok (.invokestatic 168, 3) := by decide +kernel
theorem d_Mo_check_110 : decode prog_14_method_18_code 110 = .ok (.ifCond .eq 22, 3) := by decide +kernel
theorem d_Mo_check_113 : decode prog_14_method_18_code 113 = .ok (.aload_n 0, 1) := by decide +kernel
theorem d_Mo_check_114 : decode prog_14_method_18_code 114 = .ok (.iload_n 1, 1) := by decide +kernel
theorem d_Mo_check_115 : decode prog_14_method_18_code 115 = .ok (.iload_n 2, 1) := by decide +kernel
theorem d_Mo_check_116 : decode prog_14_method_18_code 116 = .ok (.iload 7, 2) := by decide +kernel
theorem d_Mo_check_118 : decode prog_14_method_18_code 118 = .ok (.invokevirtual 171, 3) := by decide +kernel
theorem d_Mo_check_121 : decode prog_14_method_18_code 121 = .ok (.aload_n 0, 1) := by decide +kernel
theorem d_Mo_check_122 : decode prog_14_method_18_code 122 = .ok (.invokevirtual 184, 3) := by decide +kernel
theorem d_Mo_check_125 : decode prog_14_method_18_code 125 = .ok (.aload_n 0, 1) := by decide +kernel
theorem d_Mo_check_126 : decode prog_14_method_18_code 126 = .ok (.iconst 0, 1) := by decide +kernel
theorem d_Mo_check_127 : decode prog_14_method_18_code 127 = .ok (.putfield 181, 3) := by decide +kernel
theorem d_Mo_check_130 : decode prog_14_method_18_code 130 = .ok (.iconst (-1), 1) := by decide +kernel
theorem d_Mo_check_131 : decode prog_14_method_18_code 131 = .ok (.ireturn, 1) := by decide +kernel
theorem d_Mo_check_132 : decode prog_14_method_18_code 132 = .ok (.iload 6, 2) := by decide +kernel
theorem d_Mo_check_134 : decode prog_14_method_18_code 134 = .ok (.iload 7, 2) := by decide +kernel
theorem d_Mo_check_136 : decode prog_14_method_18_code 136 = .ok (.ifCond .ne 7, 3) := by decide +kernel
theorem d_Mo_check_139 : decode prog_14_method_18_code 139 = .ok (.iconst 1, 1) := by decide +kernel
theorem d_Mo_check_140 : decode prog_14_method_18_code 140 = .ok (.goto 4, 3) := by decide +kernel
theorem d_Mo_check_143 : decode prog_14_method_18_code 143 = .ok (.iconst 0, 1) := by decide +kernel
theorem d_Mo_check_144 : decode prog_14_method_18_code 144 = .ok (.iadd, 1) := by decide +kernel
theorem d_Mo_check_145 : decode prog_14_method_18_code 145 = .ok (.istore 6, 2) := by decide +kernel
theorem d_Mo_check_147 : decode prog_14_method_18_code 147 = .ok (.aload_n 0, 1) := by decide +kernel
theorem d_Mo_check_148 : decode prog_14_method_18_code 148 = .ok (.dup, 1) := by decide +kernel
theorem d_Mo_check_149 : decode prog_14_method_18_code 149 = .ok (.getfield 174, 3) := by decide +kernel
theorem d_Mo_check_152 : decode prog_14_method_18_code 152 = .ok (.iload 7, 2) := by decide +kernel
theorem d_Mo_check_154 : decode prog_14_method_18_code 154 = .ok (.ifCond .ne 7, 3) := by decide +kernel
theorem d_Mo_check_157 : decode prog_14_method_18_code 157 = .ok (.iconst 0, 1) := by decide +kernel
theorem d_Mo_check_158 : decode prog_14_method_18_code 158 = .ok (.goto 4, 3) := by decide +kernel
theorem d_Mo_check_161 : decode prog_14_method_18_code 161 = .ok (.iconst 1, 1) := by decide +kernel
theorem d_Mo_check_162 : decode prog_14_method_18_code 162 = .ok (.iadd, 1) := by decide +kernel
theorem d_Mo_check_163 : decode prog_14_method_18_code 163 = .ok (.putfield 174, 3) := by decide +kernel
theorem d_Mo_check_166 : decode prog_14_method_18_code 166 = .ok (.aload_n 0, 1) := by decide +kernel
theorem d_Mo_check_167 : decode prog_14_method_18_code 167 = .ok (.getfield 174, 3) := by decide +kernel
theorem d_Mo_check_170 : decode prog_14_method_18_code 170 = .ok (.iload 5, 2) := by decide +kernel
theorem d_Mo_check_172 : decode prog_14_method_18_code 172 = .ok (.if_icmp .le 6, 3) := by decide +kernel
theorem d_Mo_check_175 : decode prog_14_method_18_code 175 = .ok (.bipush (-2), 2) := by decide +kernel
theorem d_Mo_check_177 : decode prog_14_method_18_code 177 = .ok (.ireturn, 1) := by decide +kernel
theorem d_Mo_check_178 : decode prog_14_method_18_code 178 = .ok (.goto (-103), 3) := by decide +kernel
theorem d_Mo_check_181 : decode prog_14_method_18_code 181 = .ok (.iload 5, 2) := by decide +kernel
theorem d_Mo_check_183 : decode prog_14_method_18_code 183 = .ok (.ireturn, 1) := by decide +kernel
theorem d_Mo_findKept_0 : decode prog_14_method_16_code 0 = .ok (.aload_n 0, 1) := by decide +kernel
theorem d_Mo_findKept_1 : decode prog_14_method_16_code 1 = .ok (.getfield 158, 3) := by decide +kernel
theorem d_Mo_findKept_4 : decode prog_14_method_16_code 4 = .ok (.iconst 1, 1) := by decide +kernel
theorem d_Mo_findKept_5 : decode prog_14_method_16_code 5 = .ok (.isub, 1) := by decide +kernel
theorem d_Mo_findKept_6 : decode prog_14_method_16_code 6 = .ok (.istore_n 3, 1) := by decide +kernel
theorem d_Mo_findKept_7 : decode prog_14_method_16_code 7 = .ok (.iload_n 3, 1) := by decide +kernel
theorem d_Mo_findKept_8 : decode prog_14_method_16_code 8 = .ok (.ifCond .lt 113, 3) := by decide +kernel
theorem d_Mo_findKept_11 : decode prog_14_method_16_code 11 = .ok (.aload_n 0, 1) := by decide +kernel
theorem d_Mo_findKept_12 : decode prog_14_method_16_code 12 = .ok (.getfield 62, 3) := by decide +kernel
theorem d_Mo_findKept_15 : decode prog_14_method_16_code 15 = .ok (.iload_n 3, 1) := by decide +kernel
theorem d_Mo_findKept_16 : decode prog_14_method_16_code 16 = .ok (.iaload, 1) := by decide +kernel
theorem d_Mo_findKept_17 : decode prog_14_method_16_code 17 = .ok (.iload_n 1, 1) := by decide +kernel
theorem d_Mo_findKept_18 : decode prog_14_method_16_code 18 = .ok (.if_icmp .ne 97, 3) := by decide +kernel
theorem d_Mo_findKept_21 : decode prog_14_method_16_code 21 = .ok (.aload_n 0, 1) := by decide +kernel
theorem d_Mo_findKept_22 : decode prog_14_method_16_code 22 = .ok (.getfield 65, 3) := by decide +kernel
theorem d_Mo_findKept_25 : decode prog_14_method_16_code 25 = .ok (.iload_n 3, 1) := by decide +kernel
theorem d_Mo_findKept_26 : decode prog_14_method_16_code 26 = .ok (.iaload, 1) := by decide +kernel
theorem d_Mo_findKept_27 : decode prog_14_method_16_code 27 = .ok (.iload_n 2, 1) := by decide +kernel
theorem d_Mo_findKept_28 : decode prog_14_method_16_code 28 = .ok (.if_icmp .eq 6, 3) := by decide +kernel
theorem d_Mo_findKept_31 : decode prog_14_method_16_code 31 = .ok (.goto 84, 3) := by decide +kernel
theorem d_Mo_findKept_34 : decode prog_14_method_16_code 34 = .ok (.aload_n 0, 1) := by decide +kernel
theorem d_Mo_findKept_35 : decode prog_14_method_16_code 35 = .ok (.aload_n 0, 1) := by decide +kernel
theorem d_Mo_findKept_36 : decode prog_14_method_16_code 36 = .ok (.getfield 68, 3) := by decide +kernel
theorem d_Mo_findKept_39 : decode prog_14_method_16_code 39 = .ok (.iload_n 3, 1) := by decide +kernel
theorem d_Mo_findKept_40 : decode prog_14_method_16_code 40 = .ok (.iaload, 1) := by decide +kernel
theorem d_Mo_findKept_41 : decode prog_14_method_16_code 41 = .ok (.putfield 111, 3) := by decide +kernel
theorem d_Mo_findKept_44 : decode prog_14_method_16_code 44 = .ok (.iconst 0, 1) := by decide +kernel
theorem d_Mo_findKept_45 : decode prog_14_method_16_code 45 = .ok (.istore 4, 2) := by decide +kernel
theorem d_Mo_findKept_47 : decode prog_14_method_16_code 47 = .ok (.iload 4, 2) := by decide +kernel
theorem d_Mo_findKept_49 : decode prog_14_method_16_code 49 = .ok (.aload_n 0, 1) := by decide +kernel
theorem d_Mo_findKept_50 : decode prog_14_method_16_code 50 = .ok (.getfield 111, 3) := by decide +kernel
theorem d_Mo_findKept_53 : decode prog_14_method_16_code 53 = .ok (.if_icmp .ge 28, 3) := by decide +kernel
theorem d_Mo_findKept_56 : decode prog_14_method_16_code 56 = .ok (.aload_n 0, 1) := by decide +kernel
theorem d_Mo_findKept_57 : decode prog_14_method_16_code 57 = .ok (.getfield 31, 3) := by decide +kernel
theorem d_Mo_findKept_60 : decode prog_14_method_16_code 60 = .ok (.iload 4, 2) := by decide +kernel
theorem d_Mo_findKept_62 : decode prog_14_method_16_code 62 = .ok (.aload_n 0, 1) := by decide +kernel
theorem d_Mo_findKept_63 : decode prog_14_method_16_code 63 = .ok (.getfield 71, 3) := by decide +kernel
theorem d_Mo_findKept_66 : decode prog_14_method_16_code 66 = .ok (.bipush 60, 2) := by decide +kernel
theorem d_Mo_findKept_68 : decode prog_14_method_16_code 68 = .ok (.iload_n 3, 1) := by decide +kernel
theorem d_Mo_findKept_69 : decode prog_14_method_16_code 69 = .ok (.imul, 1) := by decide +kernel
theorem d_Mo_findKept_70 : decode prog_14_method_16_code 70 = .ok (.iload 4, 2) := by decide +kernel
theorem d_Mo_findKept_72 : decode prog_14_method_16_code 72 = .ok (.iadd, 1) := by decide +kernel
theorem d_Mo_findKept_73 : decode prog_14_method_16_code 73 = .ok (.iaload, 1) := by decide +kernel
theorem d_Mo_findKept_74 : decode prog_14_method_16_code 74 = .ok (.iastore, 1) := by decide +kernel
theorem d_Mo_findKept_75 : decode prog_14_method_16_code 75 = .ok (.iinc 4 1, 3) := by decide +kernel
theorem d_Mo_findKept_78 : decode prog_14_method_16_code 78 = .ok (.goto (-31), 3) := by decide +kernel
theorem d_Mo_findKept_81 : decode prog_14_method_16_code 81 = .ok (.aload_n 0, 1) := by decide +kernel
theorem d_Mo_findKept_82 : decode prog_14_method_16_code 82 = .ok (.iload_n 1, 1) := by decide +kernel
theorem d_Mo_findKept_83 : decode prog_14_method_16_code 83 = .ok (.iconst 0, 1) := by decide +kernel
theorem d_Mo_findKept_84 : decode prog_14_method_16_code 84 = .ok (.invokevirtual 161, 3) := by decide +kernel
theorem d_Mo_findKept_87 : decode prog_14_method_16_code 87 = .ok (.aload_n 0, 1) := by decide +kernel
theorem d_Mo_findKept_88 : decode prog_14_method_16_code 88 = .ok (.iload_n 2, 1) := by decide +kernel
theorem d_Mo_findKept_89 : decode prog_14_method_16_code 89 = .ok (.invokevirtual 164, 3) := by decide +kernel
theorem d_Mo_findKept_92 : decode prog_14_method_16_code 92 = .ok (.istore 4, 2) := by decide +kernel
theorem d_Mo_findKept_94 : decode prog_14_method_16_code 94 = .ok (.iload 4, 2) := by decide +kernel
theorem d_Mo_findKept_96 : decode prog_14_method_16_code 96 = .ok (.invokestatic 168, 3) := by decide +kernel
theorem d_Mo_findKept_99 : decode prog_14_method_16_code 99 = .ok (.ifCond .ne 6, 3) := by decide +kernel
theorem d_Mo_findKept_102 : decode prog_14_method_16_code 102 = .ok (.goto 13, 3) := by decide +kernel
theorem d_Mo_findKept_105 : decode prog_14_method_16_code 105 = .ok (.aload_n 0, 1) := by decide +kernel
theorem d_Mo_findKept_106 : decode prog_14_method_16_code 106 = .ok (.iload_n 1, 1) := by decide +kernel
theorem d_Mo_findKept_107 : decode prog_14_method_16_code 107 = .ok (.iload_n 2, 1) := by decide +kernel
theorem d_Mo_findKept_108 : decode prog_14_method_16_code 108 = .ok (.iload 4, 2) := by decide +kernel
theorem d_Mo_findKept_110 : decode prog_14_method_16_code 110 = .ok (.invokevirtual 171, 3) := by decide +kernel
theorem d_Mo_findKept_113 : decode prog_14_method_16_code 113 = .ok (.iconst 1, 1) := by decide +kernel
theorem d_Mo_findKept_114 : decode prog_14_method_16_code 114 = .ok (.ireturn, 1) := by decide +kernel
theorem d_Mo_findKept_115 : decode prog_14_method_16_code 115 = .ok (.iinc 3 (-1), 3) := by decide +kernel
theorem d_Mo_findKept_118 : decode prog_14_method_16_code 118 = .ok (.goto (-111), 3) := by decide +kernel
theorem d_Mo_findKept_121 : decode prog_14_method_16_code 121 = .ok (.iconst 0, 1) := by decide +kernel
theorem d_Mo_findKept_122 : decode prog_14_method_16_code 122 = .ok (.ireturn, 1) := by decide +kernel
theorem d_Mo_go_0 : decode prog_14_method_9_code 0 = .ok (.aload_n 0, 1) := by decide +kernel
theorem d_Mo_go_1 : decode prog_14_method_9_code 1 = .ok (.iload_n 2, 1) := by decide +kernel
theorem d_Mo_go_2 : decode prog_14_method_9_code 2 = .ok (.putfield 97, 3) := by decide +kernel
theorem d_Mo_go_5 : decode prog_14_method_9_code 5 = .ok (.aload_n 0, 1) := by decide +kernel
theorem d_Mo_go_6 : decode prog_14_method_9_code 6 = .ok (.iconst 0, 1) := by decide +kernel
theorem d_Mo_go_7 : decode prog_14_method_9_code 7 = .ok (.putfield 108, 3) := by decide +kernel
theorem d_Mo_go_10 : decode prog_14_method_9_code 10 = .ok (.aload_n 0, 1) := by decide +kernel
theorem d_Mo_go_11 : decode prog_14_method_9_code 11 = .ok (.iconst 0, 1) := by decide +kernel
theorem d_Mo_go_12 : decode prog_14_method_9_code 12 = .ok (.putfield 124, 3) := by decide +kernel
theorem d_Mo_go_15 : decode prog_14_method_9_code 15 = .ok (.aload_n 0, 1) := by decide +kernel
theorem d_Mo_go_16 : decode prog_14_method_9_code 16 = .ok (.iconst 0, 1) := by decide +kernel
theorem d_Mo_go_17 : decode prog_14_method_9_code 17 = .ok (.putfield 114, 3) := by decide +kernel
theorem d_Mo_go_20 : decode prog_14_method_9_code 20 = .ok (.aload_n 0, 1) := by decide +kernel
theorem d_Mo_go_21 : decode prog_14_method_9_code 21 = .ok (.iconst 0, 1) := by decide +kernel
theorem d_Mo_go_22 : decode prog_14_method_9_code 22 = .ok (.putfield 121, 3) := by decide +kernel
theorem d_Mo_go_25 : decode prog_14_method_9_code 25 = .ok (.aload_n 0, 1) := by decide +kernel
theorem d_Mo_go_26 : decode prog_14_method_9_code 26 = .ok (.iload_n 1, 1) := by decide +kernel
theorem d_Mo_go_27 : decode prog_14_method_9_code 27 = .ok (.invokevirtual 127, 3) := by decide +kernel
theorem d_Mo_go_30 : decode prog_14_method_9_code 30 = .ok (.aload_n 0, 1) := by decide +kernel
theorem d_Mo_go_31 : decode prog_14_method_9_code 31 = .ok (.getfield 121, 3) := by decide +kernel
theorem d_Mo_go_34 : decode prog_14_method_9_code 34 = .ok (.ifCond .le 34, 3) := by decide +kernel
theorem d_Mo_go_37 : decode prog_14_method_9_code 37 = .ok (.aload_n 0, 1) := by decide +kernel
theorem d_Mo_go_38 : decode prog_14_method_9_code 38 = .ok (.getfield 114, 3) := by decide +kernel
theorem d_Mo_go_41 : decode prog_14_method_9_code 41 = .ok (.ifCond .ne 27, 3) := by decide +kernel
theorem d_Mo_go_44 : decode prog_14_method_9_code 44 = .ok (.aload_n 0, 1) := by decide +kernel
theorem d_Mo_go_45 : decode prog_14_method_9_code 45 = .ok (.aload_n 0, 1) := by decide +kernel
theorem d_Mo_go_46 : decode prog_14_method_9_code 46 = .ok (.getfield 121, 3) := by decide +kernel
theorem d_Mo_go_49 : decode prog_14_method_9_code 49 = .ok (.iconst 1, 1) := by decide +kernel
theorem d_Mo_go_50 : decode prog_14_method_9_code 50 = .ok (.isub, 1) := by decide +kernel
theorem d_Mo_go_51 : decode prog_14_method_9_code 51 = .ok (.aload_n 0, 1) := by decide +kernel
theorem d_Mo_go_52 : decode prog_14_method_9_code 52 = .ok (.getfield 43, 3) := by decide +kernel
theorem d_Mo_go_55 : decode prog_14_method_9_code 55 = .ok (.aload_n 0, 1) := by decide +kernel
theorem d_Mo_go_56 : decode prog_14_method_9_code 56 = .ok (.getfield 121, 3) := by decide +kernel
theorem d_Mo_go_59 : decode prog_14_method_9_code 59 = .ok (.iconst 1, 1) := by decide +kernel
theorem d_Mo_go_60 : decode prog_14_method_9_code 60 = .ok (.isub, 1) := by decide +kernel
theorem d_Mo_go_61 : decode prog_14_method_9_code 61 = .ok (.iaload, 1) := by decide +kernel
theorem d_Mo_go_62 : decode prog_14_method_9_code 62 = .ok (.invokevirtual 131, 3) := by decide +kernel
theorem d_Mo_go_65 : decode prog_14_method_9_code 65 = .ok (.goto (-35), 3) := by decide +kernel
theorem d_Mo_go_68 : decode prog_14_method_9_code 68 = .ok (.return_, 1) := by decide +kernel
theorem d_Mo_push_0 : decode prog_14_method_8_code 0 = .ok (.aload_n 0, 1) := by decide +kernel
theorem d_Mo_push_1 : decode prog_14_method_8_code 1 = .ok (.getfield 43, 3) := by decide +kernel
theorem d_Mo_push_4 : decode prog_14_method_8_code 4 = .ok (.aload_n 0, 1) := by decide +kernel
theorem d_Mo_push_5 : decode prog_14_method_8_code 5 = .ok (.getfield 121, 3) := by decide +kernel
theorem d_Mo_push_8 : decode prog_14_method_8_code 8 = .ok (.iload_n 1, 1) := by decide +kernel
theorem d_Mo_push_9 : decode prog_14_method_8_code 9 = .ok (.iastore, 1) := by decide +kernel
theorem d_Mo_push_10 : decode prog_14_method_8_code 10 = .ok (.aload_n 0, 1) := by decide +kernel
theorem d_Mo_push_11 : decode prog_14_method_8_code 11 = .ok (.getfield 46, 3) := by decide +kernel
theorem d_Mo_push_14 : decode prog_14_method_8_code 14 = .ok (.aload_n 0, 1) := by decide +kernel
theorem d_Mo_push_15 : decode prog_14_method_8_code 15 = .ok (.getfield 121, 3) := by decide +kernel
theorem d_Mo_push_18 : decode prog_14_method_8_code 18 = .ok (.iconst 0, 1) := by decide +kernel
theorem d_Mo_push_19 : decode prog_14_method_8_code 19 = .ok (.iastore, 1) := by decide +kernel
theorem d_Mo_push_20 : decode prog_14_method_8_code 20 = .ok (.aload_n 0, 1) := by decide +kernel
theorem d_Mo_push_21 : decode prog_14_method_8_code 21 = .ok (.getfield 49, 3) := by decide +kernel
theorem d_Mo_push_24 : decode prog_14_method_8_code 24 = .ok (.aload_n 0, 1) := by decide +kernel
theorem d_Mo_push_25 : decode prog_14_method_8_code 25 = .ok (.getfield 121, 3) := by decide +kernel
theorem d_Mo_push_28 : decode prog_14_method_8_code 28 = .ok (.iconst 0, 1) := by decide +kernel
theorem d_Mo_push_29 : decode prog_14_method_8_code 29 = .ok (.iastore, 1) := by decide +kernel
theorem d_Mo_push_30 : decode prog_14_method_8_code 30 = .ok (.aload_n 0, 1) := by decide +kernel
theorem d_Mo_push_31 : decode prog_14_method_8_code 31 = .ok (.getfield 52, 3) := by decide +kernel
theorem d_Mo_push_34 : decode prog_14_method_8_code 34 = .ok (.aload_n 0, 1) := by decide +kernel
theorem d_Mo_push_35 : decode prog_14_method_8_code 35 = .ok (.getfield 121, 3) := by decide +kernel
theorem d_Mo_push_38 : decode prog_14_method_8_code 38 = .ok (.aload_n 0, 1) := by decide +kernel
end
section
/-! decode rows -/
theorem d_Mo_push_39 : decode prog_14_method_8_code 39 = .ok (.getfield 124, 3) := by decide +kernel
theorem d_Mo_push_42 : decode prog_14_method_8_code 42 = .ok (.iastore, 1) := by decide +kernel
theorem d_Mo_push_43 : decode prog_14_method_8_code 43 = .ok (.aload_n 0, 1) := by decide +kernel
theorem d_Mo_push_44 : decode prog_14_method_8_code 44 = .ok (.dup, 1) := by decide +kernel
theorem d_Mo_push_45 : decode prog_14_method_8_code 45 = .ok (.getfield 121, 3) := by decide +kernel
theorem d_Mo_push_48 : decode prog_14_method_8_code 48 = .ok (.iconst 1, 1) := by decide +kernel
theorem d_Mo_push_49 : decode prog_14_method_8_code 49 = .ok (.iadd, 1) := by decide +kernel
theorem d_Mo_push_50 : decode prog_14_method_8_code 50 = .ok (.putfield 121, 3) := by decide +kernel
theorem d_Mo_push_53 : decode prog_14_method_8_code 53 = .ok (.return_, 1) := by decide +kernel
theorem d_Mo_turn_0 : decode prog_14_method_10_code 0 = .ok (.aload_n 0, 1) := by decide +kernel
theorem d_Mo_turn_1 : decode prog_14_method_10_code 1 = .ok (.getfield 13, 3) := by decide +kernel
theorem d_Mo_turn_4 : decode prog_14_method_10_code 4 = .ok (.iload_n 2, 1) := by decide +kernel
theorem d_Mo_turn_5 : decode prog_14_method_10_code 5 = .ok (.iaload, 1) := by decide +kernel
theorem d_Mo_turn_6 : decode prog_14_method_10_code 6 = .ok (.istore_n 3, 1) := by decide +kernel
theorem d_Mo_turn_7 : decode prog_14_method_10_code 7 = .ok (.aload_n 0, 1) := by decide +kernel
theorem d_Mo_turn_8 : decode prog_14_method_10_code 8 = .ok (.getfield 16, 3) := by decide +kernel
theorem d_Mo_turn_11 : decode prog_14_method_10_code 11 = .ok (.iload_n 2, 1) := by decide +kernel
theorem d_Mo_turn_12 : decode prog_14_method_10_code 12 = .ok (.iaload, 1) := by decide +kernel
theorem d_Mo_turn_13 : decode prog_14_method_10_code 13 = .ok (.istore 4, 2) := by decide +kernel
theorem d_Mo_turn_15 : decode prog_14_method_10_code 15 = .ok (.aload_n 0, 1) := by decide +kernel
theorem d_Mo_turn_16 : decode prog_14_method_10_code 16 = .ok (.getfield 46, 3) := by decide +kernel
theorem d_Mo_turn_19 : decode prog_14_method_10_code 19 = .ok (.iload_n 1, 1) := by decide +kernel
theorem d_Mo_turn_20 : decode prog_14_method_10_code 20 = .ok (.dup2, 1) := by decide +kernel
theorem d_Mo_turn_21 : decode prog_14_method_10_code 21 = .ok (.iaload, 1) := by decide +kernel
theorem d_Mo_turn_22 : decode prog_14_method_10_code 22 = .ok (.iconst 1, 1) := by decide +kernel
theorem d_Mo_turn_23 : decode prog_14_method_10_code 23 = .ok (.iadd, 1) := by decide +kernel
theorem d_Mo_turn_24 : decode prog_14_method_10_code 24 = .ok (.iastore, 1) := by decide +kernel
theorem d_Mo_turn_25 : decode prog_14_method_10_code 25 = .ok (.aload_n 0, 1) := by decide +kernel
theorem d_Mo_turn_26 : decode prog_14_method_10_code 26 = .ok (.getfield 7, 3) := by decide +kernel
theorem d_Mo_turn_29 : decode prog_14_method_10_code 29 = .ok (.iload_n 2, 1) := by decide +kernel
theorem d_Mo_turn_30 : decode prog_14_method_10_code 30 = .ok (.iaload, 1) := by decide +kernel
theorem d_Mo_turn_31 : decode prog_14_method_10_code 31 = .ok (.tableswitch 264 0 4 #[33, 104, 162, 208, 253], 33) := by decide +kernel
theorem d_Mo_turn_64 : decode prog_14_method_10_code 64 = .ok (.aload_n 0, 1) := by decide +kernel
theorem d_Mo_turn_65 : decode prog_14_method_10_code 65 = .ok (.iload 4, 2) := by decide +kernel
theorem d_Mo_turn_67 : decode prog_14_method_10_code 67 = .ok (.iload_n 3, 1) := by decide +kernel
theorem d_Mo_turn_68 : decode prog_14_method_10_code 68 = .ok (.isub, 1) := by decide +kernel
theorem d_Mo_turn_69 : decode prog_14_method_10_code 69 = .ok (.iconst 1, 1) := by decide +kernel
theorem d_Mo_turn_70 : decode prog_14_method_10_code 70 = .ok (.invokevirtual 135, 3) := by decide +kernel
theorem d_Mo_turn_73 : decode prog_14_method_10_code 73 = .ok (.istore 5, 2) := by decide +kernel
theorem d_Mo_turn_75 : decode prog_14_method_10_code 75 = .ok (.aload_n 0, 1) := by decide +kernel
theorem d_Mo_turn_76 : decode prog_14_method_10_code 76 = .ok (.dup, 1) := by decide +kernel
theorem d_Mo_turn_77 : decode prog_14_method_10_code 77 = .ok (.getfield 121, 3) := by decide +kernel
theorem d_Mo_turn_80 : decode prog_14_method_10_code 80 = .ok (.iconst 1, 1) := by decide +kernel
theorem d_Mo_turn_81 : decode prog_14_method_10_code 81 = .ok (.isub, 1) := by decide +kernel
theorem d_Mo_turn_82 : decode prog_14_method_10_code 82 = .ok (.putfield 121, 3) := by decide +kernel
theorem d_Mo_turn_85 : decode prog_14_method_10_code 85 = .ok (.aload_n 0, 1) := by decide +kernel
theorem d_Mo_turn_86 : decode prog_14_method_10_code 86 = .ok (.getfield 124, 3) := by decide +kernel
theorem d_Mo_turn_89 : decode prog_14_method_10_code 89 = .ok (.bipush 60, 2) := by decide +kernel
theorem d_Mo_turn_91 : decode prog_14_method_10_code 91 = .ok (.if_icmp .ne 8, 3) := by decide +kernel
theorem d_Mo_turn_94 : decode prog_14_method_10_code 94 = .ok (.aload_n 0, 1) := by decide +kernel
theorem d_Mo_turn_95 : decode prog_14_method_10_code 95 = .ok (.iconst 1, 1) := by decide +kernel
theorem d_Mo_turn_96 : decode prog_14_method_10_code 96 = .ok (.putfield 114, 3) := by decide +kernel
theorem d_Mo_turn_99 : decode prog_14_method_10_code 99 = .ok (.aload_n 0, 1) := by decide +kernel
theorem d_Mo_turn_100 : decode prog_14_method_10_code 100 = .ok (.getfield 114, 3) := by decide +kernel
theorem d_Mo_turn_103 : decode prog_14_method_10_code 103 = .ok (.ifCond .eq 6, 3) := by decide +kernel
theorem d_Mo_turn_106 : decode prog_14_method_10_code 106 = .ok (.goto 262, 3) := by decide +kernel
theorem d_Mo_turn_109 : decode prog_14_method_10_code 109 = .ok (.aload_n 0, 1) := by decide +kernel
theorem d_Mo_turn_110 : decode prog_14_method_10_code 110 = .ok (.getfield 40, 3) := by decide +kernel
theorem d_Mo_turn_113 : decode prog_14_method_10_code 113 = .ok (.aload_n 0, 1) := by decide +kernel
theorem d_Mo_turn_114 : decode prog_14_method_10_code 114 = .ok (.getfield 124, 3) := by decide +kernel
theorem d_Mo_turn_117 : decode prog_14_method_10_code 117 = .ok (.iload_n 3, 1) := by decide +kernel
theorem d_Mo_turn_118 : decode prog_14_method_10_code 118 = .ok (.iload 5, 2) := by decide +kernel
theorem d_Mo_turn_120 : decode prog_14_method_10_code 120 = .ok (.iadd, 1) := by decide +kernel
theorem d_Mo_turn_121 : decode prog_14_method_10_code 121 = .ok (.iastore, 1) := by decide +kernel
theorem d_Mo_turn_122 : decode prog_14_method_10_code 122 = .ok (.aload_n 0, 1) := by decide +kernel
theorem d_Mo_turn_123 : decode prog_14_method_10_code 123 = .ok (.dup, 1) := by decide +kernel
theorem d_Mo_turn_124 : decode prog_14_method_10_code 124 = .ok (.getfield 124, 3) := by decide +kernel
theorem d_Mo_turn_127 : decode prog_14_method_10_code 127 = .ok (.iconst 1, 1) := by decide +kernel
theorem d_Mo_turn_128 : decode prog_14_method_10_code 128 = .ok (.iadd, 1) := by decide +kernel
theorem d_Mo_turn_129 : decode prog_14_method_10_code 129 = .ok (.putfield 124, 3) := by decide +kernel
theorem d_Mo_turn_132 : decode prog_14_method_10_code 132 = .ok (.goto 236, 3) := by decide +kernel
theorem d_Mo_turn_135 : decode prog_14_method_10_code 135 = .ok (.aload_n 0, 1) := by decide +kernel
theorem d_Mo_turn_136 : decode prog_14_method_10_code 136 = .ok (.aload_n 0, 1) := by decide +kernel
theorem d_Mo_turn_137 : decode prog_14_method_10_code 137 = .ok (.getfield 49, 3) := by decide +kernel
theorem d_Mo_turn_140 : decode prog_14_method_10_code 140 = .ok (.iload_n 1, 1) := by decide +kernel
theorem d_Mo_turn_141 : decode prog_14_method_10_code 141 = .ok (.iaload, 1) := by decide +kernel
theorem d_Mo_turn_142 : decode prog_14_method_10_code 142 = .ok (.iload 4, 2) := by decide +kernel
theorem d_Mo_turn_144 : decode prog_14_method_10_code 144 = .ok (.if_icmp .eq 12, 3) := by decide +kernel
theorem d_Mo_turn_147 : decode prog_14_method_10_code 147 = .ok (.aload_n 0, 1) := by decide +kernel
theorem d_Mo_turn_148 : decode prog_14_method_10_code 148 = .ok (.iconst 1, 1) := by decide +kernel
theorem d_Mo_turn_149 : decode prog_14_method_10_code 149 = .ok (.iconst 0, 1) := by decide +kernel
theorem d_Mo_turn_150 : decode prog_14_method_10_code 150 = .ok (.invokevirtual 135, 3) := by decide +kernel
theorem d_Mo_turn_153 : decode prog_14_method_10_code 153 = .ok (.ifCond .ne 7, 3) := by decide +kernel
theorem d_Mo_turn_156 : decode prog_14_method_10_code 156 = .ok (.iload_n 1, 1) := by decide +kernel
theorem d_Mo_turn_157 : decode prog_14_method_10_code 157 = .ok (.goto 7, 3) := by decide +kernel
theorem d_Mo_turn_160 : decode prog_14_method_10_code 160 = .ok (.aload_n 0, 1) := by decide +kernel
theorem d_Mo_turn_161 : decode prog_14_method_10_code 161 = .ok (.getfield 121, 3) := by decide +kernel
theorem d_Mo_turn_164 : decode prog_14_method_10_code 164 = .ok (.putfield 121, 3) := by decide +kernel
theorem d_Mo_turn_167 : decode prog_14_method_10_code 167 = .ok (.aload_n 0, 1) := by decide +kernel
theorem d_Mo_turn_168 : decode prog_14_method_10_code 168 = .ok (.getfield 49, 3) := by decide +kernel
theorem d_Mo_turn_171 : decode prog_14_method_10_code 171 = .ok (.iload_n 1, 1) := by decide +kernel
theorem d_Mo_turn_172 : decode prog_14_method_10_code 172 = .ok (.dup2, 1) := by decide +kernel
theorem d_Mo_turn_173 : decode prog_14_method_10_code 173 = .ok (.iaload, 1) := by decide +kernel
theorem d_Mo_turn_174 : decode prog_14_method_10_code 174 = .ok (.iconst 1, 1) := by decide +kernel
theorem d_Mo_turn_175 : decode prog_14_method_10_code 175 = .ok (.iadd, 1) := by decide +kernel
theorem d_Mo_turn_176 : decode prog_14_method_10_code 176 = .ok (.iastore, 1) := by decide +kernel
theorem d_Mo_turn_177 : decode prog_14_method_10_code 177 = .ok (.aload_n 0, 1) := by decide +kernel
theorem d_Mo_turn_178 : decode prog_14_method_10_code 178 = .ok (.getfield 121, 3) := by decide +kernel
theorem d_Mo_turn_181 : decode prog_14_method_10_code 181 = .ok (.iload_n 1, 1) := by decide +kernel
theorem d_Mo_turn_182 : decode prog_14_method_10_code 182 = .ok (.if_icmp .le 186, 3) := by decide +kernel
theorem d_Mo_turn_185 : decode prog_14_method_10_code 185 = .ok (.aload_n 0, 1) := by decide +kernel
theorem d_Mo_turn_186 : decode prog_14_method_10_code 186 = .ok (.iload_n 3, 1) := by decide +kernel
theorem d_Mo_turn_187 : decode prog_14_method_10_code 187 = .ok (.invokevirtual 127, 3) := by decide +kernel
theorem d_Mo_turn_190 : decode prog_14_method_10_code 190 = .ok (.goto 178, 3) := by decide +kernel
theorem d_Mo_turn_193 : decode prog_14_method_10_code 193 = .ok (.aload_n 0, 1) := by decide +kernel
theorem d_Mo_turn_194 : decode prog_14_method_10_code 194 = .ok (.getfield 46, 3) := by decide +kernel
theorem d_Mo_turn_197 : decode prog_14_method_10_code 197 = .ok (.iload_n 1, 1) := by decide +kernel
theorem d_Mo_turn_198 : decode prog_14_method_10_code 198 = .ok (.iaload, 1) := by decide +kernel
theorem d_Mo_turn_199 : decode prog_14_method_10_code 199 = .ok (.iconst 3, 1) := by decide +kernel
theorem d_Mo_turn_200 : decode prog_14_method_10_code 200 = .ok (.if_icmp .ge 26, 3) := by decide +kernel
theorem d_Mo_turn_203 : decode prog_14_method_10_code 203 = .ok (.aload_n 0, 1) := by decide +kernel
theorem d_Mo_turn_204 : decode prog_14_method_10_code 204 = .ok (.aload_n 0, 1) := by decide +kernel
theorem d_Mo_turn_205 : decode prog_14_method_10_code 205 = .ok (.getfield 46, 3) := by decide +kernel
theorem d_Mo_turn_208 : decode prog_14_method_10_code 208 = .ok (.iload_n 1, 1) := by decide +kernel
theorem d_Mo_turn_209 : decode prog_14_method_10_code 209 = .ok (.iaload, 1) := by decide +kernel
theorem d_Mo_turn_210 : decode prog_14_method_10_code 210 = .ok (.iconst 1, 1) := by decide +kernel
theorem d_Mo_turn_211 : decode prog_14_method_10_code 211 = .ok (.if_icmp .ne 7, 3) := by decide +kernel
theorem d_Mo_turn_214 : decode prog_14_method_10_code 214 = .ok (.iload_n 3, 1) := by decide +kernel
theorem d_Mo_turn_215 : decode prog_14_method_10_code 215 = .ok (.goto 5, 3) := by decide +kernel
theorem d_Mo_turn_218 : decode prog_14_method_10_code 218 = .ok (.iload 4, 2) := by decide +kernel
theorem d_Mo_turn_220 : decode prog_14_method_10_code 220 = .ok (.invokevirtual 127, 3) := by decide +kernel
theorem d_Mo_turn_223 : decode prog_14_method_10_code 223 = .ok (.goto 145, 3) := by decide +kernel
theorem d_Mo_turn_226 : decode prog_14_method_10_code 226 = .ok (.aload_n 0, 1) := by decide +kernel
theorem d_Mo_turn_227 : decode prog_14_method_10_code 227 = .ok (.dup, 1) := by decide +kernel
theorem d_Mo_turn_228 : decode prog_14_method_10_code 228 = .ok (.getfield 121, 3) := by decide +kernel
theorem d_Mo_turn_231 : decode prog_14_method_10_code 231 = .ok (.iconst 1, 1) := by decide +kernel
theorem d_Mo_turn_232 : decode prog_14_method_10_code 232 = .ok (.isub, 1) := by decide +kernel
theorem d_Mo_turn_233 : decode prog_14_method_10_code 233 = .ok (.putfield 121, 3) := by decide +kernel
theorem d_Mo_turn_236 : decode prog_14_method_10_code 236 = .ok (.goto 132, 3) := by decide +kernel
theorem d_Mo_turn_239 : decode prog_14_method_10_code 239 = .ok (.aload_n 0, 1) := by decide +kernel
theorem d_Mo_turn_240 : decode prog_14_method_10_code 240 = .ok (.getfield 46, 3) := by decide +kernel
theorem d_Mo_turn_243 : decode prog_14_method_10_code 243 = .ok (.iload_n 1, 1) := by decide +kernel
theorem d_Mo_turn_244 : decode prog_14_method_10_code 244 = .ok (.iaload, 1) := by decide +kernel
theorem d_Mo_turn_245 : decode prog_14_method_10_code 245 = .ok (.iconst 1, 1) := by decide +kernel
theorem d_Mo_turn_246 : decode prog_14_method_10_code 246 = .ok (.if_icmp .ne 25, 3) := by decide +kernel
theorem d_Mo_turn_249 : decode prog_14_method_10_code 249 = .ok (.aload_n 0, 1) := by decide +kernel
theorem d_Mo_turn_250 : decode prog_14_method_10_code 250 = .ok (.aload_n 0, 1) := by decide +kernel
theorem d_Mo_turn_251 : decode prog_14_method_10_code 251 = .ok (.iconst 1, 1) := by decide +kernel
theorem d_Mo_turn_252 : decode prog_14_method_10_code 252 = .ok (.iconst 0, 1) := by decide +kernel
theorem d_Mo_turn_253 : decode prog_14_method_10_code 253 = .ok (.invokevirtual 135, 3) := by decide +kernel
theorem d_Mo_turn_256 : decode prog_14_method_10_code 256 = .ok (.ifCond .ne 7, 3) := by decide +kernel
theorem d_Mo_turn_259 : decode prog_14_method_10_code 259 = .ok (.iload_n 3, 1) := by decide +kernel
theorem d_Mo_turn_260 : decode prog_14_method_10_code 260 = .ok (.goto 5, 3) := by decide +kernel
theorem d_Mo_turn_263 : decode prog_14_method_10_code 263 = .ok (.iload 4, 2) := by decide +kernel
theorem d_Mo_turn_265 : decode prog_14_method_10_code 265 = .ok (.invokevirtual 127, 3) := by decide +kernel
theorem d_Mo_turn_268 : decode prog_14_method_10_code 268 = .ok (.goto 100, 3) := by decide +kernel
theorem d_Mo_turn_271 : decode prog_14_method_10_code 271 = .ok (.aload_n 0, 1) := by decide +kernel
theorem d_Mo_turn_272 : decode prog_14_method_10_code 272 = .ok (.dup, 1) := by decide +kernel
theorem d_Mo_turn_273 : decode prog_14_method_10_code 273 = .ok (.getfield 121, 3) := by decide +kernel
theorem d_Mo_turn_276 : decode prog_14_method_10_code 276 = .ok (.iconst 1, 1) := by decide +kernel
theorem d_Mo_turn_277 : decode prog_14_method_10_code 277 = .ok (.isub, 1) := by decide +kernel
theorem d_Mo_turn_278 : decode prog_14_method_10_code 278 = .ok (.putfield 121, 3) := by decide +kernel
theorem d_Mo_turn_281 : decode prog_14_method_10_code 281 = .ok (.goto 87, 3) := by decide +kernel
theorem d_Mo_turn_284 : decode prog_14_method_10_code 284 = .ok (.aload_n 0, 1) := by decide +kernel
theorem d_Mo_turn_285 : decode prog_14_method_10_code 285 = .ok (.iload_n 1, 1) := by decide +kernel
theorem d_Mo_turn_286 : decode prog_14_method_10_code 286 = .ok (.iload_n 3, 1) := by decide +kernel
theorem d_Mo_turn_287 : decode prog_14_method_10_code 287 = .ok (.iload 4, 2) := by decide +kernel
theorem d_Mo_turn_289 : decode prog_14_method_10_code 289 = .ok (.invokevirtual 139, 3) := by decide +kernel
theorem d_Mo_turn_292 : decode prog_14_method_10_code 292 = .ok (.goto 76, 3) := by decide +kernel
theorem d_Mo_turn_295 : decode prog_14_method_10_code 295 = .ok (.aload_n 0, 1) := by decide +kernel
theorem d_Mo_turn_296 : decode prog_14_method_10_code 296 = .ok (.getfield 52, 3) := by decide +kernel
theorem d_Mo_turn_299 : decode prog_14_method_10_code 299 = .ok (.iload_n 1, 1) := by decide +kernel
theorem d_Mo_turn_300 : decode prog_14_method_10_code 300 = .ok (.iaload, 1) := by decide +kernel
theorem d_Mo_turn_301 : decode prog_14_method_10_code 301 = .ok (.istore 5, 2) := by decide +kernel
theorem d_Mo_turn_303 : decode prog_14_method_10_code 303 = .ok (.iload 5, 2) := by decide +kernel
theorem d_Mo_turn_305 : decode prog_14_method_10_code 305 = .ok (.aload_n 0, 1) := by decide +kernel
theorem d_Mo_turn_306 : decode prog_14_method_10_code 306 = .ok (.getfield 124, 3) := by decide +kernel
theorem d_Mo_turn_309 : decode prog_14_method_10_code 309 = .ok (.if_icmp .ge 31, 3) := by decide +kernel
theorem d_Mo_turn_312 : decode prog_14_method_10_code 312 = .ok (.aload_n 0, 1) := by decide +kernel
theorem d_Mo_turn_313 : decode prog_14_method_10_code 313 = .ok (.getfield 46, 3) := by decide +kernel
theorem d_Mo_turn_316 : decode prog_14_method_10_code 316 = .ok (.iload_n 1, 1) := by decide +kernel
theorem d_Mo_turn_317 : decode prog_14_method_10_code 317 = .ok (.iaload, 1) := by decide +kernel
theorem d_Mo_turn_318 : decode prog_14_method_10_code 318 = .ok (.iconst 2, 1) := by decide +kernel
theorem d_Mo_turn_319 : decode prog_14_method_10_code 319 = .ok (.if_icmp .ne 21, 3) := by decide +kernel
theorem d_Mo_turn_322 : decode prog_14_method_10_code 322 = .ok (.aload_n 0, 1) := by decide +kernel
theorem d_Mo_turn_323 : decode prog_14_method_10_code 323 = .ok (.getfield 40, 3) := by decide +kernel
theorem d_Mo_turn_326 : decode prog_14_method_10_code 326 = .ok (.iload 5, 2) := by decide +kernel
theorem d_Mo_turn_328 : decode prog_14_method_10_code 328 = .ok (.dup2, 1) := by decide +kernel
theorem d_Mo_turn_329 : decode prog_14_method_10_code 329 = .ok (.iaload, 1) := by decide +kernel
theorem d_Mo_turn_330 : decode prog_14_method_10_code 330 = .ok (.iload 4, 2) := by decide +kernel
theorem d_Mo_turn_332 : decode prog_14_method_10_code 332 = .ok (.iadd, 1) := by decide +kernel
theorem d_Mo_turn_333 : decode prog_14_method_10_code 333 = .ok (.iastore, 1) := by decide +kernel
theorem d_Mo_turn_334 : decode prog_14_method_10_code 334 = .ok (.iinc 5 1, 3) := by decide +kernel
theorem d_Mo_turn_337 : decode prog_14_method_10_code 337 = .ok (.goto (-34), 3) := by decide +kernel
theorem d_Mo_turn_340 : decode prog_14_method_10_code 340 = .ok (.aload_n 0, 1) := by decide +kernel
theorem d_Mo_turn_341 : decode prog_14_method_10_code 341 = .ok (.getfield 46, 3) := by decide +kernel
theorem d_Mo_turn_344 : decode prog_14_method_10_code 344 = .ok (.iload_n 1, 1) := by decide +kernel
theorem d_Mo_turn_345 : decode prog_14_method_10_code 345 = .ok (.iaload, 1) := by decide +kernel
theorem d_Mo_turn_346 : decode prog_14_method_10_code 346 = .ok (.iconst 1, 1) := by decide +kernel
theorem d_Mo_turn_347 : decode prog_14_method_10_code 347 = .ok (.if_icmp .ne 11, 3) := by decide +kernel
theorem d_Mo_turn_350 : decode prog_14_method_10_code 350 = .ok (.aload_n 0, 1) := by decide +kernel
theorem d_Mo_turn_351 : decode prog_14_method_10_code 351 = .ok (.iload_n 3, 1) := by decide +kernel
theorem d_Mo_turn_352 : decode prog_14_method_10_code 352 = .ok (.invokevirtual 127, 3) := by decide +kernel
theorem d_Mo_turn_355 : decode prog_14_method_10_code 355 = .ok (.goto 13, 3) := by decide +kernel
theorem d_Mo_turn_358 : decode prog_14_method_10_code 358 = .ok (.aload_n 0, 1) := by decide +kernel
theorem d_Mo_turn_359 : decode prog_14_method_10_code 359 = .ok (.dup, 1) := by decide +kernel
theorem d_Mo_turn_360 : decode prog_14_method_10_code 360 = .ok (.getfield 121, 3) := by decide +kernel
theorem d_Mo_turn_363 : decode prog_14_method_10_code 363 = .ok (.iconst 1, 1) := by decide +kernel
theorem d_Mo_turn_364 : decode prog_14_method_10_code 364 = .ok (.isub, 1) := by decide +kernel
theorem d_Mo_turn_365 : decode prog_14_method_10_code 365 = .ok (.putfield 121, 3) := by decide +kernel
theorem d_Mo_turn_368 : decode prog_14_method_10_code 368 = .ok (.return_, 1) := by decide +kernel
theorem d_Mo_draw_0 : decode prog_14_method_7_code 0 = .ok (.aload_n 0, 1) := by decide +kernel
theorem d_Mo_draw_1 : decode prog_14_method_7_code 1 = .ok (.getfield 97, 3) := by decide +kernel
theorem d_Mo_draw_4 : decode prog_14_method_7_code 4 = .ok (.iconst 1, 1) := by decide +kernel
theorem d_Mo_draw_5 : decode prog_14_method_7_code 5 = .ok (.if_icmp .ne 19, 3) := by decide +kernel
theorem d_Mo_draw_8 : decode prog_14_method_7_code 8 = .ok (.aload_n 0, 1) := by decide +kernel
theorem d_Mo_draw_9 : decode prog_14_method_7_code 9 = .ok (.aload_n 0, 1) := by decide +kernel
theorem d_Mo_draw_10 : decode prog_14_method_7_code 10 = .ok (.getfield 100, 3) := by decide +kernel
theorem d_Mo_draw_13 : decode prog_14_method_7_code 13 = .ok (.ldc2_w 104, 3) := by decide +kernel
theorem d_Mo_draw_16 : decode prog_14_method_7_code 16 = .ok (.lmul, 1) := by decide +kernel
theorem d_Mo_draw_17 : decode prog_14_method_7_code 17 = .ok (.ldc2_w 106, 3) := by decide +kernel
theorem d_Mo_draw_20 : decode prog_14_method_7_code 20 = .ok (.ladd, 1) := by decide +kernel
theorem d_Mo_draw_21 : decode prog_14_method_7_code 21 = .ok (.putfield 100, 3) := by decide +kernel
theorem d_Mo_draw_24 : decode prog_14_method_7_code 24 = .ok (.aload_n 0, 1) := by decide +kernel
theorem d_Mo_draw_25 : decode prog_14_method_7_code 25 = .ok (.getfield 108, 3) := by decide +kernel
theorem d_Mo_draw_28 : decode prog_14_method_7_code 28 = .ok (.bipush 60, 2) := by decide +kernel
theorem d_Mo_draw_30 : decode prog_14_method_7_code 30 = .ok (.if_icmp .eq 21, 3) := by decide +kernel
theorem d_Mo_draw_33 : decode prog_14_method_7_code 33 = .ok (.aload_n 0, 1) := by decide +kernel
theorem d_Mo_draw_34 : decode prog_14_method_7_code 34 = .ok (.getfield 97, 3) := by decide +kernel
theorem d_Mo_draw_37 : decode prog_14_method_7_code 37 = .ok (.ifCond .ne 21, 3) := by decide +kernel
theorem d_Mo_draw_40 : decode prog_14_method_7_code 40 = .ok (.aload_n 0, 1) := by decide +kernel
theorem d_Mo_draw_41 : decode prog_14_method_7_code 41 = .ok (.getfield 108, 3) := by decide +kernel
theorem d_Mo_draw_44 : decode prog_14_method_7_code 44 = .ok (.aload_n 0, 1) := by decide +kernel
theorem d_Mo_draw_45 : decode prog_14_method_7_code 45 = .ok (.getfield 111, 3) := by decide +kernel
theorem d_Mo_draw_48 : decode prog_14_method_7_code 48 = .ok (.if_icmp .ne 10, 3) := by decide +kernel
theorem d_Mo_draw_51 : decode prog_14_method_7_code 51 = .ok (.aload_n 0, 1) := by decide +kernel
theorem d_Mo_draw_52 : decode prog_14_method_7_code 52 = .ok (.iconst 1, 1) := by decide +kernel
theorem d_Mo_draw_53 : decode prog_14_method_7_code 53 = .ok (.putfield 114, 3) := by decide +kernel
theorem d_Mo_draw_56 : decode prog_14_method_7_code 56 = .ok (.iconst 0, 1) := by decide +kernel
theorem d_Mo_draw_57 : decode prog_14_method_7_code 57 = .ok (.ireturn, 1) := by decide +kernel
theorem d_Mo_draw_58 : decode prog_14_method_7_code 58 = .ok (.iconst 0, 1) := by decide +kernel
theorem d_Mo_draw_59 : decode prog_14_method_7_code 59 = .ok (.istore_n 3, 1) := by decide +kernel
theorem d_Mo_draw_60 : decode prog_14_method_7_code 60 = .ok (.aload_n 0, 1) := by decide +kernel
theorem d_Mo_draw_61 : decode prog_14_method_7_code 61 = .ok (.getfield 97, 3) := by decide +kernel
theorem d_Mo_draw_64 : decode prog_14_method_7_code 64 = .ok (.ifCond .ne 13, 3) := by decide +kernel
theorem d_Mo_draw_67 : decode prog_14_method_7_code 67 = .ok (.aload_n 0, 1) := by decide +kernel
theorem d_Mo_draw_68 : decode prog_14_method_7_code 68 = .ok (.getfield 31, 3) := by decide +kernel
theorem d_Mo_draw_71 : decode prog_14_method_7_code 71 = .ok (.aload_n 0, 1) := by decide +kernel
theorem d_Mo_draw_72 : decode prog_14_method_7_code 72 = .ok (.getfield 108, 3) := by decide +kernel
theorem d_Mo_draw_75 : decode prog_14_method_7_code 75 = .ok (.iaload, 1) := by decide +kernel
theorem d_Mo_draw_76 : decode prog_14_method_7_code 76 = .ok (.istore_n 3, 1) := by decide +kernel
theorem d_Mo_draw_77 : decode prog_14_method_7_code 77 = .ok (.aload_n 0, 1) := by decide +kernel
theorem d_Mo_draw_78 : decode prog_14_method_7_code 78 = .ok (.getfield 97, 3) := by decide +kernel
theorem d_Mo_draw_81 : decode prog_14_method_7_code 81 = .ok (.iconst 1, 1) := by decide +kernel
theorem d_Mo_draw_82 : decode prog_14_method_7_code 82 = .ok (.if_icmp .ne 40, 3) := by decide +kernel
theorem d_Mo_draw_85 : decode prog_14_method_7_code 85 = .ok (.aload_n 0, 1) := by decide +kernel
theorem d_Mo_draw_86 : decode prog_14_method_7_code 86 = .ok (.getfield 100, 3) := by decide +kernel
theorem d_Mo_draw_89 : decode prog_14_method_7_code 89 = .ok (.bipush 33, 2) := by decide +kernel
theorem d_Mo_draw_91 : decode prog_14_method_7_code 91 = .ok (.lushr, 1) := by decide +kernel
theorem d_Mo_draw_92 : decode prog_14_method_7_code 92 = .ok (.iload_n 2, 1) := by decide +kernel
theorem d_Mo_draw_93 : decode prog_14_method_7_code 93 = .ok (.ifCond .eq 22, 3) := by decide +kernel
theorem d_Mo_draw_96 : decode prog_14_method_7_code 96 = .ok (.iload_n 1, 1) := by decide +kernel
theorem d_Mo_draw_97 : decode prog_14_method_7_code 97 = .ok (.aload_n 0, 1) := by decide +kernel
theorem d_Mo_draw_98 : decode prog_14_method_7_code 98 = .ok (.getfield 118, 3) := by decide +kernel
theorem d_Mo_draw_101 : decode prog_14_method_7_code 101 = .ok (.iconst 1, 1) := by decide +kernel
theorem d_Mo_draw_102 : decode prog_14_method_7_code 102 = .ok (.iadd, 1) := by decide +kernel
theorem d_Mo_draw_103 : decode prog_14_method_7_code 103 = .ok (.if_icmp .le 12, 3) := by decide +kernel
theorem d_Mo_draw_106 : decode prog_14_method_7_code 106 = .ok (.aload_n 0, 1) := by decide +kernel
theorem d_Mo_draw_107 : decode prog_14_method_7_code 107 = .ok (.getfield 118, 3) := by decide +kernel
theorem d_Mo_draw_110 : decode prog_14_method_7_code 110 = .ok (.iconst 2, 1) := by decide +kernel
theorem d_Mo_draw_111 : decode prog_14_method_7_code 111 = .ok (.iadd, 1) := by decide +kernel
theorem d_Mo_draw_112 : decode prog_14_method_7_code 112 = .ok (.goto 6, 3) := by decide +kernel
theorem d_Mo_draw_115 : decode prog_14_method_7_code 115 = .ok (.iload_n 1, 1) := by decide +kernel
theorem d_Mo_draw_116 : decode prog_14_method_7_code 116 = .ok (.iconst 1, 1) := by decide +kernel
theorem d_Mo_draw_117 : decode prog_14_method_7_code 117 = .ok (.iadd, 1) := by decide +kernel
theorem d_Mo_draw_118 : decode prog_14_method_7_code 118 = .ok (.i2l, 1) := by decide +kernel
theorem d_Mo_draw_119 : decode prog_14_method_7_code 119 = .ok (.lrem, 1) := by decide +kernel
theorem d_Mo_draw_120 : decode prog_14_method_7_code 120 = .ok (.l2i, 1) := by decide +kernel
theorem d_Mo_draw_121 : decode prog_14_method_7_code 121 = .ok (.istore_n 3, 1) := by decide +kernel
theorem d_Mo_draw_122 : decode prog_14_method_7_code 122 = .ok (.aload_n 0, 1) := by decide +kernel
theorem d_Mo_draw_123 : decode prog_14_method_7_code 123 = .ok (.getfield 97, 3) := by decide +kernel
theorem d_Mo_draw_126 : decode prog_14_method_7_code 126 = .ok (.iconst 2, 1) := by decide +kernel
theorem d_Mo_draw_127 : decode prog_14_method_7_code 127 = .ok (.if_icmp .ne 24, 3) := by decide +kernel
theorem d_Mo_draw_130 : decode prog_14_method_7_code 130 = .ok (.aload_n 0, 1) := by decide +kernel
theorem d_Mo_draw_131 : decode prog_14_method_7_code 131 = .ok (.getfield 108, 3) := by decide +kernel
theorem d_Mo_draw_134 : decode prog_14_method_7_code 134 = .ok (.aload_n 0, 1) := by decide +kernel
theorem d_Mo_draw_135 : decode prog_14_method_7_code 135 = .ok (.getfield 111, 3) := by decide +kernel
theorem d_Mo_draw_138 : decode prog_14_method_7_code 138 = .ok (.if_icmp .ge 13, 3) := by decide +kernel
theorem d_Mo_draw_141 : decode prog_14_method_7_code 141 = .ok (.aload_n 0, 1) := by decide +kernel
theorem d_Mo_draw_142 : decode prog_14_method_7_code 142 = .ok (.getfield 31, 3) := by decide +kernel
theorem d_Mo_draw_145 : decode prog_14_method_7_code 145 = .ok (.aload_n 0, 1) := by decide +kernel
theorem d_Mo_draw_146 : decode prog_14_method_7_code 146 = .ok (.getfield 108, 3) := by decide +kernel
theorem d_Mo_draw_149 : decode prog_14_method_7_code 149 = .ok (.iaload, 1) := by decide +kernel
theorem d_Mo_draw_150 : decode prog_14_method_7_code 150 = .ok (.istore_n 3, 1) := by decide +kernel
theorem d_Mo_draw_151 : decode prog_14_method_7_code 151 = .ok (.iload_n 3, 1) := by decide +kernel
theorem d_Mo_draw_152 : decode prog_14_method_7_code 152 = .ok (.iload_n 1, 1) := by decide +kernel
theorem d_Mo_draw_153 : decode prog_14_method_7_code 153 = .ok (.if_icmp .le 10, 3) := by decide +kernel
theorem d_Mo_draw_156 : decode prog_14_method_7_code 156 = .ok (.aload_n 0, 1) := by decide +kernel
theorem d_Mo_draw_157 : decode prog_14_method_7_code 157 = .ok (.iconst 1, 1) := by decide +kernel
theorem d_Mo_draw_158 : decode prog_14_method_7_code 158 = .ok (.putfield 114, 3) := by decide +kernel
theorem d_Mo_draw_161 : decode prog_14_method_7_code 161 = .ok (.iconst 0, 1) := by decide +kernel
theorem d_Mo_draw_162 : decode prog_14_method_7_code 162 = .ok (.ireturn, 1) := by decide +kernel
theorem d_Mo_draw_163 : decode prog_14_method_7_code 163 = .ok (.aload_n 0, 1) := by decide +kernel
theorem d_Mo_draw_164 : decode prog_14_method_7_code 164 = .ok (.getfield 34, 3) := by decide +kernel
theorem d_Mo_draw_167 : decode prog_14_method_7_code 167 = .ok (.aload_n 0, 1) := by decide +kernel
theorem d_Mo_draw_168 : decode prog_14_method_7_code 168 = .ok (.getfield 108, 3) := by decide +kernel
theorem d_Mo_draw_171 : decode prog_14_method_7_code 171 = .ok (.iload_n 3, 1) := by decide +kernel
theorem d_Mo_draw_172 : decode prog_14_method_7_code 172 = .ok (.iastore, 1) := by decide +kernel
theorem d_Mo_draw_173 : decode prog_14_method_7_code 173 = .ok (.aload_n 0, 1) := by decide +kernel
theorem d_Mo_draw_174 : decode prog_14_method_7_code 174 = .ok (.getfield 37, 3) := by decide +kernel
theorem d_Mo_draw_177 : decode prog_14_method_7_code 177 = .ok (.aload_n 0, 1) := by decide +kernel
theorem d_Mo_draw_178 : decode prog_14_method_7_code 178 = .ok (.getfield 108, 3) := by decide +kernel
theorem d_Mo_draw_181 : decode prog_14_method_7_code 181 = .ok (.iload_n 1, 1) := by decide +kernel
theorem d_Mo_draw_182 : decode prog_14_method_7_code 182 = .ok (.iastore, 1) := by decide +kernel
theorem d_Mo_draw_183 : decode prog_14_method_7_code 183 = .ok (.aload_n 0, 1) := by decide +kernel
theorem d_Mo_draw_184 : decode prog_14_method_7_code 184 = .ok (.dup, 1) := by decide +kernel
theorem d_Mo_draw_185 : decode prog_14_method_7_code 185 = .ok (.getfield 108, 3) := by decide +kernel
theorem d_Mo_draw_188 : decode prog_14_method_7_code 188 = .ok (.iconst 1, 1) := by decide +kernel
theorem d_Mo_draw_189 : decode prog_14_method_7_code 189 = .ok (.iadd, 1) := by decide +kernel
theorem d_Mo_draw_190 : decode prog_14_method_7_code 190 = .ok (.putfield 108, 3) := by decide +kernel
theorem d_Mo_draw_193 : decode prog_14_method_7_code 193 = .ok (.iload_n 3, 1) := by decide +kernel
theorem d_Mo_draw_194 : decode prog_14_method_7_code 194 = .ok (.ireturn, 1) := by decide +kernel
theorem d_Mo_keep_0 : decode prog_14_method_11_code 0 = .ok (.iconst 0, 1) := by decide +kernel
theorem d_Mo_keep_1 : decode prog_14_method_11_code 1 = .ok (.istore 4, 2) := by decide +kernel
theorem d_Mo_keep_3 : decode prog_14_method_11_code 3 = .ok (.aload_n 0, 1) := by decide +kernel
theorem d_Mo_keep_4 : decode prog_14_method_11_code 4 = .ok (.getfield 52, 3) := by decide +kernel
theorem d_Mo_keep_7 : decode prog_14_method_11_code 7 = .ok (.iload_n 1, 1) := by decide +kernel
theorem d_Mo_keep_8 : decode prog_14_method_11_code 8 = .ok (.iaload, 1) := by decide +kernel
theorem d_Mo_keep_9 : decode prog_14_method_11_code 9 = .ok (.istore 5, 2) := by decide +kernel
theorem d_Mo_keep_11 : decode prog_14_method_11_code 11 = .ok (.iload 5, 2) := by decide +kernel
theorem d_Mo_keep_13 : decode prog_14_method_11_code 13 = .ok (.aload_n 0, 1) := by decide +kernel
theorem d_Mo_keep_14 : decode prog_14_method_11_code 14 = .ok (.getfield 124, 3) := by decide +kernel
theorem d_Mo_keep_17 : decode prog_14_method_11_code 17 = .ok (.if_icmp .ge 21, 3) := by decide +kernel
theorem d_Mo_keep_20 : decode prog_14_method_11_code 20 = .ok (.iload 4, 2) := by decide +kernel
theorem d_Mo_keep_22 : decode prog_14_method_11_code 22 = .ok (.aload_n 0, 1) := by decide +kernel
theorem d_Mo_keep_23 : decode prog_14_method_11_code 23 = .ok (.getfield 40, 3) := by decide +kernel
theorem d_Mo_keep_26 : decode prog_14_method_11_code 26 = .ok (.iload 5, 2) := by decide +kernel
theorem d_Mo_keep_28 : decode prog_14_method_11_code 28 = .ok (.iaload, 1) := by decide +kernel
theorem d_Mo_keep_29 : decode prog_14_method_11_code 29 = .ok (.iadd, 1) := by decide +kernel
theorem d_Mo_keep_30 : decode prog_14_method_11_code 30 = .ok (.istore 4, 2) := by decide +kernel
theorem d_Mo_keep_32 : decode prog_14_method_11_code 32 = .ok (.iinc 5 1, 3) := by decide +kernel
theorem d_Mo_keep_35 : decode prog_14_method_11_code 35 = .ok (.goto (-24), 3) := by decide +kernel
theorem d_Mo_keep_38 : decode prog_14_method_11_code 38 = .ok (.aload_n 0, 1) := by decide +kernel
theorem d_Mo_keep_39 : decode prog_14_method_11_code 39 = .ok (.getfield 46, 3) := by decide +kernel
theorem d_Mo_keep_42 : decode prog_14_method_11_code 42 = .ok (.iload_n 1, 1) := by decide +kernel
theorem d_Mo_keep_43 : decode prog_14_method_11_code 43 = .ok (.iaload, 1) := by decide +kernel
theorem d_Mo_keep_44 : decode prog_14_method_11_code 44 = .ok (.iconst 1, 1) := by decide +kernel
theorem d_Mo_keep_45 : decode prog_14_method_11_code 45 = .ok (.if_icmp .le 22, 3) := by decide +kernel
theorem d_Mo_keep_48 : decode prog_14_method_11_code 48 = .ok (.iload 4, 2) := by decide +kernel
theorem d_Mo_keep_50 : decode prog_14_method_11_code 50 = .ok (.iconst 1, 1) := by decide +kernel
theorem d_Mo_keep_51 : decode prog_14_method_11_code 51 = .ok (.iand, 1) := by decide +kernel
theorem d_Mo_keep_52 : decode prog_14_method_11_code 52 = .ok (.iload_n 3, 1) := by decide +kernel
theorem d_Mo_keep_53 : decode prog_14_method_11_code 53 = .ok (.if_icmp .ne 14, 3) := by decide +kernel
theorem d_Mo_keep_56 : decode prog_14_method_11_code 56 = .ok (.aload_n 0, 1) := by decide +kernel
theorem d_Mo_keep_57 : decode prog_14_method_11_code 57 = .ok (.dup, 1) := by decide +kernel
theorem d_Mo_keep_58 : decode prog_14_method_11_code 58 = .ok (.getfield 121, 3) := by decide +kernel
theorem d_Mo_keep_61 : decode prog_14_method_11_code 61 = .ok (.iconst 1, 1) := by decide +kernel
theorem d_Mo_keep_62 : decode prog_14_method_11_code 62 = .ok (.isub, 1) := by decide +kernel
theorem d_Mo_keep_63 : decode prog_14_method_11_code 63 = .ok (.putfield 121, 3) := by decide +kernel
theorem d_Mo_keep_66 : decode prog_14_method_11_code 66 = .ok (.return_, 1) := by decide +kernel
theorem d_Mo_keep_67 : decode prog_14_method_11_code 67 = .ok (.aload_n 0, 1) := by decide +kernel
theorem d_Mo_keep_68 : decode prog_14_method_11_code 68 = .ok (.aload_n 0, 1) := by decide +kernel
theorem d_Mo_keep_69 : decode prog_14_method_11_code 69 = .ok (.getfield 52, 3) := by decide +kernel
theorem d_Mo_keep_72 : decode prog_14_method_11_code 72 = .ok (.iload_n 1, 1) := by decide +kernel
theorem d_Mo_keep_73 : decode prog_14_method_11_code 73 = .ok (.iaload, 1) := by decide +kernel
theorem d_Mo_keep_74 : decode prog_14_method_11_code 74 = .ok (.putfield 124, 3) := by decide +kernel
theorem d_Mo_keep_77 : decode prog_14_method_11_code 77 = .ok (.aload_n 0, 1) := by decide +kernel
theorem d_Mo_keep_78 : decode prog_14_method_11_code 78 = .ok (.getfield 46, 3) := by decide +kernel
theorem d_Mo_keep_81 : decode prog_14_method_11_code 81 = .ok (.iload_n 1, 1) := by decide +kernel
theorem d_Mo_keep_82 : decode prog_14_method_11_code 82 = .ok (.iaload, 1) := by decide +kernel
theorem d_Mo_keep_83 : decode prog_14_method_11_code 83 = .ok (.iconst 4, 1) := by decide +kernel
theorem d_Mo_keep_84 : decode prog_14_method_11_code 84 = .ok (.if_icmp .ne 11, 3) := by decide +kernel
theorem d_Mo_keep_87 : decode prog_14_method_11_code 87 = .ok (.aload_n 0, 1) := by decide +kernel
theorem d_Mo_keep_88 : decode prog_14_method_11_code 88 = .ok (.iconst 1, 1) := by decide +kernel
theorem d_Mo_keep_89 : decode prog_14_method_11_code 89 = .ok (.putfield 114, 3) := by decide +kernel
theorem d_Mo_keep_92 : decode prog_14_method_11_code 92 = .ok (.goto 8, 3) := by decide +kernel
theorem d_Mo_keep_95 : decode prog_14_method_11_code 95 = .ok (.aload_n 0, 1) := by decide +kernel
theorem d_Mo_keep_96 : decode prog_14_method_11_code 96 = .ok (.iload_n 2, 1) := by decide +kernel
theorem d_Mo_keep_97 : decode prog_14_method_11_code 97 = .ok (.invokevirtual 127, 3) := by decide +kernel
theorem d_Mo_keep_100 : decode prog_14_method_11_code 100 = .ok (.return_, 1) := by decide +kernel
theorem d_Mo_does_0 : decode prog_14_method_12_code 0 = .ok (.aload_n 0, 1) := by decide +kernel
theorem d_Mo_does_1 : decode prog_14_method_12_code 1 = .ok (.getfield 114, 3) := by decide +kernel
theorem d_Mo_does_4 : decode prog_14_method_12_code 4 = .ok (.ifCond .eq 5, 3) := by decide +kernel
theorem d_Mo_does_7 : decode prog_14_method_12_code 7 = .ok (.iconst 4, 1) := by decide +kernel
theorem d_Mo_does_8 : decode prog_14_method_12_code 8 = .ok (.ireturn, 1) := by decide +kernel
theorem d_Mo_does_9 : decode prog_14_method_12_code 9 = .ok (.aload_n 0, 1) := by decide +kernel
theorem d_Mo_does_10 : decode prog_14_method_12_code 10 = .ok (.getfield 124, 3) := by decide +kernel
theorem d_Mo_does_13 : decode prog_14_method_12_code 13 = .ok (.aload_n 0, 1) := by decide +kernel
theorem d_Mo_does_14 : decode prog_14_method_12_code 14 = .ok (.getfield 28, 3) := by decide +kernel
theorem d_Mo_does_17 : decode prog_14_method_12_code 17 = .ok (.iload_n 1, 1) := by decide +kernel
theorem d_Mo_does_18 : decode prog_14_method_12_code 18 = .ok (.iaload, 1) := by decide +kernel
theorem d_Mo_does_19 : decode prog_14_method_12_code 19 = .ok (.if_icmp .ge 5, 3) := by decide +kernel
theorem d_Mo_does_22 : decode prog_14_method_12_code 22 = .ok (.iconst 3, 1) := by decide +kernel
theorem d_Mo_does_23 : decode prog_14_method_12_code 23 = .ok (.ireturn, 1) := by decide +kernel
theorem d_Mo_does_24 : decode prog_14_method_12_code 24 = .ok (.aload_n 0, 1) := by decide +kernel
theorem d_Mo_does_25 : decode prog_14_method_12_code 25 = .ok (.getfield 25, 3) := by decide +kernel
theorem d_Mo_does_28 : decode prog_14_method_12_code 28 = .ok (.iload_n 1, 1) := by decide +kernel
theorem d_Mo_does_29 : decode prog_14_method_12_code 29 = .ok (.iaload, 1) := by decide +kernel
theorem d_Mo_does_30 : decode prog_14_method_12_code 30 = .ok (.istore_n 2, 1) := by decide +kernel
theorem d_Mo_does_31 : decode prog_14_method_12_code 31 = .ok (.lconst 0, 1) := by decide +kernel
theorem d_Mo_does_32 : decode prog_14_method_12_code 32 = .ok (.lstore_n 3, 1) := by decide +kernel
theorem d_Mo_does_33 : decode prog_14_method_12_code 33 = .ok (.iconst 0, 1) := by decide +kernel
theorem d_Mo_does_34 : decode prog_14_method_12_code 34 = .ok (.istore 5, 2) := by decide +kernel
theorem d_Mo_does_36 : decode prog_14_method_12_code 36 = .ok (.iconst 0, 1) := by decide +kernel
theorem d_Mo_does_37 : decode prog_14_method_12_code 37 = .ok (.istore 6, 2) := by decide +kernel
theorem d_Mo_does_39 : decode prog_14_method_12_code 39 = .ok (.iconst 0, 1) := by decide +kernel
theorem d_Mo_does_40 : decode prog_14_method_12_code 40 = .ok (.istore 7, 2) := by decide +kernel
theorem d_Mo_does_42 : decode prog_14_method_12_code 42 = .ok (.iload 7, 2) := by decide +kernel
theorem d_Mo_does_44 : decode prog_14_method_12_code 44 = .ok (.aload_n 0, 1) := by decide +kernel
theorem d_Mo_does_45 : decode prog_14_method_12_code 45 = .ok (.getfield 124, 3) := by decide +kernel
theorem d_Mo_does_48 : decode prog_14_method_12_code 48 = .ok (.if_icmp .ge 79, 3) := by decide +kernel
theorem d_Mo_does_51 : decode prog_14_method_12_code 51 = .ok (.lload_n 3, 1) := by decide +kernel
theorem d_Mo_does_52 : decode prog_14_method_12_code 52 = .ok (.aload_n 0, 1) := by decide +kernel
theorem d_Mo_does_53 : decode prog_14_method_12_code 53 = .ok (.getfield 40, 3) := by decide +kernel
theorem d_Mo_does_56 : decode prog_14_method_12_code 56 = .ok (.iload 7, 2) := by decide +kernel
theorem d_Mo_does_58 : decode prog_14_method_12_code 58 = .ok (.iaload, 1) := by decide +kernel
theorem d_Mo_does_59 : decode prog_14_method_12_code 59 = .ok (.i2l, 1) := by decide +kernel
theorem d_Mo_does_60 : decode prog_14_method_12_code 60 = .ok (.ladd, 1) := by decide +kernel
theorem d_Mo_does_61 : decode prog_14_method_12_code 61 = .ok (.lstore_n 3, 1) := by decide +kernel
theorem d_Mo_does_62 : decode prog_14_method_12_code 62 = .ok (.iload 5, 2) := by decide +kernel
theorem d_Mo_does_64 : decode prog_14_method_12_code 64 = .ok (.ifCond .ne 14, 3) := by decide +kernel
theorem d_Mo_does_67 : decode prog_14_method_12_code 67 = .ok (.aload_n 0, 1) := by decide +kernel
theorem d_Mo_does_68 : decode prog_14_method_12_code 68 = .ok (.getfield 40, 3) := by decide +kernel
theorem d_Mo_does_71 : decode prog_14_method_12_code 71 = .ok (.iload 7, 2) := by decide +kernel
theorem d_Mo_does_73 : decode prog_14_method_12_code 73 = .ok (.iaload, 1) := by decide +kernel
theorem d_Mo_does_74 : decode prog_14_method_12_code 74 = .ok (.iload_n 2, 1) := by decide +kernel
theorem d_Mo_does_75 : decode prog_14_method_12_code 75 = .ok (.if_icmp .ne 7, 3) := by decide +kernel
theorem d_Mo_does_78 : decode prog_14_method_12_code 78 = .ok (.iconst 1, 1) := by decide +kernel
theorem d_Mo_does_79 : decode prog_14_method_12_code 79 = .ok (.goto 4, 3) := by decide +kernel
theorem d_Mo_does_82 : decode prog_14_method_12_code 82 = .ok (.iconst 0, 1) := by decide +kernel
theorem d_Mo_does_83 : decode prog_14_method_12_code 83 = .ok (.istore 5, 2) := by decide +kernel
theorem d_Mo_does_85 : decode prog_14_method_12_code 85 = .ok (.iload 6, 2) := by decide +kernel
theorem d_Mo_does_87 : decode prog_14_method_12_code 87 = .ok (.ifCond .ne 27, 3) := by decide +kernel
theorem d_Mo_does_90 : decode prog_14_method_12_code 90 = .ok (.iload 7, 2) := by decide +kernel
theorem d_Mo_does_92 : decode prog_14_method_12_code 92 = .ok (.ifCond .le 26, 3) := by decide +kernel
theorem d_Mo_does_95 : decode prog_14_method_12_code 95 = .ok (.aload_n 0, 1) := by decide +kernel
theorem d_Mo_does_96 : decode prog_14_method_12_code 96 = .ok (.getfield 40, 3) := by decide +kernel
theorem d_Mo_does_99 : decode prog_14_method_12_code 99 = .ok (.iload 7, 2) := by decide +kernel
theorem d_Mo_does_101 : decode prog_14_method_12_code 101 = .ok (.iaload, 1) := by decide +kernel
theorem d_Mo_does_102 : decode prog_14_method_12_code 102 = .ok (.aload_n 0, 1) := by decide +kernel
theorem d_Mo_does_103 : decode prog_14_method_12_code 103 = .ok (.getfield 40, 3) := by decide +kernel
theorem d_Mo_does_106 : decode prog_14_method_12_code 106 = .ok (.iload 7, 2) := by decide +kernel
theorem d_Mo_does_108 : decode prog_14_method_12_code 108 = .ok (.iconst 1, 1) := by decide +kernel
theorem d_Mo_does_109 : decode prog_14_method_12_code 109 = .ok (.isub, 1) := by decide +kernel
theorem d_Mo_does_110 : decode prog_14_method_12_code 110 = .ok (.iaload, 1) := by decide +kernel
theorem d_Mo_does_111 : decode prog_14_method_12_code 111 = .ok (.if_icmp .ge 7, 3) := by decide +kernel
theorem d_Mo_does_114 : decode prog_14_method_12_code 114 = .ok (.iconst 1, 1) := by decide +kernel
theorem d_Mo_does_115 : decode prog_14_method_12_code 115 = .ok (.goto 4, 3) := by decide +kernel
theorem d_Mo_does_118 : decode prog_14_method_12_code 118 = .ok (.iconst 0, 1) := by decide +kernel
theorem d_Mo_does_119 : decode prog_14_method_12_code 119 = .ok (.istore 6, 2) := by decide +kernel
theorem d_Mo_does_121 : decode prog_14_method_12_code 121 = .ok (.iinc 7 1, 3) := by decide +kernel
theorem d_Mo_does_124 : decode prog_14_method_12_code 124 = .ok (.goto (-82), 3) := by decide +kernel
theorem d_Mo_does_127 : decode prog_14_method_12_code 127 = .ok (.aload_n 0, 1) := by decide +kernel
theorem d_Mo_does_128 : decode prog_14_method_12_code 128 = .ok (.getfield 22, 3) := by decide +kernel
theorem d_Mo_does_131 : decode prog_14_method_12_code 131 = .ok (.iload_n 1, 1) := by decide +kernel
theorem d_Mo_does_132 : decode prog_14_method_12_code 132 = .ok (.iaload, 1) := by decide +kernel
theorem d_Mo_does_133 : decode prog_14_method_12_code 133 = .ok (.tableswitch 80 0 3 #[31, 44, 55, 66], 31) := by decide +kernel
theorem d_Mo_does_164 : decode prog_14_method_12_code 164 = .ok (.lload_n 3, 1) := by decide +kernel
theorem d_Mo_does_165 : decode prog_14_method_12_code 165 = .ok (.iload_n 2, 1) := by decide +kernel
theorem d_Mo_does_166 : decode prog_14_method_12_code 166 = .ok (.i2l, 1) := by decide +kernel
theorem d_Mo_does_167 : decode prog_14_method_12_code 167 = .ok (.lcmp, 1) := by decide +kernel
theorem d_Mo_does_168 : decode prog_14_method_12_code 168 = .ok (.ifCond .le 7, 3) := by decide +kernel
theorem d_Mo_does_171 : decode prog_14_method_12_code 171 = .ok (.iconst 1, 1) := by decide +kernel
theorem d_Mo_does_172 : decode prog_14_method_12_code 172 = .ok (.goto 4, 3) := by decide +kernel
theorem d_Mo_does_175 : decode prog_14_method_12_code 175 = .ok (.iconst 0, 1) := by decide +kernel
theorem d_Mo_does_176 : decode prog_14_method_12_code 176 = .ok (.ireturn, 1) := by decide +kernel
theorem d_Mo_does_177 : decode prog_14_method_12_code 177 = .ok (.iload 5, 2) := by decide +kernel
theorem d_Mo_does_179 : decode prog_14_method_12_code 179 = .ok (.ifCond .eq 7, 3) := by decide +kernel
theorem d_Mo_does_182 : decode prog_14_method_12_code 182 = .ok (.iconst 1, 1) := by decide +kernel
theorem d_Mo_does_183 : decode prog_14_method_12_code 183 = .ok (.goto 4, 3) := by decide +kernel
theorem d_Mo_does_186 : decode prog_14_method_12_code 186 = .ok (.iconst 0, 1) := by decide +kernel
theorem d_Mo_does_187 : decode prog_14_method_12_code 187 = .ok (.ireturn, 1) := by decide +kernel
theorem d_Mo_does_188 : decode prog_14_method_12_code 188 = .ok (.iload 6, 2) := by decide +kernel
theorem d_Mo_does_190 : decode prog_14_method_12_code 190 = .ok (.ifCond .eq 7, 3) := by decide +kernel
theorem d_Mo_does_193 : decode prog_14_method_12_code 193 = .ok (.iconst 1, 1) := by decide +kernel
theorem d_Mo_does_194 : decode prog_14_method_12_code 194 = .ok (.goto 4, 3) := by decide +kernel
theorem d_Mo_does_197 : decode prog_14_method_12_code 197 = .ok (.iconst 0, 1) := by decide +kernel
theorem d_Mo_does_198 : decode prog_14_method_12_code 198 = .ok (.ireturn, 1) := by decide +kernel
theorem d_Mo_does_199 : decode prog_14_method_12_code 199 = .ok (.aload_n 0, 1) := by decide +kernel
theorem d_Mo_does_200 : decode prog_14_method_12_code 200 = .ok (.getfield 124, 3) := by decide +kernel
theorem d_Mo_does_203 : decode prog_14_method_12_code 203 = .ok (.iload_n 2, 1) := by decide +kernel
theorem d_Mo_does_204 : decode prog_14_method_12_code 204 = .ok (.if_icmp .lt 7, 3) := by decide +kernel
theorem d_Mo_does_207 : decode prog_14_method_12_code 207 = .ok (.iconst 1, 1) := by decide +kernel
theorem d_Mo_does_208 : decode prog_14_method_12_code 208 = .ok (.goto 4, 3) := by decide +kernel
theorem d_Mo_does_211 : decode prog_14_method_12_code 211 = .ok (.iconst 0, 1) := by decide +kernel
theorem d_Mo_does_212 : decode prog_14_method_12_code 212 = .ok (.ireturn, 1) := by decide +kernel
theorem d_Mo_does_213 : decode prog_14_method_12_code 213 = .ok (.iload 5, 2) := by decide +kernel
theorem d_Mo_does_215 : decode prog_14_method_12_code 215 = .ok (.ifCond .eq 7, 3) := by decide +kernel
theorem d_Mo_does_218 : decode prog_14_method_12_code 218 = .ok (.iconst 2, 1) := by decide +kernel
theorem d_Mo_does_219 : decode prog_14_method_12_code 219 = .ok (.goto 4, 3) := by decide +kernel
theorem d_Mo_does_222 : decode prog_14_method_12_code 222 = .ok (.iconst 0, 1) := by decide +kernel
theorem d_Mo_does_223 : decode prog_14_method_12_code 223 = .ok (.ireturn, 1) := by decide +kernel
theorem d_Mo_isBad_0 : decode prog_14_method_13_code 0 = .ok (.iload_n 0, 1) := by decide +kernel
theorem d_Mo_isBad_1 : decode prog_14_method_13_code 1 = .ok (.iconst 1, 1) := by decide +kernel
theorem d_Mo_isBad_2 : decode prog_14_method_13_code 2 = .ok (.if_icmp .eq 8, 3) := by decide +kernel
theorem d_Mo_isBad_5 : decode prog_14_method_13_code 5 = .ok (.iload_n 0, 1) := by decide +kernel
theorem d_Mo_isBad_6 : decode prog_14_method_13_code 6 = .ok (.iconst 2, 1) := by decide +kernel
theorem d_Mo_isBad_7 : decode prog_14_method_13_code 7 = .ok (.if_icmp .ne 7, 3) := by decide +kernel
theorem d_Mo_isBad_10 : decode prog_14_method_13_code 10 = .ok (.iconst 1, 1) := by decide +kernel
theorem d_Mo_isBad_11 : decode prog_14_method_13_code 11 = .ok (.goto 4, 3) := by decide +kernel
theorem d_Mo_isBad_14 : decode prog_14_method_13_code 14 = .ok (.iconst 0, 1) := by decide +kernel
theorem d_Mo_isBad_15 : decode prog_14_method_13_code 15 = .ok (.ireturn, 1) := by decide +kernel
theorem d_Mo_find_0 : decode prog_14_method_15_code 0 = .ok (.aload_n 0, 1) := by decide +kernel
theorem d_Mo_find_1 : decode prog_14_method_15_code 1 = .ok (.aload_n 0, 1) := by decide +kernel
theorem d_Mo_find_2 : decode prog_14_method_15_code 2 = .ok (.getfield 108, 3) := by decide +kernel
theorem d_Mo_find_5 : decode prog_14_method_15_code 5 = .ok (.putfield 55, 3) := by decide +kernel
theorem d_Mo_find_8 : decode prog_14_method_15_code 8 = .ok (.aload_n 0, 1) := by decide +kernel
theorem d_Mo_find_9 : decode prog_14_method_15_code 9 = .ok (.iload_n 1, 1) := by decide +kernel
theorem d_Mo_find_10 : decode prog_14_method_15_code 10 = .ok (.putfield 146, 3) := by decide +kernel
theorem d_Mo_find_13 : decode prog_14_method_15_code 13 = .ok (.aload_n 0, 1) := by decide +kernel
theorem d_Mo_find_14 : decode prog_14_method_15_code 14 = .ok (.iload_n 2, 1) := by decide +kernel
theorem d_Mo_find_15 : decode prog_14_method_15_code 15 = .ok (.putfield 149, 3) := by decide +kernel
theorem d_Mo_find_18 : decode prog_14_method_15_code 18 = .ok (.aload_n 0, 1) := by decide +kernel
theorem d_Mo_find_19 : decode prog_14_method_15_code 19 = .ok (.iload_n 3, 1) := by decide +kernel
theorem d_Mo_find_20 : decode prog_14_method_15_code 20 = .ok (.putfield 152, 3) := by decide +kernel
theorem d_Mo_find_23 : decode prog_14_method_15_code 23 = .ok (.iconst 0, 1) := by decide +kernel
theorem d_Mo_find_24 : decode prog_14_method_15_code 24 = .ok (.istore 4, 2) := by decide +kernel
theorem d_Mo_find_26 : decode prog_14_method_15_code 26 = .ok (.iload 4, 2) := by decide +kernel
theorem d_Mo_find_28 : decode prog_14_method_15_code 28 = .ok (.aload_n 0, 1) := by decide +kernel
theorem d_Mo_find_29 : decode prog_14_method_15_code 29 = .ok (.getfield 108, 3) := by decide +kernel
theorem d_Mo_find_32 : decode prog_14_method_15_code 32 = .ok (.if_icmp .ge 23, 3) := by decide +kernel
theorem d_Mo_find_35 : decode prog_14_method_15_code 35 = .ok (.aload_n 0, 1) := by decide +kernel
theorem d_Mo_find_36 : decode prog_14_method_15_code 36 = .ok (.getfield 59, 3) := by decide +kernel
theorem d_Mo_find_39 : decode prog_14_method_15_code 39 = .ok (.iload 4, 2) := by decide +kernel
theorem d_Mo_find_41 : decode prog_14_method_15_code 41 = .ok (.aload_n 0, 1) := by decide +kernel
theorem d_Mo_find_42 : decode prog_14_method_15_code 42 = .ok (.getfield 34, 3) := by decide +kernel
theorem d_Mo_find_45 : decode prog_14_method_15_code 45 = .ok (.iload 4, 2) := by decide +kernel
theorem d_Mo_find_47 : decode prog_14_method_15_code 47 = .ok (.iaload, 1) := by decide +kernel
theorem d_Mo_find_48 : decode prog_14_method_15_code 48 = .ok (.iastore, 1) := by decide +kernel
theorem d_Mo_find_49 : decode prog_14_method_15_code 49 = .ok (.iinc 4 1, 3) := by decide +kernel
theorem d_Mo_find_52 : decode prog_14_method_15_code 52 = .ok (.goto (-26), 3) := by decide +kernel
theorem d_Mo_find_55 : decode prog_14_method_15_code 55 = .ok (.aload_n 0, 1) := by decide +kernel
theorem d_Mo_find_56 : decode prog_14_method_15_code 56 = .ok (.invokevirtual 155, 3) := by decide +kernel
theorem d_Mo_find_59 : decode prog_14_method_15_code 59 = .ok (.return_, 1) := by decide +kernel
theorem d_Mo_tell_0 : decode prog_14_method_14_code 0 = .ok (.aload_n 0, 1) := by decide +kernel
theorem d_Mo_tell_1 : decode prog_14_method_14_code 1 = .ok (.aload_n 0, 1) := by decide +kernel
theorem d_Mo_tell_2 : decode prog_14_method_14_code 2 = .ok (.getfield 114, 3) := by decide +kernel
theorem d_Mo_tell_5 : decode prog_14_method_14_code 5 = .ok (.ifCond .eq 7, 3) := by decide +kernel
theorem d_Mo_tell_8 : decode prog_14_method_14_code 8 = .ok (.iconst 0, 1) := by decide +kernel
theorem d_Mo_tell_9 : decode prog_14_method_14_code 9 = .ok (.goto 7, 3) := by decide +kernel
theorem d_Mo_tell_12 : decode prog_14_method_14_code 12 = .ok (.aload_n 0, 1) := by decide +kernel
theorem d_Mo_tell_13 : decode prog_14_method_14_code 13 = .ok (.getfield 124, 3) := by decide +kernel
theorem d_Mo_tell_16 : decode prog_14_method_14_code 16 = .ok (.putfield 143, 3) := by decide +kernel
theorem d_Mo_tell_19 : decode prog_14_method_14_code 19 = .ok (.iconst 0, 1) := by decide +kernel
theorem d_Mo_tell_20 : decode prog_14_method_14_code 20 = .ok (.istore_n 1, 1) := by decide +kernel
theorem d_Mo_tell_21 : decode prog_14_method_14_code 21 = .ok (.iload_n 1, 1) := by decide +kernel
theorem d_Mo_tell_22 : decode prog_14_method_14_code 22 = .ok (.aload_n 0, 1) := by decide +kernel
theorem d_Mo_tell_23 : decode prog_14_method_14_code 23 = .ok (.getfield 143, 3) := by decide +kernel
theorem d_Mo_tell_26 : decode prog_14_method_14_code 26 = .ok (.if_icmp .ge 21, 3) := by decide +kernel
theorem d_Mo_tell_29 : decode prog_14_method_14_code 29 = .ok (.aload_n 0, 1) := by decide +kernel
theorem d_Mo_tell_30 : decode prog_14_method_14_code 30 = .ok (.getfield 74, 3) := by decide +kernel
theorem d_Mo_tell_33 : decode prog_14_method_14_code 33 = .ok (.iload_n 1, 1) := by decide +kernel
theorem d_Mo_tell_34 : decode prog_14_method_14_code 34 = .ok (.aload_n 0, 1) := by decide +kernel
theorem d_Mo_tell_35 : decode prog_14_method_14_code 35 = .ok (.getfield 40, 3) := by decide +kernel
theorem d_Mo_tell_38 : decode prog_14_method_14_code 38 = .ok (.iload_n 1, 1) := by decide +kernel
theorem d_Mo_tell_39 : decode prog_14_method_14_code 39 = .ok (.iaload, 1) := by decide +kernel
theorem d_Mo_tell_40 : decode prog_14_method_14_code 40 = .ok (.iastore, 1) := by decide +kernel
theorem d_Mo_tell_41 : decode prog_14_method_14_code 41 = .ok (.iinc 1 1, 3) := by decide +kernel
theorem d_Mo_tell_44 : decode prog_14_method_14_code 44 = .ok (.goto (-23), 3) := by decide +kernel
theorem d_Mo_tell_47 : decode prog_14_method_14_code 47 = .ok (.return_, 1) := by decide +kernel
theorem d_Mo_keepRow_0 : decode prog_14_method_17_code 0 = .ok (.aload_n 0, 1) := by decide +kernel
theorem d_Mo_keepRow_1 : decode prog_14_method_17_code 1 = .ok (.getfield 62, 3) := by decide +kernel
theorem d_Mo_keepRow_4 : decode prog_14_method_17_code 4 = .ok (.aload_n 0, 1) := by decide +kernel
theorem d_Mo_keepRow_5 : decode prog_14_method_17_code 5 = .ok (.getfield 158, 3) := by decide +kernel
theorem d_Mo_keepRow_8 : decode prog_14_method_17_code 8 = .ok (.aload_n 0, 1) := by decide +kernel
theorem d_Mo_keepRow_9 : decode prog_14_method_17_code 9 = .ok (.getfield 146, 3) := by decide +kernel
theorem d_Mo_keepRow_12 : decode prog_14_method_17_code 12 = .ok (.iastore, 1) := by decide +kernel
theorem d_Mo_keepRow_13 : decode prog_14_method_17_code 13 = .ok (.aload_n 0, 1) := by decide +kernel
theorem d_Mo_keepRow_14 : decode prog_14_method_17_code 14 = .ok (.getfield 65, 3) := by decide +kernel
theorem d_Mo_keepRow_17 : decode prog_14_method_17_code 17 = .ok (.aload_n 0, 1) := by decide +kernel
theorem d_Mo_keepRow_18 : decode prog_14_method_17_code 18 = .ok (.getfield 158, 3) := by decide +kernel
theorem d_Mo_keepRow_21 : decode prog_14_method_17_code 21 = .ok (.aload_n 0, 1) := by decide +kernel
theorem d_Mo_keepRow_22 : decode prog_14_method_17_code 22 = .ok (.getfield 149, 3) := by decide +kernel
theorem d_Mo_keepRow_25 : decode prog_14_method_17_code 25 = .ok (.iastore, 1) := by decide +kernel
theorem d_Mo_keepRow_26 : decode prog_14_method_17_code 26 = .ok (.aload_n 0, 1) := by decide +kernel
theorem d_Mo_keepRow_27 : decode prog_14_method_17_code 27 = .ok (.getfield 68, 3) := by decide +kernel
theorem d_Mo_keepRow_30 : decode prog_14_method_17_code 30 = .ok (.aload_n 0, 1) := by decide +kernel
theorem d_Mo_keepRow_31 : decode prog_14_method_17_code 31 = .ok (.getfield 158, 3) := by decide +kernel
theorem d_Mo_keepRow_34 : decode prog_14_method_17_code 34 = .ok (.aload_n 0, 1) := by decide +kernel
theorem d_Mo_keepRow_35 : decode prog_14_method_17_code 35 = .ok (.getfield 55, 3) := by decide +kernel
theorem d_Mo_keepRow_38 : decode prog_14_method_17_code 38 = .ok (.iastore, 1) := by decide +kernel
theorem d_Mo_keepRow_39 : decode prog_14_method_17_code 39 = .ok (.iconst 0, 1) := by decide +kernel
theorem d_Mo_keepRow_40 : decode prog_14_method_17_code 40 = .ok (.istore_n 1, 1) := by decide +kernel
theorem d_Mo_keepRow_41 : decode prog_14_method_17_code 41 = .ok (.iload_n 1, 1) := by decide +kernel
end
section
/-! decode rows -/
theorem d_Mo_keepRow_42 : decode prog_14_method_17_code 42 = .ok (.aload_n 0, 1) := by decide +kernel
theorem d_Mo_keepRow_43 : decode prog_14_method_17_code 43 = .ok (.getfield 55, 3) := by decide +kernel
theorem d_Mo_keepRow_46 : decode prog_14_method_17_code 46 = .ok (.if_icmp .ge 29, 3) := by decide +kernel
theorem d_Mo_keepRow_49 : decode prog_14_method_17_code 49 = .ok (.aload_n 0, 1) := by decide +kernel
theorem d_Mo_keepRow_50 : decode prog_14_method_17_code 50 = .ok (.getfield 71, 3) := by decide +kernel
theorem d_Mo_keepRow_53 : decode prog_14_method_17_code 53 = .ok (.bipush 60, 2) := by decide +kernel
theorem d_Mo_keepRow_55 : decode prog_14_method_17_code 55 = .ok (.aload_n 0, 1) := by decide +kernel
theorem d_Mo_keepRow_56 : decode prog_14_method_17_code 56 = .ok (.getfield 158, 3) := by decide +kernel
theorem d_Mo_keepRow_59 : decode prog_14_method_17_code 59 = .ok (.imul, 1) := by decide +kernel
theorem d_Mo_keepRow_60 : decode prog_14_method_17_code 60 = .ok (.iload_n 1, 1) := by decide +kernel
theorem d_Mo_keepRow_61 : decode prog_14_method_17_code 61 = .ok (.iadd, 1) := by decide +kernel
theorem d_Mo_keepRow_62 : decode prog_14_method_17_code 62 = .ok (.aload_n 0, 1) := by decide +kernel
theorem d_Mo_keepRow_63 : decode prog_14_method_17_code 63 = .ok (.getfield 59, 3) := by decide +kernel
theorem d_Mo_keepRow_66 : decode prog_14_method_17_code 66 = .ok (.iload_n 1, 1) := by decide +kernel
theorem d_Mo_keepRow_67 : decode prog_14_method_17_code 67 = .ok (.iaload, 1) := by decide +kernel
theorem d_Mo_keepRow_68 : decode prog_14_method_17_code 68 = .ok (.iastore, 1) := by decide +kernel
theorem d_Mo_keepRow_69 : decode prog_14_method_17_code 69 = .ok (.iinc 1 1, 3) := by decide +kernel
theorem d_Mo_keepRow_72 : decode prog_14_method_17_code 72 = .ok (.goto (-31), 3) := by decide +kernel
theorem d_Mo_keepRow_75 : decode prog_14_method_17_code 75 = .ok (.aload_n 0, 1) := by decide +kernel
theorem d_Mo_keepRow_76 : decode prog_14_method_17_code 76 = .ok (.dup, 1) := by decide +kernel
theorem d_Mo_keepRow_77 : decode prog_14_method_17_code 77 = .ok (.getfield 158, 3) := by decide +kernel
theorem d_Mo_keepRow_80 : decode prog_14_method_17_code 80 = .ok (.iconst 1, 1) := by decide +kernel
theorem d_Mo_keepRow_81 : decode prog_14_method_17_code 81 = .ok (.iadd, 1) := by decide +kernel
theorem d_Mo_keepRow_82 : decode prog_14_method_17_code 82 = .ok (.putfield 158, 3) := by decide +kernel
theorem d_Mo_keepRow_85 : decode prog_14_method_17_code 85 = .ok (.return_, 1) := by decide +kernel
theorem d_Mo_shrink_0 : decode prog_14_method_22_code 0 = .ok (.aload_n 0, 1) := by decide +kernel
theorem d_Mo_shrink_1 : decode prog_14_method_22_code 1 = .ok (.iconst 0, 1) := by decide +kernel
theorem d_Mo_shrink_2 : decode prog_14_method_22_code 2 = .ok (.putfield 80, 3) := by decide +kernel
theorem d_Mo_shrink_5 : decode prog_14_method_22_code 5 = .ok (.aload_n 0, 1) := by decide +kernel
theorem d_Mo_shrink_6 : decode prog_14_method_22_code 6 = .ok (.getfield 55, 3) := by decide +kernel
theorem d_Mo_shrink_9 : decode prog_14_method_22_code 9 = .ok (.iconst (-1), 1) := by decide +kernel
theorem d_Mo_shrink_10 : decode prog_14_method_22_code 10 = .ok (.if_icmp .eq 14, 3) := by decide +kernel
theorem d_Mo_shrink_13 : decode prog_14_method_22_code 13 = .ok (.iload_n 1, 1) := by decide +kernel
theorem d_Mo_shrink_14 : decode prog_14_method_22_code 14 = .ok (.ifCond .lt 10, 3) := by decide +kernel
theorem d_Mo_shrink_17 : decode prog_14_method_22_code 17 = .ok (.iload_n 1, 1) := by decide +kernel
theorem d_Mo_shrink_18 : decode prog_14_method_22_code 18 = .ok (.sipush 400, 3) := by decide +kernel
theorem d_Mo_shrink_21 : decode prog_14_method_22_code 21 = .ok (.if_icmp .le 5, 3) := by decide +kernel
theorem d_Mo_shrink_24 : decode prog_14_method_22_code 24 = .ok (.iconst (-1), 1) := by decide +kernel
theorem d_Mo_shrink_25 : decode prog_14_method_22_code 25 = .ok (.ireturn, 1) := by decide +kernel
theorem d_Mo_shrink_26 : decode prog_14_method_22_code 26 = .ok (.iconst 0, 1) := by decide +kernel
theorem d_Mo_shrink_27 : decode prog_14_method_22_code 27 = .ok (.istore_n 2, 1) := by decide +kernel
theorem d_Mo_shrink_28 : decode prog_14_method_22_code 28 = .ok (.iconst 0, 1) := by decide +kernel
theorem d_Mo_shrink_29 : decode prog_14_method_22_code 29 = .ok (.istore_n 3, 1) := by decide +kernel
theorem d_Mo_shrink_30 : decode prog_14_method_22_code 30 = .ok (.iconst 0, 1) := by decide +kernel
theorem d_Mo_shrink_31 : decode prog_14_method_22_code 31 = .ok (.istore 4, 2) := by decide +kernel
theorem d_Mo_shrink_33 : decode prog_14_method_22_code 33 = .ok (.iload 4, 2) := by decide +kernel
theorem d_Mo_shrink_35 : decode prog_14_method_22_code 35 = .ok (.iload_n 1, 1) := by decide +kernel
theorem d_Mo_shrink_36 : decode prog_14_method_22_code 36 = .ok (.if_icmp .ge 76, 3) := by decide +kernel
theorem d_Mo_shrink_39 : decode prog_14_method_22_code 39 = .ok (.aload_n 0, 1) := by decide +kernel
theorem d_Mo_shrink_40 : decode prog_14_method_22_code 40 = .ok (.iload_n 3, 1) := by decide +kernel
theorem d_Mo_shrink_41 : decode prog_14_method_22_code 41 = .ok (.invokevirtual 193, 3) := by decide +kernel
theorem d_Mo_shrink_44 : decode prog_14_method_22_code 44 = .ok (.ifCond .ne 11, 3) := by decide +kernel
theorem d_Mo_shrink_47 : decode prog_14_method_22_code 47 = .ok (.aload_n 0, 1) := by decide +kernel
theorem d_Mo_shrink_48 : decode prog_14_method_22_code 48 = .ok (.iconst 1, 1) := by decide +kernel
theorem d_Mo_shrink_49 : decode prog_14_method_22_code 49 = .ok (.putfield 181, 3) := by decide +kernel
theorem d_Mo_shrink_52 : decode prog_14_method_22_code 52 = .ok (.goto 60, 3) := by decide +kernel
theorem d_Mo_shrink_55 : decode prog_14_method_22_code 55 = .ok (.aload_n 0, 1) := by decide +kernel
theorem d_Mo_shrink_56 : decode prog_14_method_22_code 56 = .ok (.aload_n 0, 1) := by decide +kernel
theorem d_Mo_shrink_57 : decode prog_14_method_22_code 57 = .ok (.getfield 146, 3) := by decide +kernel
theorem d_Mo_shrink_60 : decode prog_14_method_22_code 60 = .ok (.iconst 0, 1) := by decide +kernel
theorem d_Mo_shrink_61 : decode prog_14_method_22_code 61 = .ok (.invokevirtual 161, 3) := by decide +kernel
theorem d_Mo_shrink_64 : decode prog_14_method_22_code 64 = .ok (.iinc 3 1, 3) := by decide +kernel
theorem d_Mo_shrink_67 : decode prog_14_method_22_code 67 = .ok (.aload_n 0, 1) := by decide +kernel
theorem d_Mo_shrink_68 : decode prog_14_method_22_code 68 = .ok (.aload_n 0, 1) := by decide +kernel
theorem d_Mo_shrink_69 : decode prog_14_method_22_code 69 = .ok (.getfield 149, 3) := by decide +kernel
theorem d_Mo_shrink_72 : decode prog_14_method_22_code 72 = .ok (.invokevirtual 164, 3) := by decide +kernel
theorem d_Mo_shrink_75 : decode prog_14_method_22_code 75 = .ok (.aload_n 0, 1) := by decide +kernel
theorem d_Mo_shrink_76 : decode prog_14_method_22_code 76 = .ok (.getfield 152, 3) := by decide +kernel
theorem d_Mo_shrink_79 : decode prog_14_method_22_code 79 = .ok (.if_icmp .eq 6, 3) := by decide +kernel
theorem d_Mo_shrink_82 : decode prog_14_method_22_code 82 = .ok (.goto 24, 3) := by decide +kernel
theorem d_Mo_shrink_85 : decode prog_14_method_22_code 85 = .ok (.aload_n 0, 1) := by decide +kernel
theorem d_Mo_shrink_86 : decode prog_14_method_22_code 86 = .ok (.aload_n 0, 1) := by decide +kernel
theorem d_Mo_shrink_87 : decode prog_14_method_22_code 87 = .ok (.getfield 146, 3) := by decide +kernel
theorem d_Mo_shrink_90 : decode prog_14_method_22_code 90 = .ok (.aload_n 0, 1) := by decide +kernel
theorem d_Mo_shrink_91 : decode prog_14_method_22_code 91 = .ok (.getfield 149, 3) := by decide +kernel
theorem d_Mo_shrink_94 : decode prog_14_method_22_code 94 = .ok (.aload_n 0, 1) := by decide +kernel
theorem d_Mo_shrink_95 : decode prog_14_method_22_code 95 = .ok (.getfield 152, 3) := by decide +kernel
theorem d_Mo_shrink_98 : decode prog_14_method_22_code 98 = .ok (.invokevirtual 171, 3) := by decide +kernel
theorem d_Mo_shrink_101 : decode prog_14_method_22_code 101 = .ok (.iinc 2 1, 3) := by decide +kernel
theorem d_Mo_shrink_104 : decode prog_14_method_22_code 104 = .ok (.iconst 0, 1) := by decide +kernel
theorem d_Mo_shrink_105 : decode prog_14_method_22_code 105 = .ok (.istore_n 3, 1) := by decide +kernel
theorem d_Mo_shrink_106 : decode prog_14_method_22_code 106 = .ok (.iinc 4 1, 3) := by decide +kernel
theorem d_Mo_shrink_109 : decode prog_14_method_22_code 109 = .ok (.goto (-76), 3) := by decide +kernel
theorem d_Mo_shrink_112 : decode prog_14_method_22_code 112 = .ok (.aload_n 0, 1) := by decide +kernel
theorem d_Mo_shrink_113 : decode prog_14_method_22_code 113 = .ok (.invokevirtual 190, 3) := by decide +kernel
theorem d_Mo_shrink_116 : decode prog_14_method_22_code 116 = .ok (.aload_n 0, 1) := by decide +kernel
theorem d_Mo_shrink_117 : decode prog_14_method_22_code 117 = .ok (.aload_n 0, 1) := by decide +kernel
theorem d_Mo_shrink_118 : decode prog_14_method_22_code 118 = .ok (.getfield 146, 3) := by decide +kernel
theorem d_Mo_shrink_121 : decode prog_14_method_22_code 121 = .ok (.iconst 0, 1) := by decide +kernel
theorem d_Mo_shrink_122 : decode prog_14_method_22_code 122 = .ok (.invokevirtual 161, 3) := by decide +kernel
theorem d_Mo_shrink_125 : decode prog_14_method_22_code 125 = .ok (.aload_n 0, 1) := by decide +kernel
theorem d_Mo_shrink_126 : decode prog_14_method_22_code 126 = .ok (.invokevirtual 155, 3) := by decide +kernel
theorem d_Mo_shrink_129 : decode prog_14_method_22_code 129 = .ok (.iload_n 2, 1) := by decide +kernel
theorem d_Mo_shrink_130 : decode prog_14_method_22_code 130 = .ok (.ireturn, 1) := by decide +kernel
theorem d_Mo_make_0 : decode prog_14_method_19_code 0 = .ok (.iload_n 1, 1) := by decide +kernel
theorem d_Mo_make_1 : decode prog_14_method_19_code 1 = .ok (.istore_n 2, 1) := by decide +kernel
theorem d_Mo_make_2 : decode prog_14_method_19_code 2 = .ok (.bipush 8, 2) := by decide +kernel
theorem d_Mo_make_4 : decode prog_14_method_19_code 4 = .ok (.istore_n 3, 1) := by decide +kernel
theorem d_Mo_make_5 : decode prog_14_method_19_code 5 = .ok (.iload_n 3, 1) := by decide +kernel
theorem d_Mo_make_6 : decode prog_14_method_19_code 6 = .ok (.ifCond .le 47, 3) := by decide +kernel
theorem d_Mo_make_9 : decode prog_14_method_19_code 9 = .ok (.aload_n 0, 1) := by decide +kernel
theorem d_Mo_make_10 : decode prog_14_method_19_code 10 = .ok (.getfield 55, 3) := by decide +kernel
theorem d_Mo_make_13 : decode prog_14_method_19_code 13 = .ok (.iload_n 3, 1) := by decide +kernel
theorem d_Mo_make_14 : decode prog_14_method_19_code 14 = .ok (.isub, 1) := by decide +kernel
theorem d_Mo_make_15 : decode prog_14_method_19_code 15 = .ok (.iconst 1, 1) := by decide +kernel
theorem d_Mo_make_16 : decode prog_14_method_19_code 16 = .ok (.iadd, 1) := by decide +kernel
theorem d_Mo_make_17 : decode prog_14_method_19_code 17 = .ok (.istore 4, 2) := by decide +kernel
theorem d_Mo_make_19 : decode prog_14_method_19_code 19 = .ok (.iload 4, 2) := by decide +kernel
theorem d_Mo_make_21 : decode prog_14_method_19_code 21 = .ok (.iload_n 2, 1) := by decide +kernel
theorem d_Mo_make_22 : decode prog_14_method_19_code 22 = .ok (.if_icmp .le 10, 3) := by decide +kernel
theorem d_Mo_make_25 : decode prog_14_method_19_code 25 = .ok (.aload_n 0, 1) := by decide +kernel
theorem d_Mo_make_26 : decode prog_14_method_19_code 26 = .ok (.iload_n 3, 1) := by decide +kernel
theorem d_Mo_make_27 : decode prog_14_method_19_code 27 = .ok (.iload_n 2, 1) := by decide +kernel
theorem d_Mo_make_28 : decode prog_14_method_19_code 28 = .ok (.invokevirtual 187, 3) := by decide +kernel
theorem d_Mo_make_31 : decode prog_14_method_19_code 31 = .ok (.ireturn, 1) := by decide +kernel
theorem d_Mo_make_32 : decode prog_14_method_19_code 32 = .ok (.iload_n 2, 1) := by decide +kernel
theorem d_Mo_make_33 : decode prog_14_method_19_code 33 = .ok (.iload 4, 2) := by decide +kernel
theorem d_Mo_make_35 : decode prog_14_method_19_code 35 = .ok (.ifCond .le 8, 3) := by decide +kernel
theorem d_Mo_make_38 : decode prog_14_method_19_code 38 = .ok (.iload 4, 2) := by decide +kernel
theorem d_Mo_make_40 : decode prog_14_method_19_code 40 = .ok (.goto 4, 3) := by decide +kernel
theorem d_Mo_make_43 : decode prog_14_method_19_code 43 = .ok (.iconst 0, 1) := by decide +kernel
theorem d_Mo_make_44 : decode prog_14_method_19_code 44 = .ok (.isub, 1) := by decide +kernel
theorem d_Mo_make_45 : decode prog_14_method_19_code 45 = .ok (.istore_n 2, 1) := by decide +kernel
theorem d_Mo_make_46 : decode prog_14_method_19_code 46 = .ok (.iload_n 3, 1) := by decide +kernel
theorem d_Mo_make_47 : decode prog_14_method_19_code 47 = .ok (.iconst 2, 1) := by decide +kernel
theorem d_Mo_make_48 : decode prog_14_method_19_code 48 = .ok (.idiv, 1) := by decide +kernel
theorem d_Mo_make_49 : decode prog_14_method_19_code 49 = .ok (.istore_n 3, 1) := by decide +kernel
theorem d_Mo_make_50 : decode prog_14_method_19_code 50 = .ok (.goto (-45), 3) := by decide +kernel
theorem d_Mo_make_53 : decode prog_14_method_19_code 53 = .ok (.iconst 0, 1) := by decide +kernel
theorem d_Mo_make_54 : decode prog_14_method_19_code 54 = .ok (.istore_n 3, 1) := by decide +kernel
theorem d_Mo_make_55 : decode prog_14_method_19_code 55 = .ok (.iload_n 3, 1) := by decide +kernel
theorem d_Mo_make_56 : decode prog_14_method_19_code 56 = .ok (.aload_n 0, 1) := by decide +kernel
theorem d_Mo_make_57 : decode prog_14_method_19_code 57 = .ok (.getfield 55, 3) := by decide +kernel
theorem d_Mo_make_60 : decode prog_14_method_19_code 60 = .ok (.if_icmp .ge 96, 3) := by decide +kernel
theorem d_Mo_make_63 : decode prog_14_method_19_code 63 = .ok (.aload_n 0, 1) := by decide +kernel
theorem d_Mo_make_64 : decode prog_14_method_19_code 64 = .ok (.getfield 59, 3) := by decide +kernel
theorem d_Mo_make_67 : decode prog_14_method_19_code 67 = .ok (.iload_n 3, 1) := by decide +kernel
theorem d_Mo_make_68 : decode prog_14_method_19_code 68 = .ok (.iaload, 1) := by decide +kernel
theorem d_Mo_make_69 : decode prog_14_method_19_code 69 = .ok (.istore 4, 2) := by decide +kernel
theorem d_Mo_make_71 : decode prog_14_method_19_code 71 = .ok (.iload 4, 2) := by decide +kernel
theorem d_Mo_make_73 : decode prog_14_method_19_code 73 = .ok (.ifCond .ne 7, 3) := by decide +kernel
theorem d_Mo_make_76 : decode prog_14_method_19_code 76 = .ok (.iconst 0, 1) := by decide +kernel
theorem d_Mo_make_77 : decode prog_14_method_19_code 77 = .ok (.goto 24, 3) := by decide +kernel
theorem d_Mo_make_80 : decode prog_14_method_19_code 80 = .ok (.iload 4, 2) := by decide +kernel
theorem d_Mo_make_82 : decode prog_14_method_19_code 82 = .ok (.iconst 1, 1) := by decide +kernel
theorem d_Mo_make_83 : decode prog_14_method_19_code 83 = .ok (.if_icmp .ne 7, 3) := by decide +kernel
theorem d_Mo_make_86 : decode prog_14_method_19_code 86 = .ok (.iconst 1, 1) := by decide +kernel
theorem d_Mo_make_87 : decode prog_14_method_19_code 87 = .ok (.goto 14, 3) := by decide +kernel
theorem d_Mo_make_90 : decode prog_14_method_19_code 90 = .ok (.iload 4, 2) := by decide +kernel
theorem d_Mo_make_92 : decode prog_14_method_19_code 92 = .ok (.iconst 2, 1) := by decide +kernel
theorem d_Mo_make_93 : decode prog_14_method_19_code 93 = .ok (.if_icmp .ne 7, 3) := by decide +kernel
theorem d_Mo_make_96 : decode prog_14_method_19_code 96 = .ok (.iconst 2, 1) := by decide +kernel
theorem d_Mo_make_97 : decode prog_14_method_19_code 97 = .ok (.goto 4, 3) := by decide +kernel
theorem d_Mo_make_100 : decode prog_14_method_19_code 100 = .ok (.iconst 3, 1) := by decide +kernel
theorem d_Mo_make_101 : decode prog_14_method_19_code 101 = .ok (.istore 5, 2) := by decide +kernel
theorem d_Mo_make_103 : decode prog_14_method_19_code 103 = .ok (.iload_n 2, 1) := by decide +kernel
theorem d_Mo_make_104 : decode prog_14_method_19_code 104 = .ok (.iload 5, 2) := by decide +kernel
theorem d_Mo_make_106 : decode prog_14_method_19_code 106 = .ok (.if_icmp .ge 39, 3) := by decide +kernel
theorem d_Mo_make_109 : decode prog_14_method_19_code 109 = .ok (.aload_n 0, 1) := by decide +kernel
theorem d_Mo_make_110 : decode prog_14_method_19_code 110 = .ok (.invokevirtual 190, 3) := by decide +kernel
theorem d_Mo_make_113 : decode prog_14_method_19_code 113 = .ok (.aload_n 0, 1) := by decide +kernel
theorem d_Mo_make_114 : decode prog_14_method_19_code 114 = .ok (.getfield 31, 3) := by decide +kernel
theorem d_Mo_make_117 : decode prog_14_method_19_code 117 = .ok (.iload_n 3, 1) := by decide +kernel
theorem d_Mo_make_118 : decode prog_14_method_19_code 118 = .ok (.iload_n 2, 1) := by decide +kernel
theorem d_Mo_make_119 : decode prog_14_method_19_code 119 = .ok (.ifCond .ne 7, 3) := by decide +kernel
theorem d_Mo_make_122 : decode prog_14_method_19_code 122 = .ok (.iconst 0, 1) := by decide +kernel
theorem d_Mo_make_123 : decode prog_14_method_19_code 123 = .ok (.goto 19, 3) := by decide +kernel
theorem d_Mo_make_126 : decode prog_14_method_19_code 126 = .ok (.iload_n 2, 1) := by decide +kernel
theorem d_Mo_make_127 : decode prog_14_method_19_code 127 = .ok (.iconst 1, 1) := by decide +kernel
theorem d_Mo_make_128 : decode prog_14_method_19_code 128 = .ok (.if_icmp .ne 10, 3) := by decide +kernel
theorem d_Mo_make_131 : decode prog_14_method_19_code 131 = .ok (.iload 4, 2) := by decide +kernel
theorem d_Mo_make_133 : decode prog_14_method_19_code 133 = .ok (.iconst 2, 1) := by decide +kernel
theorem d_Mo_make_134 : decode prog_14_method_19_code 134 = .ok (.idiv, 1) := by decide +kernel
theorem d_Mo_make_135 : decode prog_14_method_19_code 135 = .ok (.goto 7, 3) := by decide +kernel
theorem d_Mo_make_138 : decode prog_14_method_19_code 138 = .ok (.iload 4, 2) := by decide +kernel
theorem d_Mo_make_140 : decode prog_14_method_19_code 140 = .ok (.iconst 1, 1) := by decide +kernel
theorem d_Mo_make_141 : decode prog_14_method_19_code 141 = .ok (.isub, 1) := by decide +kernel
theorem d_Mo_make_142 : decode prog_14_method_19_code 142 = .ok (.iastore, 1) := by decide +kernel
theorem d_Mo_make_143 : decode prog_14_method_19_code 143 = .ok (.iconst 1, 1) := by decide +kernel
theorem d_Mo_make_144 : decode prog_14_method_19_code 144 = .ok (.ireturn, 1) := by decide +kernel
theorem d_Mo_make_145 : decode prog_14_method_19_code 145 = .ok (.iload_n 2, 1) := by decide +kernel
theorem d_Mo_make_146 : decode prog_14_method_19_code 146 = .ok (.iload 5, 2) := by decide +kernel
theorem d_Mo_make_148 : decode prog_14_method_19_code 148 = .ok (.isub, 1) := by decide +kernel
theorem d_Mo_make_149 : decode prog_14_method_19_code 149 = .ok (.istore_n 2, 1) := by decide +kernel
theorem d_Mo_make_150 : decode prog_14_method_19_code 150 = .ok (.iinc 3 1, 3) := by decide +kernel
theorem d_Mo_make_153 : decode prog_14_method_19_code 153 = .ok (.goto (-98), 3) := by decide +kernel
theorem d_Mo_make_156 : decode prog_14_method_19_code 156 = .ok (.iconst 0, 1) := by decide +kernel
theorem d_Mo_make_157 : decode prog_14_method_19_code 157 = .ok (.istore_n 3, 1) := by decide +kernel
theorem d_Mo_make_158 : decode prog_14_method_19_code 158 = .ok (.iload_n 3, 1) := by decide +kernel
theorem d_Mo_make_159 : decode prog_14_method_19_code 159 = .ok (.iconst 1, 1) := by decide +kernel
theorem d_Mo_make_160 : decode prog_14_method_19_code 160 = .ok (.iadd, 1) := by decide +kernel
theorem d_Mo_make_161 : decode prog_14_method_19_code 161 = .ok (.aload_n 0, 1) := by decide +kernel
theorem d_Mo_make_162 : decode prog_14_method_19_code 162 = .ok (.getfield 55, 3) := by decide +kernel
theorem d_Mo_make_165 : decode prog_14_method_19_code 165 = .ok (.if_icmp .ge 70, 3) := by decide +kernel
theorem d_Mo_make_168 : decode prog_14_method_19_code 168 = .ok (.aload_n 0, 1) := by decide +kernel
theorem d_Mo_make_169 : decode prog_14_method_19_code 169 = .ok (.getfield 59, 3) := by decide +kernel
theorem d_Mo_make_172 : decode prog_14_method_19_code 172 = .ok (.iload_n 3, 1) := by decide +kernel
theorem d_Mo_make_173 : decode prog_14_method_19_code 173 = .ok (.iaload, 1) := by decide +kernel
theorem d_Mo_make_174 : decode prog_14_method_19_code 174 = .ok (.aload_n 0, 1) := by decide +kernel
theorem d_Mo_make_175 : decode prog_14_method_19_code 175 = .ok (.getfield 59, 3) := by decide +kernel
theorem d_Mo_make_178 : decode prog_14_method_19_code 178 = .ok (.iload_n 3, 1) := by decide +kernel
theorem d_Mo_make_179 : decode prog_14_method_19_code 179 = .ok (.iconst 1, 1) := by decide +kernel
theorem d_Mo_make_180 : decode prog_14_method_19_code 180 = .ok (.iadd, 1) := by decide +kernel
theorem d_Mo_make_181 : decode prog_14_method_19_code 181 = .ok (.iaload, 1) := by decide +kernel
theorem d_Mo_make_182 : decode prog_14_method_19_code 182 = .ok (.if_icmp .gt 6, 3) := by decide +kernel
theorem d_Mo_make_185 : decode prog_14_method_19_code 185 = .ok (.goto 44, 3) := by decide +kernel
theorem d_Mo_make_188 : decode prog_14_method_19_code 188 = .ok (.iload_n 2, 1) := by decide +kernel
theorem d_Mo_make_189 : decode prog_14_method_19_code 189 = .ok (.ifCond .ne 37, 3) := by decide +kernel
theorem d_Mo_make_192 : decode prog_14_method_19_code 192 = .ok (.aload_n 0, 1) := by decide +kernel
theorem d_Mo_make_193 : decode prog_14_method_19_code 193 = .ok (.invokevirtual 190, 3) := by decide +kernel
theorem d_Mo_make_196 : decode prog_14_method_19_code 196 = .ok (.aload_n 0, 1) := by decide +kernel
theorem d_Mo_make_197 : decode prog_14_method_19_code 197 = .ok (.getfield 31, 3) := by decide +kernel
theorem d_Mo_make_200 : decode prog_14_method_19_code 200 = .ok (.iload_n 3, 1) := by decide +kernel
theorem d_Mo_make_201 : decode prog_14_method_19_code 201 = .ok (.aload_n 0, 1) := by decide +kernel
theorem d_Mo_make_202 : decode prog_14_method_19_code 202 = .ok (.getfield 59, 3) := by decide +kernel
theorem d_Mo_make_205 : decode prog_14_method_19_code 205 = .ok (.iload_n 3, 1) := by decide +kernel
theorem d_Mo_make_206 : decode prog_14_method_19_code 206 = .ok (.iconst 1, 1) := by decide +kernel
theorem d_Mo_make_207 : decode prog_14_method_19_code 207 = .ok (.iadd, 1) := by decide +kernel
theorem d_Mo_make_208 : decode prog_14_method_19_code 208 = .ok (.iaload, 1) := by decide +kernel
theorem d_Mo_make_209 : decode prog_14_method_19_code 209 = .ok (.iastore, 1) := by decide +kernel
theorem d_Mo_make_210 : decode prog_14_method_19_code 210 = .ok (.aload_n 0, 1) := by decide +kernel
theorem d_Mo_make_211 : decode prog_14_method_19_code 211 = .ok (.getfield 31, 3) := by decide +kernel
theorem d_Mo_make_214 : decode prog_14_method_19_code 214 = .ok (.iload_n 3, 1) := by decide +kernel
theorem d_Mo_make_215 : decode prog_14_method_19_code 215 = .ok (.iconst 1, 1) := by decide +kernel
theorem d_Mo_make_216 : decode prog_14_method_19_code 216 = .ok (.iadd, 1) := by decide +kernel
theorem d_Mo_make_217 : decode prog_14_method_19_code 217 = .ok (.aload_n 0, 1) := by decide +kernel
theorem d_Mo_make_218 : decode prog_14_method_19_code 218 = .ok (.getfield 59, 3) := by decide +kernel
theorem d_Mo_make_221 : decode prog_14_method_19_code 221 = .ok (.iload_n 3, 1) := by decide +kernel
theorem d_Mo_make_222 : decode prog_14_method_19_code 222 = .ok (.iaload, 1) := by decide +kernel
theorem d_Mo_make_223 : decode prog_14_method_19_code 223 = .ok (.iastore, 1) := by decide +kernel
theorem d_Mo_make_224 : decode prog_14_method_19_code 224 = .ok (.iconst 1, 1) := by decide +kernel
theorem d_Mo_make_225 : decode prog_14_method_19_code 225 = .ok (.ireturn, 1) := by decide +kernel
theorem d_Mo_make_226 : decode prog_14_method_19_code 226 = .ok (.iinc 2 (-1), 3) := by decide +kernel
theorem d_Mo_make_229 : decode prog_14_method_19_code 229 = .ok (.iinc 3 1, 3) := by decide +kernel
theorem d_Mo_make_232 : decode prog_14_method_19_code 232 = .ok (.goto (-74), 3) := by decide +kernel
theorem d_Mo_make_235 : decode prog_14_method_19_code 235 = .ok (.iconst 0, 1) := by decide +kernel
theorem d_Mo_make_236 : decode prog_14_method_19_code 236 = .ok (.ireturn, 1) := by decide +kernel
theorem d_Mo_drop_0 : decode prog_14_method_21_code 0 = .ok (.aload_n 0, 1) := by decide +kernel
theorem d_Mo_drop_1 : decode prog_14_method_21_code 1 = .ok (.aload_n 0, 1) := by decide +kernel
theorem d_Mo_drop_2 : decode prog_14_method_21_code 2 = .ok (.getfield 55, 3) := by decide +kernel
theorem d_Mo_drop_5 : decode prog_14_method_21_code 5 = .ok (.iload_n 1, 1) := by decide +kernel
theorem d_Mo_drop_6 : decode prog_14_method_21_code 6 = .ok (.isub, 1) := by decide +kernel
theorem d_Mo_drop_7 : decode prog_14_method_21_code 7 = .ok (.putfield 111, 3) := by decide +kernel
theorem d_Mo_drop_10 : decode prog_14_method_21_code 10 = .ok (.iconst 0, 1) := by decide +kernel
theorem d_Mo_drop_11 : decode prog_14_method_21_code 11 = .ok (.istore_n 3, 1) := by decide +kernel
theorem d_Mo_drop_12 : decode prog_14_method_21_code 12 = .ok (.iload_n 3, 1) := by decide +kernel
theorem d_Mo_drop_13 : decode prog_14_method_21_code 13 = .ok (.aload_n 0, 1) := by decide +kernel
theorem d_Mo_drop_14 : decode prog_14_method_21_code 14 = .ok (.getfield 111, 3) := by decide +kernel
theorem d_Mo_drop_17 : decode prog_14_method_21_code 17 = .ok (.if_icmp .ge 32, 3) := by decide +kernel
theorem d_Mo_drop_20 : decode prog_14_method_21_code 20 = .ok (.aload_n 0, 1) := by decide +kernel
theorem d_Mo_drop_21 : decode prog_14_method_21_code 21 = .ok (.getfield 31, 3) := by decide +kernel
theorem d_Mo_drop_24 : decode prog_14_method_21_code 24 = .ok (.iload_n 3, 1) := by decide +kernel
theorem d_Mo_drop_25 : decode prog_14_method_21_code 25 = .ok (.aload_n 0, 1) := by decide +kernel
theorem d_Mo_drop_26 : decode prog_14_method_21_code 26 = .ok (.getfield 59, 3) := by decide +kernel
theorem d_Mo_drop_29 : decode prog_14_method_21_code 29 = .ok (.iload_n 3, 1) := by decide +kernel
theorem d_Mo_drop_30 : decode prog_14_method_21_code 30 = .ok (.iload_n 2, 1) := by decide +kernel
theorem d_Mo_drop_31 : decode prog_14_method_21_code 31 = .ok (.if_icmp .ge 7, 3) := by decide +kernel
theorem d_Mo_drop_34 : decode prog_14_method_21_code 34 = .ok (.iload_n 3, 1) := by decide +kernel
theorem d_Mo_drop_35 : decode prog_14_method_21_code 35 = .ok (.goto 6, 3) := by decide +kernel
theorem d_Mo_drop_38 : decode prog_14_method_21_code 38 = .ok (.iload_n 3, 1) := by decide +kernel
theorem d_Mo_drop_39 : decode prog_14_method_21_code 39 = .ok (.iload_n 1, 1) := by decide +kernel
theorem d_Mo_drop_40 : decode prog_14_method_21_code 40 = .ok (.iadd, 1) := by decide +kernel
theorem d_Mo_drop_41 : decode prog_14_method_21_code 41 = .ok (.iaload, 1) := by decide +kernel
theorem d_Mo_drop_42 : decode prog_14_method_21_code 42 = .ok (.iastore, 1) := by decide +kernel
theorem d_Mo_drop_43 : decode prog_14_method_21_code 43 = .ok (.iinc 3 1, 3) := by decide +kernel
theorem d_Mo_drop_46 : decode prog_14_method_21_code 46 = .ok (.goto (-34), 3) := by decide +kernel
theorem d_Mo_drop_49 : decode prog_14_method_21_code 49 = .ok (.iconst 1, 1) := by decide +kernel
theorem d_Mo_drop_50 : decode prog_14_method_21_code 50 = .ok (.ireturn, 1) := by decide +kernel
theorem d_Mo_copy_0 : decode prog_14_method_20_code 0 = .ok (.aload_n 0, 1) := by decide +kernel
theorem d_Mo_copy_1 : decode prog_14_method_20_code 1 = .ok (.aload_n 0, 1) := by decide +kernel
theorem d_Mo_copy_2 : decode prog_14_method_20_code 2 = .ok (.getfield 55, 3) := by decide +kernel
theorem d_Mo_copy_5 : decode prog_14_method_20_code 5 = .ok (.putfield 111, 3) := by decide +kernel
theorem d_Mo_copy_8 : decode prog_14_method_20_code 8 = .ok (.iconst 0, 1) := by decide +kernel
theorem d_Mo_copy_9 : decode prog_14_method_20_code 9 = .ok (.istore_n 1, 1) := by decide +kernel
theorem d_Mo_copy_10 : decode prog_14_method_20_code 10 = .ok (.iload_n 1, 1) := by decide +kernel
theorem d_Mo_copy_11 : decode prog_14_method_20_code 11 = .ok (.aload_n 0, 1) := by decide +kernel
theorem d_Mo_copy_12 : decode prog_14_method_20_code 12 = .ok (.getfield 55, 3) := by decide +kernel
theorem d_Mo_copy_15 : decode prog_14_method_20_code 15 = .ok (.if_icmp .ge 21, 3) := by decide +kernel
theorem d_Mo_copy_18 : decode prog_14_method_20_code 18 = .ok (.aload_n 0, 1) := by decide +kernel
theorem d_Mo_copy_19 : decode prog_14_method_20_code 19 = .ok (.getfield 31, 3) := by decide +kernel
theorem d_Mo_copy_22 : decode prog_14_method_20_code 22 = .ok (.iload_n 1, 1) := by decide +kernel
theorem d_Mo_copy_23 : decode prog_14_method_20_code 23 = .ok (.aload_n 0, 1) := by decide +kernel
theorem d_Mo_copy_24 : decode prog_14_method_20_code 24 = .ok (.getfield 59, 3) := by decide +kernel
theorem d_Mo_copy_27 : decode prog_14_method_20_code 27 = .ok (.iload_n 1, 1) := by decide +kernel
theorem d_Mo_copy_28 : decode prog_14_method_20_code 28 = .ok (.iaload, 1) := by decide +kernel
theorem d_Mo_copy_29 : decode prog_14_method_20_code 29 = .ok (.iastore, 1) := by decide +kernel
theorem d_Mo_copy_30 : decode prog_14_method_20_code 30 = .ok (.iinc 1 1, 3) := by decide +kernel
theorem d_Mo_copy_33 : decode prog_14_method_20_code 33 = .ok (.goto (-23), 3) := by decide +kernel
theorem d_Mo_copy_36 : decode prog_14_method_20_code 36 = .ok (.return_, 1) := by decide +kernel
theorem d_Mo_least_0 : decode prog_14_method_23_code 0 = .ok (.aload_n 0, 1) := by decide +kernel
theorem d_Mo_least_1 : decode prog_14_method_23_code 1 = .ok (.iconst 0, 1) := by decide +kernel
theorem d_Mo_least_2 : decode prog_14_method_23_code 2 = .ok (.putfield 80, 3) := by decide +kernel
theorem d_Mo_least_5 : decode prog_14_method_23_code 5 = .ok (.aload_n 0, 1) := by decide +kernel
theorem d_Mo_least_6 : decode prog_14_method_23_code 6 = .ok (.getfield 181, 3) := by decide +kernel
theorem d_Mo_least_9 : decode prog_14_method_23_code 9 = .ok (.ireturn, 1) := by decide +kernel
theorem d_Mo_put_0 : decode prog_14_method_24_code 0 = .ok (.aload_n 0, 1) := by decide +kernel
theorem d_Mo_put_1 : decode prog_14_method_24_code 1 = .ok (.iconst 0, 1) := by decide +kernel
theorem d_Mo_put_2 : decode prog_14_method_24_code 2 = .ok (.putfield 80, 3) := by decide +kernel
theorem d_Mo_put_5 : decode prog_14_method_24_code 5 = .ok (.iload_n 1, 1) := by decide +kernel
theorem d_Mo_put_6 : decode prog_14_method_24_code 6 = .ok (.ifCond .lt 12, 3) := by decide +kernel
theorem d_Mo_put_9 : decode prog_14_method_24_code 9 = .ok (.aload_n 0, 1) := by decide +kernel
theorem d_Mo_put_10 : decode prog_14_method_24_code 10 = .ok (.getfield 196, 3) := by decide +kernel
theorem d_Mo_put_13 : decode prog_14_method_24_code 13 = .ok (.bipush 60, 2) := by decide +kernel
theorem d_Mo_put_15 : decode prog_14_method_24_code 15 = .ok (.if_icmp .ne 5, 3) := by decide +kernel
theorem d_Mo_put_18 : decode prog_14_method_24_code 18 = .ok (.iconst 0, 1) := by decide +kernel
theorem d_Mo_put_19 : decode prog_14_method_24_code 19 = .ok (.ireturn, 1) := by decide +kernel
theorem d_Mo_put_20 : decode prog_14_method_24_code 20 = .ok (.aload_n 0, 1) := by decide +kernel
theorem d_Mo_put_21 : decode prog_14_method_24_code 21 = .ok (.getfield 77, 3) := by decide +kernel
theorem d_Mo_put_24 : decode prog_14_method_24_code 24 = .ok (.aload_n 0, 1) := by decide +kernel
theorem d_Mo_put_25 : decode prog_14_method_24_code 25 = .ok (.getfield 196, 3) := by decide +kernel
theorem d_Mo_put_28 : decode prog_14_method_24_code 28 = .ok (.iload_n 1, 1) := by decide +kernel
theorem d_Mo_put_29 : decode prog_14_method_24_code 29 = .ok (.iastore, 1) := by decide +kernel
theorem d_Mo_put_30 : decode prog_14_method_24_code 30 = .ok (.aload_n 0, 1) := by decide +kernel
theorem d_Mo_put_31 : decode prog_14_method_24_code 31 = .ok (.dup, 1) := by decide +kernel
theorem d_Mo_put_32 : decode prog_14_method_24_code 32 = .ok (.getfield 196, 3) := by decide +kernel
theorem d_Mo_put_35 : decode prog_14_method_24_code 35 = .ok (.iconst 1, 1) := by decide +kernel
theorem d_Mo_put_36 : decode prog_14_method_24_code 36 = .ok (.iadd, 1) := by decide +kernel
theorem d_Mo_put_37 : decode prog_14_method_24_code 37 = .ok (.putfield 196, 3) := by decide +kernel
theorem d_Mo_put_40 : decode prog_14_method_24_code 40 = .ok (.iconst 1, 1) := by decide +kernel
theorem d_Mo_put_41 : decode prog_14_method_24_code 41 = .ok (.ireturn, 1) := by decide +kernel
theorem d_Mo_replay_0 : decode prog_14_method_25_code 0 = .ok (.aload_n 0, 1) := by decide +kernel
theorem d_Mo_replay_1 : decode prog_14_method_25_code 1 = .ok (.iconst 0, 1) := by decide +kernel
theorem d_Mo_replay_2 : decode prog_14_method_25_code 2 = .ok (.putfield 80, 3) := by decide +kernel
theorem d_Mo_replay_5 : decode prog_14_method_25_code 5 = .ok (.aload_n 0, 1) := by decide +kernel
theorem d_Mo_replay_6 : decode prog_14_method_25_code 6 = .ok (.iload_n 1, 1) := by decide +kernel
theorem d_Mo_replay_7 : decode prog_14_method_25_code 7 = .ok (.invokevirtual 90, 3) := by decide +kernel
theorem d_Mo_replay_10 : decode prog_14_method_25_code 10 = .ok (.ifCond .eq 15, 3) := by decide +kernel
theorem d_Mo_replay_13 : decode prog_14_method_25_code 13 = .ok (.iload_n 2, 1) := by decide +kernel
theorem d_Mo_replay_14 : decode prog_14_method_25_code 14 = .ok (.ifCond .lt 11, 3) := by decide +kernel
theorem d_Mo_replay_17 : decode prog_14_method_25_code 17 = .ok (.iload_n 2, 1) := by decide +kernel
theorem d_Mo_replay_18 : decode prog_14_method_25_code 18 = .ok (.aload_n 0, 1) := by decide +kernel
theorem d_Mo_replay_19 : decode prog_14_method_25_code 19 = .ok (.getfield 94, 3) := by decide +kernel
theorem d_Mo_replay_22 : decode prog_14_method_25_code 22 = .ok (.if_icmp .lt 5, 3) := by decide +kernel
theorem d_Mo_replay_25 : decode prog_14_method_25_code 25 = .ok (.iconst (-1), 1) := by decide +kernel
theorem d_Mo_replay_26 : decode prog_14_method_25_code 26 = .ok (.ireturn, 1) := by decide +kernel
theorem d_Mo_replay_27 : decode prog_14_method_25_code 27 = .ok (.aload_n 0, 1) := by decide +kernel
theorem d_Mo_replay_28 : decode prog_14_method_25_code 28 = .ok (.aload_n 0, 1) := by decide +kernel
theorem d_Mo_replay_29 : decode prog_14_method_25_code 29 = .ok (.getfield 196, 3) := by decide +kernel
theorem d_Mo_replay_32 : decode prog_14_method_25_code 32 = .ok (.putfield 111, 3) := by decide +kernel
theorem d_Mo_replay_35 : decode prog_14_method_25_code 35 = .ok (.iconst 0, 1) := by decide +kernel
theorem d_Mo_replay_36 : decode prog_14_method_25_code 36 = .ok (.istore_n 3, 1) := by decide +kernel
theorem d_Mo_replay_37 : decode prog_14_method_25_code 37 = .ok (.iload_n 3, 1) := by decide +kernel
theorem d_Mo_replay_38 : decode prog_14_method_25_code 38 = .ok (.aload_n 0, 1) := by decide +kernel
theorem d_Mo_replay_39 : decode prog_14_method_25_code 39 = .ok (.getfield 196, 3) := by decide +kernel
theorem d_Mo_replay_42 : decode prog_14_method_25_code 42 = .ok (.if_icmp .ge 21, 3) := by decide +kernel
theorem d_Mo_replay_45 : decode prog_14_method_25_code 45 = .ok (.aload_n 0, 1) := by decide +kernel
theorem d_Mo_replay_46 : decode prog_14_method_25_code 46 = .ok (.getfield 31, 3) := by decide +kernel
theorem d_Mo_replay_49 : decode prog_14_method_25_code 49 = .ok (.iload_n 3, 1) := by decide +kernel
theorem d_Mo_replay_50 : decode prog_14_method_25_code 50 = .ok (.aload_n 0, 1) := by decide +kernel
theorem d_Mo_replay_51 : decode prog_14_method_25_code 51 = .ok (.getfield 77, 3) := by decide +kernel
theorem d_Mo_replay_54 : decode prog_14_method_25_code 54 = .ok (.iload_n 3, 1) := by decide +kernel
theorem d_Mo_replay_55 : decode prog_14_method_25_code 55 = .ok (.iaload, 1) := by decide +kernel
theorem d_Mo_replay_56 : decode prog_14_method_25_code 56 = .ok (.iastore, 1) := by decide +kernel
theorem d_Mo_replay_57 : decode prog_14_method_25_code 57 = .ok (.iinc 3 1, 3) := by decide +kernel
theorem d_Mo_replay_60 : decode prog_14_method_25_code 60 = .ok (.goto (-23), 3) := by decide +kernel
theorem d_Mo_replay_63 : decode prog_14_method_25_code 63 = .ok (.aload_n 0, 1) := by decide +kernel
theorem d_Mo_replay_64 : decode prog_14_method_25_code 64 = .ok (.iconst 0, 1) := by decide +kernel
theorem d_Mo_replay_65 : decode prog_14_method_25_code 65 = .ok (.putfield 196, 3) := by decide +kernel
theorem d_Mo_replay_68 : decode prog_14_method_25_code 68 = .ok (.aload_n 0, 1) := by decide +kernel
theorem d_Mo_replay_69 : decode prog_14_method_25_code 69 = .ok (.iload_n 1, 1) := by decide +kernel
theorem d_Mo_replay_70 : decode prog_14_method_25_code 70 = .ok (.iconst 0, 1) := by decide +kernel
theorem d_Mo_replay_71 : decode prog_14_method_25_code 71 = .ok (.invokevirtual 161, 3) := by decide +kernel
theorem d_Mo_replay_74 : decode prog_14_method_25_code 74 = .ok (.aload_n 0, 1) := by decide +kernel
theorem d_Mo_replay_75 : decode prog_14_method_25_code 75 = .ok (.invokevirtual 155, 3) := by decide +kernel
theorem d_Mo_replay_78 : decode prog_14_method_25_code 78 = .ok (.aload_n 0, 1) := by decide +kernel
theorem d_Mo_replay_79 : decode prog_14_method_25_code 79 = .ok (.iload_n 2, 1) := by decide +kernel
theorem d_Mo_replay_80 : decode prog_14_method_25_code 80 = .ok (.invokevirtual 164, 3) := by decide +kernel
theorem d_Mo_replay_83 : decode prog_14_method_25_code 83 = .ok (.ireturn, 1) := by decide +kernel
theorem d_Mo_choice_0 : decode prog_14_method_26_code 0 = .ok (.aload_n 0, 1) := by decide +kernel
theorem d_Mo_choice_1 : decode prog_14_method_26_code 1 = .ok (.iconst 0, 1) := by decide +kernel
theorem d_Mo_choice_2 : decode prog_14_method_26_code 2 = .ok (.putfield 80, 3) := by decide +kernel
theorem d_Mo_choice_5 : decode prog_14_method_26_code 5 = .ok (.iload_n 1, 1) := by decide +kernel
theorem d_Mo_choice_6 : decode prog_14_method_26_code 6 = .ok (.ifCond .lt 11, 3) := by decide +kernel
theorem d_Mo_choice_9 : decode prog_14_method_26_code 9 = .ok (.iload_n 1, 1) := by decide +kernel
theorem d_Mo_choice_10 : decode prog_14_method_26_code 10 = .ok (.aload_n 0, 1) := by decide +kernel
theorem d_Mo_choice_11 : decode prog_14_method_26_code 11 = .ok (.getfield 55, 3) := by decide +kernel
theorem d_Mo_choice_14 : decode prog_14_method_26_code 14 = .ok (.if_icmp .lt 7, 3) := by decide +kernel
theorem d_Mo_choice_17 : decode prog_14_method_26_code 17 = .ok (.iconst (-1), 1) := by decide +kernel
theorem d_Mo_choice_18 : decode prog_14_method_26_code 18 = .ok (.goto 9, 3) := by decide +kernel
theorem d_Mo_choice_21 : decode prog_14_method_26_code 21 = .ok (.aload_n 0, 1) := by decide +kernel
theorem d_Mo_choice_22 : decode prog_14_method_26_code 22 = .ok (.getfield 59, 3) := by decide +kernel
theorem d_Mo_choice_25 : decode prog_14_method_26_code 25 = .ok (.iload_n 1, 1) := by decide +kernel
theorem d_Mo_choice_26 : decode prog_14_method_26_code 26 = .ok (.iaload, 1) := by decide +kernel
theorem d_Mo_choice_27 : decode prog_14_method_26_code 27 = .ok (.ireturn, 1) := by decide +kernel
theorem d_Mo_size_0 : decode prog_14_method_27_code 0 = .ok (.aload_n 0, 1) := by decide +kernel
theorem d_Mo_size_1 : decode prog_14_method_27_code 1 = .ok (.iconst 0, 1) := by decide +kernel
theorem d_Mo_size_2 : decode prog_14_method_27_code 2 = .ok (.putfield 80, 3) := by decide +kernel
theorem d_Mo_size_5 : decode prog_14_method_27_code 5 = .ok (.iload_n 1, 1) := by decide +kernel
theorem d_Mo_size_6 : decode prog_14_method_27_code 6 = .ok (.ifCond .ne 22, 3) := by decide +kernel
theorem d_Mo_size_9 : decode prog_14_method_27_code 9 = .ok (.aload_n 0, 1) := by decide +kernel
theorem d_Mo_size_10 : decode prog_14_method_27_code 10 = .ok (.getfield 55, 3) := by decide +kernel
theorem d_Mo_size_13 : decode prog_14_method_27_code 13 = .ok (.iconst (-1), 1) := by decide +kernel
theorem d_Mo_size_14 : decode prog_14_method_27_code 14 = .ok (.if_icmp .ne 7, 3) := by decide +kernel
theorem d_Mo_size_17 : decode prog_14_method_27_code 17 = .ok (.iconst 0, 1) := by decide +kernel
theorem d_Mo_size_18 : decode prog_14_method_27_code 18 = .ok (.goto 47, 3) := by decide +kernel
theorem d_Mo_size_21 : decode prog_14_method_27_code 21 = .ok (.aload_n 0, 1) := by decide +kernel
theorem d_Mo_size_22 : decode prog_14_method_27_code 22 = .ok (.getfield 55, 3) := by decide +kernel
theorem d_Mo_size_25 : decode prog_14_method_27_code 25 = .ok (.goto 40, 3) := by decide +kernel
theorem d_Mo_size_28 : decode prog_14_method_27_code 28 = .ok (.iload_n 1, 1) := by decide +kernel
theorem d_Mo_size_29 : decode prog_14_method_27_code 29 = .ok (.iconst 1, 1) := by decide +kernel
theorem d_Mo_size_30 : decode prog_14_method_27_code 30 = .ok (.if_icmp .ne 10, 3) := by decide +kernel
theorem d_Mo_size_33 : decode prog_14_method_27_code 33 = .ok (.aload_n 0, 1) := by decide +kernel
theorem d_Mo_size_34 : decode prog_14_method_27_code 34 = .ok (.getfield 143, 3) := by decide +kernel
theorem d_Mo_size_37 : decode prog_14_method_27_code 37 = .ok (.goto 28, 3) := by decide +kernel
theorem d_Mo_size_40 : decode prog_14_method_27_code 40 = .ok (.iload_n 1, 1) := by decide +kernel
theorem d_Mo_size_41 : decode prog_14_method_27_code 41 = .ok (.iconst 2, 1) := by decide +kernel
theorem d_Mo_size_42 : decode prog_14_method_27_code 42 = .ok (.if_icmp .ne 10, 3) := by decide +kernel
theorem d_Mo_size_45 : decode prog_14_method_27_code 45 = .ok (.aload_n 0, 1) := by decide +kernel
theorem d_Mo_size_46 : decode prog_14_method_27_code 46 = .ok (.getfield 158, 3) := by decide +kernel
theorem d_Mo_size_49 : decode prog_14_method_27_code 49 = .ok (.goto 16, 3) := by decide +kernel
theorem d_Mo_size_52 : decode prog_14_method_27_code 52 = .ok (.iload_n 1, 1) := by decide +kernel
theorem d_Mo_size_53 : decode prog_14_method_27_code 53 = .ok (.iconst 3, 1) := by decide +kernel
theorem d_Mo_size_54 : decode prog_14_method_27_code 54 = .ok (.if_icmp .ne 10, 3) := by decide +kernel
theorem d_Mo_size_57 : decode prog_14_method_27_code 57 = .ok (.aload_n 0, 1) := by decide +kernel
theorem d_Mo_size_58 : decode prog_14_method_27_code 58 = .ok (.getfield 174, 3) := by decide +kernel
theorem d_Mo_size_61 : decode prog_14_method_27_code 61 = .ok (.goto 4, 3) := by decide +kernel
theorem d_Mo_size_64 : decode prog_14_method_27_code 64 = .ok (.iconst (-1), 1) := by decide +kernel
theorem d_Mo_size_65 : decode prog_14_method_27_code 65 = .ok (.ireturn, 1) := by decide +kernel
theorem d_Mo_number_0 : decode prog_14_method_28_code 0 = .ok (.aload_n 0, 1) := by decide +kernel
theorem d_Mo_number_1 : decode prog_14_method_28_code 1 = .ok (.iconst 0, 1) := by decide +kernel
theorem d_Mo_number_2 : decode prog_14_method_28_code 2 = .ok (.putfield 80, 3) := by decide +kernel
theorem d_Mo_number_5 : decode prog_14_method_28_code 5 = .ok (.iload_n 1, 1) := by decide +kernel
theorem d_Mo_number_6 : decode prog_14_method_28_code 6 = .ok (.ifCond .lt 11, 3) := by decide +kernel
theorem d_Mo_number_9 : decode prog_14_method_28_code 9 = .ok (.iload_n 1, 1) := by decide +kernel
theorem d_Mo_number_10 : decode prog_14_method_28_code 10 = .ok (.aload_n 0, 1) := by decide +kernel
theorem d_Mo_number_11 : decode prog_14_method_28_code 11 = .ok (.getfield 143, 3) := by decide +kernel
theorem d_Mo_number_14 : decode prog_14_method_28_code 14 = .ok (.if_icmp .lt 7, 3) := by decide +kernel
theorem d_Mo_number_17 : decode prog_14_method_28_code 17 = .ok (.iconst 0, 1) := by decide +kernel
theorem d_Mo_number_18 : decode prog_14_method_28_code 18 = .ok (.goto 9, 3) := by decide +kernel
theorem d_Mo_number_21 : decode prog_14_method_28_code 21 = .ok (.aload_n 0, 1) := by decide +kernel
theorem d_Mo_number_22 : decode prog_14_method_28_code 22 = .ok (.getfield 74, 3) := by decide +kernel
theorem d_Mo_number_25 : decode prog_14_method_28_code 25 = .ok (.iload_n 1, 1) := by decide +kernel
theorem d_Mo_number_26 : decode prog_14_method_28_code 26 = .ok (.iaload, 1) := by decide +kernel
theorem d_Mo_number_27 : decode prog_14_method_28_code 27 = .ok (.ireturn, 1) := by decide +kernel
theorem d_Mo_all_0 : decode prog_14_method_30_code 0 = .ok (.aload_n 0, 1) := by decide +kernel
theorem d_Mo_all_1 : decode prog_14_method_30_code 1 = .ok (.iconst 0, 1) := by decide +kernel
theorem d_Mo_all_2 : decode prog_14_method_30_code 2 = .ok (.putfield 80, 3) := by decide +kernel
theorem d_Mo_all_5 : decode prog_14_method_30_code 5 = .ok (.aload_n 0, 1) := by decide +kernel
theorem d_Mo_all_6 : decode prog_14_method_30_code 6 = .ok (.iload_n 1, 1) := by decide +kernel
theorem d_Mo_all_7 : decode prog_14_method_30_code 7 = .ok (.invokevirtual 90, 3) := by decide +kernel
theorem d_Mo_all_10 : decode prog_14_method_30_code 10 = .ok (.ifCond .eq 15, 3) := by decide +kernel
theorem d_Mo_all_13 : decode prog_14_method_30_code 13 = .ok (.iload_n 2, 1) := by decide +kernel
theorem d_Mo_all_14 : decode prog_14_method_30_code 14 = .ok (.iconst 1, 1) := by decide +kernel
theorem d_Mo_all_15 : decode prog_14_method_30_code 15 = .ok (.if_icmp .lt 10, 3) := by decide +kernel
theorem d_Mo_all_18 : decode prog_14_method_30_code 18 = .ok (.iload_n 2, 1) := by decide +kernel
theorem d_Mo_all_19 : decode prog_14_method_30_code 19 = .ok (.sipush 200, 3) := by decide +kernel
theorem d_Mo_all_22 : decode prog_14_method_30_code 22 = .ok (.if_icmp .le 5, 3) := by decide +kernel
theorem d_Mo_all_25 : decode prog_14_method_30_code 25 = .ok (.iconst (-1), 1) := by decide +kernel
theorem d_Mo_all_26 : decode prog_14_method_30_code 26 = .ok (.ireturn, 1) := by decide +kernel
theorem d_Mo_all_27 : decode prog_14_method_30_code 27 = .ok (.aload_n 0, 1) := by decide +kernel
theorem d_Mo_all_28 : decode prog_14_method_30_code 28 = .ok (.lconst 0, 1) := by decide +kernel
theorem d_Mo_all_29 : decode prog_14_method_30_code 29 = .ok (.putfield 199, 3) := by decide +kernel
theorem d_Mo_all_32 : decode prog_14_method_30_code 32 = .ok (.aload_n 0, 1) := by decide +kernel
theorem d_Mo_all_33 : decode prog_14_method_30_code 33 = .ok (.iconst 0, 1) := by decide +kernel
theorem d_Mo_all_34 : decode prog_14_method_30_code 34 = .ok (.putfield 111, 3) := by decide +kernel
theorem d_Mo_all_37 : decode prog_14_method_30_code 37 = .ok (.iconst 0, 1) := by decide +kernel
theorem d_Mo_all_38 : decode prog_14_method_30_code 38 = .ok (.istore_n 3, 1) := by decide +kernel
theorem d_Mo_all_39 : decode prog_14_method_30_code 39 = .ok (.iconst 0, 1) := by decide +kernel
theorem d_Mo_all_40 : decode prog_14_method_30_code 40 = .ok (.istore 4, 2) := by decide +kernel
theorem d_Mo_all_42 : decode prog_14_method_30_code 42 = .ok (.iconst 1, 1) := by decide +kernel
theorem d_Mo_all_43 : decode prog_14_method_30_code 43 = .ok (.istore 5, 2) := by decide +kernel
theorem d_Mo_all_45 : decode prog_14_method_30_code 45 = .ok (.iload 5, 2) := by decide +kernel
theorem d_Mo_all_47 : decode prog_14_method_30_code 47 = .ok (.ifCond .eq 106, 3) := by decide +kernel
theorem d_Mo_all_50 : decode prog_14_method_30_code 50 = .ok (.iload_n 3, 1) := by decide +kernel
theorem d_Mo_all_51 : decode prog_14_method_30_code 51 = .ok (.iload_n 2, 1) := by decide +kernel
theorem d_Mo_all_52 : decode prog_14_method_30_code 52 = .ok (.if_icmp .ge 101, 3) := by decide +kernel
theorem d_Mo_all_55 : decode prog_14_method_30_code 55 = .ok (.iload 4, 2) := by decide +kernel
theorem d_Mo_all_57 : decode prog_14_method_30_code 57 = .ok (.sipush 2000, 3) := by decide +kernel
theorem d_Mo_all_60 : decode prog_14_method_30_code 60 = .ok (.if_icmp .ge 93, 3) := by decide +kernel
theorem d_Mo_all_63 : decode prog_14_method_30_code 63 = .ok (.aload_n 0, 1) := by decide +kernel
theorem d_Mo_all_64 : decode prog_14_method_30_code 64 = .ok (.iload_n 1, 1) := by decide +kernel
theorem d_Mo_all_65 : decode prog_14_method_30_code 65 = .ok (.iconst 2, 1) := by decide +kernel
theorem d_Mo_all_66 : decode prog_14_method_30_code 66 = .ok (.invokevirtual 161, 3) := by decide +kernel
theorem d_Mo_all_69 : decode prog_14_method_30_code 69 = .ok (.iinc 4 1, 3) := by decide +kernel
theorem d_Mo_all_72 : decode prog_14_method_30_code 72 = .ok (.iconst 0, 1) := by decide +kernel
theorem d_Mo_all_73 : decode prog_14_method_30_code 73 = .ok (.istore 6, 2) := by decide +kernel
theorem d_Mo_all_75 : decode prog_14_method_30_code 75 = .ok (.iload 6, 2) := by decide +kernel
theorem d_Mo_all_77 : decode prog_14_method_30_code 77 = .ok (.aload_n 0, 1) := by decide +kernel
theorem d_Mo_all_78 : decode prog_14_method_30_code 78 = .ok (.getfield 124, 3) := by decide +kernel
theorem d_Mo_all_81 : decode prog_14_method_30_code 81 = .ok (.if_icmp .ge 37, 3) := by decide +kernel
theorem d_Mo_all_84 : decode prog_14_method_30_code 84 = .ok (.aload_n 0, 1) := by decide +kernel
theorem d_Mo_all_85 : decode prog_14_method_30_code 85 = .ok (.getfield 114, 3) := by decide +kernel
theorem d_Mo_all_88 : decode prog_14_method_30_code 88 = .ok (.ifCond .ne 30, 3) := by decide +kernel
theorem d_Mo_all_91 : decode prog_14_method_30_code 91 = .ok (.aload_n 0, 1) := by decide +kernel
theorem d_Mo_all_92 : decode prog_14_method_30_code 92 = .ok (.ldc2_w 202, 3) := by decide +kernel
theorem d_Mo_all_95 : decode prog_14_method_30_code 95 = .ok (.aload_n 0, 1) := by decide +kernel
theorem d_Mo_all_96 : decode prog_14_method_30_code 96 = .ok (.getfield 199, 3) := by decide +kernel
theorem d_Mo_all_99 : decode prog_14_method_30_code 99 = .ok (.lmul, 1) := by decide +kernel
theorem d_Mo_all_100 : decode prog_14_method_30_code 100 = .ok (.aload_n 0, 1) := by decide +kernel
theorem d_Mo_all_101 : decode prog_14_method_30_code 101 = .ok (.getfield 40, 3) := by decide +kernel
theorem d_Mo_all_104 : decode prog_14_method_30_code 104 = .ok (.iload 6, 2) := by decide +kernel
theorem d_Mo_all_106 : decode prog_14_method_30_code 106 = .ok (.iaload, 1) := by decide +kernel
theorem d_Mo_all_107 : decode prog_14_method_30_code 107 = .ok (.i2l, 1) := by decide +kernel
theorem d_Mo_all_108 : decode prog_14_method_30_code 108 = .ok (.ladd, 1) := by decide +kernel
theorem d_Mo_all_109 : decode prog_14_method_30_code 109 = .ok (.putfield 199, 3) := by decide +kernel
theorem d_Mo_all_112 : decode prog_14_method_30_code 112 = .ok (.iinc 6 1, 3) := by decide +kernel
theorem d_Mo_all_115 : decode prog_14_method_30_code 115 = .ok (.goto (-40), 3) := by decide +kernel
theorem d_Mo_all_118 : decode prog_14_method_30_code 118 = .ok (.aload_n 0, 1) := by decide +kernel
theorem d_Mo_all_119 : decode prog_14_method_30_code 119 = .ok (.getfield 114, 3) := by decide +kernel
theorem d_Mo_all_122 : decode prog_14_method_30_code 122 = .ok (.ifCond .ne 22, 3) := by decide +kernel
theorem d_Mo_all_125 : decode prog_14_method_30_code 125 = .ok (.aload_n 0, 1) := by decide +kernel
theorem d_Mo_all_126 : decode prog_14_method_30_code 126 = .ok (.ldc2_w 202, 3) := by decide +kernel
theorem d_Mo_all_129 : decode prog_14_method_30_code 129 = .ok (.aload_n 0, 1) := by decide +kernel
theorem d_Mo_all_130 : decode prog_14_method_30_code 130 = .ok (.getfield 199, 3) := by decide +kernel
theorem d_Mo_all_133 : decode prog_14_method_30_code 133 = .ok (.lmul, 1) := by decide +kernel
theorem d_Mo_all_134 : decode prog_14_method_30_code 134 = .ok (.ldc2_w 204, 3) := by decide +kernel
theorem d_Mo_all_137 : decode prog_14_method_30_code 137 = .ok (.ladd, 1) := by decide +kernel
theorem d_Mo_all_138 : decode prog_14_method_30_code 138 = .ok (.putfield 199, 3) := by decide +kernel
theorem d_Mo_all_141 : decode prog_14_method_30_code 141 = .ok (.iinc 3 1, 3) := by decide +kernel
theorem d_Mo_all_144 : decode prog_14_method_30_code 144 = .ok (.aload_n 0, 1) := by decide +kernel
theorem d_Mo_all_145 : decode prog_14_method_30_code 145 = .ok (.invokevirtual 206, 3) := by decide +kernel
theorem d_Mo_all_148 : decode prog_14_method_30_code 148 = .ok (.istore 5, 2) := by decide +kernel
theorem d_Mo_all_150 : decode prog_14_method_30_code 150 = .ok (.goto (-105), 3) := by decide +kernel
theorem d_Mo_all_153 : decode prog_14_method_30_code 153 = .ok (.iload_n 3, 1) := by decide +kernel
theorem d_Mo_all_154 : decode prog_14_method_30_code 154 = .ok (.ireturn, 1) := by decide +kernel
theorem d_Mo_raise_0 : decode prog_14_method_29_code 0 = .ok (.aload_n 0, 1) := by decide +kernel
theorem d_Mo_raise_1 : decode prog_14_method_29_code 1 = .ok (.getfield 108, 3) := by decide +kernel
theorem d_Mo_raise_4 : decode prog_14_method_29_code 4 = .ok (.iconst 1, 1) := by decide +kernel
theorem d_Mo_raise_5 : decode prog_14_method_29_code 5 = .ok (.isub, 1) := by decide +kernel
theorem d_Mo_raise_6 : decode prog_14_method_29_code 6 = .ok (.istore_n 1, 1) := by decide +kernel
theorem d_Mo_raise_7 : decode prog_14_method_29_code 7 = .ok (.iload_n 1, 1) := by decide +kernel
theorem d_Mo_raise_8 : decode prog_14_method_29_code 8 = .ok (.ifCond .lt 24, 3) := by decide +kernel
theorem d_Mo_raise_11 : decode prog_14_method_29_code 11 = .ok (.aload_n 0, 1) := by decide +kernel
theorem d_Mo_raise_12 : decode prog_14_method_29_code 12 = .ok (.getfield 34, 3) := by decide +kernel
theorem d_Mo_raise_15 : decode prog_14_method_29_code 15 = .ok (.iload_n 1, 1) := by decide +kernel
theorem d_Mo_raise_16 : decode prog_14_method_29_code 16 = .ok (.iaload, 1) := by decide +kernel
theorem d_Mo_raise_17 : decode prog_14_method_29_code 17 = .ok (.aload_n 0, 1) := by decide +kernel
theorem d_Mo_raise_18 : decode prog_14_method_29_code 18 = .ok (.getfield 37, 3) := by decide +kernel
theorem d_Mo_raise_21 : decode prog_14_method_29_code 21 = .ok (.iload_n 1, 1) := by decide +kernel
theorem d_Mo_raise_22 : decode prog_14_method_29_code 22 = .ok (.iaload, 1) := by decide +kernel
theorem d_Mo_raise_23 : decode prog_14_method_29_code 23 = .ok (.if_icmp .ne 9, 3) := by decide +kernel
theorem d_Mo_raise_26 : decode prog_14_method_29_code 26 = .ok (.iinc 1 (-1), 3) := by decide +kernel
theorem d_Mo_raise_29 : decode prog_14_method_29_code 29 = .ok (.goto (-22), 3) := by decide +kernel
theorem d_Mo_raise_32 : decode prog_14_method_29_code 32 = .ok (.iload_n 1, 1) := by decide +kernel
theorem d_Mo_raise_33 : decode prog_14_method_29_code 33 = .ok (.ifCond .ge 5, 3) := by decide +kernel
theorem d_Mo_raise_36 : decode prog_14_method_29_code 36 = .ok (.iconst 0, 1) := by decide +kernel
theorem d_Mo_raise_37 : decode prog_14_method_29_code 37 = .ok (.ireturn, 1) := by decide +kernel
theorem d_Mo_raise_38 : decode prog_14_method_29_code 38 = .ok (.iconst 0, 1) := by decide +kernel
theorem d_Mo_raise_39 : decode prog_14_method_29_code 39 = .ok (.istore_n 2, 1) := by decide +kernel
theorem d_Mo_raise_40 : decode prog_14_method_29_code 40 = .ok (.iload_n 2, 1) := by decide +kernel
theorem d_Mo_raise_41 : decode prog_14_method_29_code 41 = .ok (.iload_n 1, 1) := by decide +kernel
theorem d_Mo_raise_42 : decode prog_14_method_29_code 42 = .ok (.if_icmp .ge 21, 3) := by decide +kernel
theorem d_Mo_raise_45 : decode prog_14_method_29_code 45 = .ok (.aload_n 0, 1) := by decide +kernel
theorem d_Mo_raise_46 : decode prog_14_method_29_code 46 = .ok (.getfield 31, 3) := by decide +kernel
theorem d_Mo_raise_49 : decode prog_14_method_29_code 49 = .ok (.iload_n 2, 1) := by decide +kernel
theorem d_Mo_raise_50 : decode prog_14_method_29_code 50 = .ok (.aload_n 0, 1) := by decide +kernel
theorem d_Mo_raise_51 : decode prog_14_method_29_code 51 = .ok (.getfield 34, 3) := by decide +kernel
theorem d_Mo_raise_54 : decode prog_14_method_29_code 54 = .ok (.iload_n 2, 1) := by decide +kernel
theorem d_Mo_raise_55 : decode prog_14_method_29_code 55 = .ok (.iaload, 1) := by decide +kernel
theorem d_Mo_raise_56 : decode prog_14_method_29_code 56 = .ok (.iastore, 1) := by decide +kernel
theorem d_Mo_raise_57 : decode prog_14_method_29_code 57 = .ok (.iinc 2 1, 3) := by decide +kernel
theorem d_Mo_raise_60 : decode prog_14_method_29_code 60 = .ok (.goto (-20), 3) := by decide +kernel
theorem d_Mo_raise_63 : decode prog_14_method_29_code 63 = .ok (.aload_n 0, 1) := by decide +kernel
theorem d_Mo_raise_64 : decode prog_14_method_29_code 64 = .ok (.getfield 31, 3) := by decide +kernel
theorem d_Mo_raise_67 : decode prog_14_method_29_code 67 = .ok (.iload_n 1, 1) := by decide +kernel
theorem d_Mo_raise_68 : decode prog_14_method_29_code 68 = .ok (.aload_n 0, 1) := by decide +kernel
theorem d_Mo_raise_69 : decode prog_14_method_29_code 69 = .ok (.getfield 34, 3) := by decide +kernel
theorem d_Mo_raise_72 : decode prog_14_method_29_code 72 = .ok (.iload_n 1, 1) := by decide +kernel
theorem d_Mo_raise_73 : decode prog_14_method_29_code 73 = .ok (.iaload, 1) := by decide +kernel
theorem d_Mo_raise_74 : decode prog_14_method_29_code 74 = .ok (.iconst 1, 1) := by decide +kernel
theorem d_Mo_raise_75 : decode prog_14_method_29_code 75 = .ok (.iadd, 1) := by decide +kernel
theorem d_Mo_raise_76 : decode prog_14_method_29_code 76 = .ok (.iastore, 1) := by decide +kernel
theorem d_Mo_raise_77 : decode prog_14_method_29_code 77 = .ok (.aload_n 0, 1) := by decide +kernel
theorem d_Mo_raise_78 : decode prog_14_method_29_code 78 = .ok (.iload_n 1, 1) := by decide +kernel
theorem d_Mo_raise_79 : decode prog_14_method_29_code 79 = .ok (.iconst 1, 1) := by decide +kernel
theorem d_Mo_raise_80 : decode prog_14_method_29_code 80 = .ok (.iadd, 1) := by decide +kernel
theorem d_Mo_raise_81 : decode prog_14_method_29_code 81 = .ok (.putfield 111, 3) := by decide +kernel
theorem d_Mo_raise_84 : decode prog_14_method_29_code 84 = .ok (.iconst 1, 1) := by decide +kernel
theorem d_Mo_raise_85 : decode prog_14_method_29_code 85 = .ok (.ireturn, 1) := by decide +kernel
theorem d_Mo_sum_0 : decode prog_14_method_31_code 0 = .ok (.aload_n 0, 1) := by decide +kernel
theorem d_Mo_sum_1 : decode prog_14_method_31_code 1 = .ok (.iconst 0, 1) := by decide +kernel
theorem d_Mo_sum_2 : decode prog_14_method_31_code 2 = .ok (.putfield 80, 3) := by decide +kernel
theorem d_Mo_sum_5 : decode prog_14_method_31_code 5 = .ok (.aload_n 0, 1) := by decide +kernel
theorem d_Mo_sum_6 : decode prog_14_method_31_code 6 = .ok (.getfield 199, 3) := by decide +kernel
theorem d_Mo_sum_9 : decode prog_14_method_31_code 9 = .ok (.lreturn, 1) := by decide +kernel
end
section
/-! decode rows -/
theorem d_La_law_0 : decode code 0 = .ok (.new 7, 3) := by decide +kernel
theorem d_La_law_3 : decode code 3 = .ok (.dup, 1) := by decide +kernel
theorem d_La_law_4 : decode code 4 = .ok (.invokespecial 9, 3) := by decide +kernel
theorem d_La_law_7 : decode code 7 = .ok (.astore_n 1, 1) := by decide +kernel
theorem d_La_law_8 : decode code 8 = .ok (.new 10, 3) := by decide +kernel
theorem d_La_law_11 : decode code 11 = .ok (.dup, 1) := by decide +kernel
theorem d_La_law_12 : decode code 12 = .ok (.invokespecial 12, 3) := by decide +kernel
theorem d_La_law_15 : decode code 15 = .ok (.astore_n 2, 1) := by decide +kernel
theorem d_La_law_16 : decode code 16 = .ok (.iconst 0, 1) := by decide +kernel
theorem d_La_law_17 : decode code 17 = .ok (.istore_n 3, 1) := by decide +kernel
theorem d_La_law_18 : decode code 18 = .ok (.iload_n 3, 1) := by decide +kernel
theorem d_La_law_19 : decode code 19 = .ok (.aload_n 0, 1) := by decide +kernel
theorem d_La_law_20 : decode code 20 = .ok (.arraylength, 1) := by decide +kernel
theorem d_La_law_21 : decode code 21 = .ok (.bipush 6, 2) := by decide +kernel
theorem d_La_law_23 : decode code 23 = .ok (.isub, 1) := by decide +kernel
theorem d_La_law_24 : decode code 24 = .ok (.if_icmp .gt 455, 3) := by decide +kernel
theorem d_La_law_27 : decode code 27 = .ok (.aload_n 0, 1) := by decide +kernel
theorem d_La_law_28 : decode code 28 = .ok (.iload_n 3, 1) := by decide +kernel
theorem d_La_law_29 : decode code 29 = .ok (.iaload, 1) := by decide +kernel
theorem d_La_law_30 : decode code 30 = .ok (.bipush 15, 2) := by decide +kernel
theorem d_La_law_32 : decode code 32 = .ok (.iand, 1) := by decide +kernel
theorem d_La_law_33 : decode code 33 = .ok (.tableswitch 440 0 11 #[63, 106, 149, 232, 255, 268, 301, 324, 347, 370, 393, 426], 63) := by decide +kernel
theorem d_La_law_96 : decode code 96 = .ok (.aload_n 1, 1) := by decide +kernel
theorem d_La_law_97 : decode code 97 = .ok (.aload_n 0, 1) := by decide +kernel
theorem d_La_law_98 : decode code 98 = .ok (.iload_n 3, 1) := by decide +kernel
theorem d_La_law_99 : decode code 99 = .ok (.iconst 1, 1) := by decide +kernel
theorem d_La_law_100 : decode code 100 = .ok (.iadd, 1) := by decide +kernel
theorem d_La_law_101 : decode code 101 = .ok (.iaload, 1) := by decide +kernel
theorem d_La_law_102 : decode code 102 = .ok (.aload_n 0, 1) := by decide +kernel
theorem d_La_law_103 : decode code 103 = .ok (.iload_n 3, 1) := by decide +kernel
theorem d_La_law_104 : decode code 104 = .ok (.iconst 2, 1) := by decide +kernel
theorem d_La_law_105 : decode code 105 = .ok (.iadd, 1) := by decide +kernel
theorem d_La_law_106 : decode code 106 = .ok (.iaload, 1) := by decide +kernel
theorem d_La_law_107 : decode code 107 = .ok (.aload_n 0, 1) := by decide +kernel
theorem d_La_law_108 : decode code 108 = .ok (.iload_n 3, 1) := by decide +kernel
theorem d_La_law_109 : decode code 109 = .ok (.iconst 3, 1) := by decide +kernel
theorem d_La_law_110 : decode code 110 = .ok (.iadd, 1) := by decide +kernel
theorem d_La_law_111 : decode code 111 = .ok (.iaload, 1) := by decide +kernel
theorem d_La_law_112 : decode code 112 = .ok (.invokevirtual 13, 3) := by decide +kernel
theorem d_La_law_115 : decode code 115 = .ok (.aload_n 2, 1) := by decide +kernel
theorem d_La_law_116 : decode code 116 = .ok (.aload_n 0, 1) := by decide +kernel
theorem d_La_law_117 : decode code 117 = .ok (.iload_n 3, 1) := by decide +kernel
theorem d_La_law_118 : decode code 118 = .ok (.iconst 1, 1) := by decide +kernel
theorem d_La_law_119 : decode code 119 = .ok (.iadd, 1) := by decide +kernel
theorem d_La_law_120 : decode code 120 = .ok (.iaload, 1) := by decide +kernel
theorem d_La_law_121 : decode code 121 = .ok (.aload_n 0, 1) := by decide +kernel
theorem d_La_law_122 : decode code 122 = .ok (.iload_n 3, 1) := by decide +kernel
theorem d_La_law_123 : decode code 123 = .ok (.iconst 2, 1) := by decide +kernel
theorem d_La_law_124 : decode code 124 = .ok (.iadd, 1) := by decide +kernel
theorem d_La_law_125 : decode code 125 = .ok (.iaload, 1) := by decide +kernel
theorem d_La_law_126 : decode code 126 = .ok (.aload_n 0, 1) := by decide +kernel
theorem d_La_law_127 : decode code 127 = .ok (.iload_n 3, 1) := by decide +kernel
theorem d_La_law_128 : decode code 128 = .ok (.iconst 3, 1) := by decide +kernel
theorem d_La_law_129 : decode code 129 = .ok (.iadd, 1) := by decide +kernel
theorem d_La_law_130 : decode code 130 = .ok (.iaload, 1) := by decide +kernel
theorem d_La_law_131 : decode code 131 = .ok (.invokevirtual 17, 3) := by decide +kernel
theorem d_La_law_134 : decode code 134 = .ok (.if_icmp .eq 339, 3) := by decide +kernel
theorem d_La_law_137 : decode code 137 = .ok (.iconst 0, 1) := by decide +kernel
theorem d_La_law_138 : decode code 138 = .ok (.ireturn, 1) := by decide +kernel
theorem d_La_law_139 : decode code 139 = .ok (.aload_n 1, 1) := by decide +kernel
theorem d_La_law_140 : decode code 140 = .ok (.aload_n 0, 1) := by decide +kernel
theorem d_La_law_141 : decode code 141 = .ok (.iload_n 3, 1) := by decide +kernel
theorem d_La_law_142 : decode code 142 = .ok (.iconst 1, 1) := by decide +kernel
theorem d_La_law_143 : decode code 143 = .ok (.iadd, 1) := by decide +kernel
theorem d_La_law_144 : decode code 144 = .ok (.iaload, 1) := by decide +kernel
theorem d_La_law_145 : decode code 145 = .ok (.aload_n 0, 1) := by decide +kernel
theorem d_La_law_146 : decode code 146 = .ok (.iload_n 3, 1) := by decide +kernel
theorem d_La_law_147 : decode code 147 = .ok (.iconst 2, 1) := by decide +kernel
theorem d_La_law_148 : decode code 148 = .ok (.iadd, 1) := by decide +kernel
theorem d_La_law_149 : decode code 149 = .ok (.iaload, 1) := by decide +kernel
theorem d_La_law_150 : decode code 150 = .ok (.aload_n 0, 1) := by decide +kernel
theorem d_La_law_151 : decode code 151 = .ok (.iload_n 3, 1) := by decide +kernel
theorem d_La_law_152 : decode code 152 = .ok (.iconst 3, 1) := by decide +kernel
theorem d_La_law_153 : decode code 153 = .ok (.iadd, 1) := by decide +kernel
theorem d_La_law_154 : decode code 154 = .ok (.iaload, 1) := by decide +kernel
theorem d_La_law_155 : decode code 155 = .ok (.invokevirtual 18, 3) := by decide +kernel
theorem d_La_law_158 : decode code 158 = .ok (.aload_n 2, 1) := by decide +kernel
theorem d_La_law_159 : decode code 159 = .ok (.aload_n 0, 1) := by decide +kernel
theorem d_La_law_160 : decode code 160 = .ok (.iload_n 3, 1) := by decide +kernel
theorem d_La_law_161 : decode code 161 = .ok (.iconst 1, 1) := by decide +kernel
theorem d_La_law_162 : decode code 162 = .ok (.iadd, 1) := by decide +kernel
theorem d_La_law_163 : decode code 163 = .ok (.iaload, 1) := by decide +kernel
theorem d_La_law_164 : decode code 164 = .ok (.aload_n 0, 1) := by decide +kernel
theorem d_La_law_165 : decode code 165 = .ok (.iload_n 3, 1) := by decide +kernel
theorem d_La_law_166 : decode code 166 = .ok (.iconst 2, 1) := by decide +kernel
theorem d_La_law_167 : decode code 167 = .ok (.iadd, 1) := by decide +kernel
theorem d_La_law_168 : decode code 168 = .ok (.iaload, 1) := by decide +kernel
theorem d_La_law_169 : decode code 169 = .ok (.aload_n 0, 1) := by decide +kernel
theorem d_La_law_170 : decode code 170 = .ok (.iload_n 3, 1) := by decide +kernel
theorem d_La_law_171 : decode code 171 = .ok (.iconst 3, 1) := by decide +kernel
theorem d_La_law_172 : decode code 172 = .ok (.iadd, 1) := by decide +kernel
theorem d_La_law_173 : decode code 173 = .ok (.iaload, 1) := by decide +kernel
theorem d_La_law_174 : decode code 174 = .ok (.invokevirtual 21, 3) := by decide +kernel
theorem d_La_law_177 : decode code 177 = .ok (.if_icmp .eq 296, 3) := by decide +kernel
theorem d_La_law_180 : decode code 180 = .ok (.iconst 0, 1) := by decide +kernel
theorem d_La_law_181 : decode code 181 = .ok (.ireturn, 1) := by decide +kernel
theorem d_La_law_182 : decode code 182 = .ok (.aload_n 1, 1) := by decide +kernel
theorem d_La_law_183 : decode code 183 = .ok (.aload_n 0, 1) := by decide +kernel
theorem d_La_law_184 : decode code 184 = .ok (.iload_n 3, 1) := by decide +kernel
theorem d_La_law_185 : decode code 185 = .ok (.iconst 1, 1) := by decide +kernel
theorem d_La_law_186 : decode code 186 = .ok (.iadd, 1) := by decide +kernel
theorem d_La_law_187 : decode code 187 = .ok (.iaload, 1) := by decide +kernel
theorem d_La_law_188 : decode code 188 = .ok (.aload_n 0, 1) := by decide +kernel
theorem d_La_law_189 : decode code 189 = .ok (.iload_n 3, 1) := by decide +kernel
theorem d_La_law_190 : decode code 190 = .ok (.iconst 2, 1) := by decide +kernel
theorem d_La_law_191 : decode code 191 = .ok (.iadd, 1) := by decide +kernel
theorem d_La_law_192 : decode code 192 = .ok (.iaload, 1) := by decide +kernel
theorem d_La_law_193 : decode code 193 = .ok (.aload_n 0, 1) := by decide +kernel
theorem d_La_law_194 : decode code 194 = .ok (.iload_n 3, 1) := by decide +kernel
theorem d_La_law_195 : decode code 195 = .ok (.iconst 3, 1) := by decide +kernel
theorem d_La_law_196 : decode code 196 = .ok (.iadd, 1) := by decide +kernel
theorem d_La_law_197 : decode code 197 = .ok (.iaload, 1) := by decide +kernel
theorem d_La_law_198 : decode code 198 = .ok (.i2l, 1) := by decide +kernel
theorem d_La_law_199 : decode code 199 = .ok (.bipush 32, 2) := by decide +kernel
theorem d_La_law_201 : decode code 201 = .ok (.lshl, 1) := by decide +kernel
theorem d_La_law_202 : decode code 202 = .ok (.aload_n 0, 1) := by decide +kernel
theorem d_La_law_203 : decode code 203 = .ok (.iload_n 3, 1) := by decide +kernel
theorem d_La_law_204 : decode code 204 = .ok (.iconst 4, 1) := by decide +kernel
theorem d_La_law_205 : decode code 205 = .ok (.iadd, 1) := by decide +kernel
theorem d_La_law_206 : decode code 206 = .ok (.iaload, 1) := by decide +kernel
theorem d_La_law_207 : decode code 207 = .ok (.i2l, 1) := by decide +kernel
theorem d_La_law_208 : decode code 208 = .ok (.ldc2_w 22, 3) := by decide +kernel
theorem d_La_law_211 : decode code 211 = .ok (.land, 1) := by decide +kernel
theorem d_La_law_212 : decode code 212 = .ok (.lor, 1) := by decide +kernel
theorem d_La_law_213 : decode code 213 = .ok (.aload_n 0, 1) := by decide +kernel
theorem d_La_law_214 : decode code 214 = .ok (.iload_n 3, 1) := by decide +kernel
theorem d_La_law_215 : decode code 215 = .ok (.iconst 5, 1) := by decide +kernel
theorem d_La_law_216 : decode code 216 = .ok (.iadd, 1) := by decide +kernel
theorem d_La_law_217 : decode code 217 = .ok (.iaload, 1) := by decide +kernel
theorem d_La_law_218 : decode code 218 = .ok (.invokevirtual 24, 3) := by decide +kernel
theorem d_La_law_221 : decode code 221 = .ok (.aload_n 2, 1) := by decide +kernel
theorem d_La_law_222 : decode code 222 = .ok (.aload_n 0, 1) := by decide +kernel
theorem d_La_law_223 : decode code 223 = .ok (.iload_n 3, 1) := by decide +kernel
theorem d_La_law_224 : decode code 224 = .ok (.iconst 1, 1) := by decide +kernel
theorem d_La_law_225 : decode code 225 = .ok (.iadd, 1) := by decide +kernel
theorem d_La_law_226 : decode code 226 = .ok (.iaload, 1) := by decide +kernel
theorem d_La_law_227 : decode code 227 = .ok (.aload_n 0, 1) := by decide +kernel
theorem d_La_law_228 : decode code 228 = .ok (.iload_n 3, 1) := by decide +kernel
theorem d_La_law_229 : decode code 229 = .ok (.iconst 2, 1) := by decide +kernel
theorem d_La_law_230 : decode code 230 = .ok (.iadd, 1) := by decide +kernel
theorem d_La_law_231 : decode code 231 = .ok (.iaload, 1) := by decide +kernel
theorem d_La_law_232 : decode code 232 = .ok (.aload_n 0, 1) := by decide +kernel
theorem d_La_law_233 : decode code 233 = .ok (.iload_n 3, 1) := by decide +kernel
theorem d_La_law_234 : decode code 234 = .ok (.iconst 3, 1) := by decide +kernel
theorem d_La_law_235 : decode code 235 = .ok (.iadd, 1) := by decide +kernel
theorem d_La_law_236 : decode code 236 = .ok (.iaload, 1) := by decide +kernel
theorem d_La_law_237 : decode code 237 = .ok (.i2l, 1) := by decide +kernel
theorem d_La_law_238 : decode code 238 = .ok (.bipush 32, 2) := by decide +kernel
theorem d_La_law_240 : decode code 240 = .ok (.lshl, 1) := by decide +kernel
theorem d_La_law_241 : decode code 241 = .ok (.aload_n 0, 1) := by decide +kernel
theorem d_La_law_242 : decode code 242 = .ok (.iload_n 3, 1) := by decide +kernel
theorem d_La_law_243 : decode code 243 = .ok (.iconst 4, 1) := by decide +kernel
theorem d_La_law_244 : decode code 244 = .ok (.iadd, 1) := by decide +kernel
theorem d_La_law_245 : decode code 245 = .ok (.iaload, 1) := by decide +kernel
theorem d_La_law_246 : decode code 246 = .ok (.i2l, 1) := by decide +kernel
theorem d_La_law_247 : decode code 247 = .ok (.ldc2_w 22, 3) := by decide +kernel
theorem d_La_law_250 : decode code 250 = .ok (.land, 1) := by decide +kernel
theorem d_La_law_251 : decode code 251 = .ok (.lor, 1) := by decide +kernel
theorem d_La_law_252 : decode code 252 = .ok (.aload_n 0, 1) := by decide +kernel
theorem d_La_law_253 : decode code 253 = .ok (.iload_n 3, 1) := by decide +kernel
theorem d_La_law_254 : decode code 254 = .ok (.iconst 5, 1) := by decide +kernel
theorem d_La_law_255 : decode code 255 = .ok (.iadd, 1) := by decide +kernel
theorem d_La_law_256 : decode code 256 = .ok (.iaload, 1) := by decide +kernel
theorem d_La_law_257 : decode code 257 = .ok (.invokevirtual 28, 3) := by decide +kernel
theorem d_La_law_260 : decode code 260 = .ok (.if_icmp .eq 213, 3) := by decide +kernel
theorem d_La_law_263 : decode code 263 = .ok (.iconst 0, 1) := by decide +kernel
theorem d_La_law_264 : decode code 264 = .ok (.ireturn, 1) := by decide +kernel
theorem d_La_law_265 : decode code 265 = .ok (.aload_n 1, 1) := by decide +kernel
theorem d_La_law_266 : decode code 266 = .ok (.aload_n 0, 1) := by decide +kernel
theorem d_La_law_267 : decode code 267 = .ok (.iload_n 3, 1) := by decide +kernel
theorem d_La_law_268 : decode code 268 = .ok (.iconst 1, 1) := by decide +kernel
theorem d_La_law_269 : decode code 269 = .ok (.iadd, 1) := by decide +kernel
theorem d_La_law_270 : decode code 270 = .ok (.iaload, 1) := by decide +kernel
theorem d_La_law_271 : decode code 271 = .ok (.invokevirtual 29, 3) := by decide +kernel
theorem d_La_law_274 : decode code 274 = .ok (.aload_n 2, 1) := by decide +kernel
theorem d_La_law_275 : decode code 275 = .ok (.aload_n 0, 1) := by decide +kernel
theorem d_La_law_276 : decode code 276 = .ok (.iload_n 3, 1) := by decide +kernel
theorem d_La_law_277 : decode code 277 = .ok (.iconst 1, 1) := by decide +kernel
theorem d_La_law_278 : decode code 278 = .ok (.iadd, 1) := by decide +kernel
theorem d_La_law_279 : decode code 279 = .ok (.iaload, 1) := by decide +kernel
theorem d_La_law_280 : decode code 280 = .ok (.invokevirtual 33, 3) := by decide +kernel
theorem d_La_law_283 : decode code 283 = .ok (.if_icmp .eq 190, 3) := by decide +kernel
theorem d_La_law_286 : decode code 286 = .ok (.iconst 0, 1) := by decide +kernel
theorem d_La_law_287 : decode code 287 = .ok (.ireturn, 1) := by decide +kernel
theorem d_La_law_288 : decode code 288 = .ok (.aload_n 1, 1) := by decide +kernel
theorem d_La_law_289 : decode code 289 = .ok (.invokevirtual 34, 3) := by decide +kernel
theorem d_La_law_292 : decode code 292 = .ok (.aload_n 2, 1) := by decide +kernel
theorem d_La_law_293 : decode code 293 = .ok (.invokevirtual 38, 3) := by decide +kernel
theorem d_La_law_296 : decode code 296 = .ok (.if_icmp .eq 177, 3) := by decide +kernel
theorem d_La_law_299 : decode code 299 = .ok (.iconst 0, 1) := by decide +kernel
theorem d_La_law_300 : decode code 300 = .ok (.ireturn, 1) := by decide +kernel
theorem d_La_law_301 : decode code 301 = .ok (.aload_n 1, 1) := by decide +kernel
theorem d_La_law_302 : decode code 302 = .ok (.aload_n 0, 1) := by decide +kernel
theorem d_La_law_303 : decode code 303 = .ok (.iload_n 3, 1) := by decide +kernel
theorem d_La_law_304 : decode code 304 = .ok (.iconst 1, 1) := by decide +kernel
theorem d_La_law_305 : decode code 305 = .ok (.iadd, 1) := by decide +kernel
theorem d_La_law_306 : decode code 306 = .ok (.iaload, 1) := by decide +kernel
theorem d_La_law_307 : decode code 307 = .ok (.aload_n 0, 1) := by decide +kernel
theorem d_La_law_308 : decode code 308 = .ok (.iload_n 3, 1) := by decide +kernel
theorem d_La_law_309 : decode code 309 = .ok (.iconst 2, 1) := by decide +kernel
theorem d_La_law_310 : decode code 310 = .ok (.iadd, 1) := by decide +kernel
theorem d_La_law_311 : decode code 311 = .ok (.iaload, 1) := by decide +kernel
theorem d_La_law_312 : decode code 312 = .ok (.invokevirtual 39, 3) := by decide +kernel
theorem d_La_law_315 : decode code 315 = .ok (.aload_n 2, 1) := by decide +kernel
theorem d_La_law_316 : decode code 316 = .ok (.aload_n 0, 1) := by decide +kernel
theorem d_La_law_317 : decode code 317 = .ok (.iload_n 3, 1) := by decide +kernel
theorem d_La_law_318 : decode code 318 = .ok (.iconst 1, 1) := by decide +kernel
theorem d_La_law_319 : decode code 319 = .ok (.iadd, 1) := by decide +kernel
theorem d_La_law_320 : decode code 320 = .ok (.iaload, 1) := by decide +kernel
theorem d_La_law_321 : decode code 321 = .ok (.aload_n 0, 1) := by decide +kernel
theorem d_La_law_322 : decode code 322 = .ok (.iload_n 3, 1) := by decide +kernel
theorem d_La_law_323 : decode code 323 = .ok (.iconst 2, 1) := by decide +kernel
theorem d_La_law_324 : decode code 324 = .ok (.iadd, 1) := by decide +kernel
theorem d_La_law_325 : decode code 325 = .ok (.iaload, 1) := by decide +kernel
theorem d_La_law_326 : decode code 326 = .ok (.invokevirtual 43, 3) := by decide +kernel
theorem d_La_law_329 : decode code 329 = .ok (.if_icmp .eq 144, 3) := by decide +kernel
theorem d_La_law_332 : decode code 332 = .ok (.iconst 0, 1) := by decide +kernel
theorem d_La_law_333 : decode code 333 = .ok (.ireturn, 1) := by decide +kernel
theorem d_La_law_334 : decode code 334 = .ok (.aload_n 1, 1) := by decide +kernel
theorem d_La_law_335 : decode code 335 = .ok (.aload_n 0, 1) := by decide +kernel
theorem d_La_law_336 : decode code 336 = .ok (.iload_n 3, 1) := by decide +kernel
theorem d_La_law_337 : decode code 337 = .ok (.iconst 1, 1) := by decide +kernel
theorem d_La_law_338 : decode code 338 = .ok (.iadd, 1) := by decide +kernel
theorem d_La_law_339 : decode code 339 = .ok (.iaload, 1) := by decide +kernel
theorem d_La_law_340 : decode code 340 = .ok (.invokevirtual 44, 3) := by decide +kernel
theorem d_La_law_343 : decode code 343 = .ok (.aload_n 2, 1) := by decide +kernel
theorem d_La_law_344 : decode code 344 = .ok (.aload_n 0, 1) := by decide +kernel
theorem d_La_law_345 : decode code 345 = .ok (.iload_n 3, 1) := by decide +kernel
theorem d_La_law_346 : decode code 346 = .ok (.iconst 1, 1) := by decide +kernel
theorem d_La_law_347 : decode code 347 = .ok (.iadd, 1) := by decide +kernel
theorem d_La_law_348 : decode code 348 = .ok (.iaload, 1) := by decide +kernel
theorem d_La_law_349 : decode code 349 = .ok (.invokevirtual 48, 3) := by decide +kernel
theorem d_La_law_352 : decode code 352 = .ok (.if_icmp .eq 121, 3) := by decide +kernel
theorem d_La_law_355 : decode code 355 = .ok (.iconst 0, 1) := by decide +kernel
theorem d_La_law_356 : decode code 356 = .ok (.ireturn, 1) := by decide +kernel
theorem d_La_law_357 : decode code 357 = .ok (.aload_n 1, 1) := by decide +kernel
theorem d_La_law_358 : decode code 358 = .ok (.aload_n 0, 1) := by decide +kernel
theorem d_La_law_359 : decode code 359 = .ok (.iload_n 3, 1) := by decide +kernel
theorem d_La_law_360 : decode code 360 = .ok (.iconst 1, 1) := by decide +kernel
theorem d_La_law_361 : decode code 361 = .ok (.iadd, 1) := by decide +kernel
theorem d_La_law_362 : decode code 362 = .ok (.iaload, 1) := by decide +kernel
theorem d_La_law_363 : decode code 363 = .ok (.invokevirtual 49, 3) := by decide +kernel
theorem d_La_law_366 : decode code 366 = .ok (.aload_n 2, 1) := by decide +kernel
theorem d_La_law_367 : decode code 367 = .ok (.aload_n 0, 1) := by decide +kernel
theorem d_La_law_368 : decode code 368 = .ok (.iload_n 3, 1) := by decide +kernel
theorem d_La_law_369 : decode code 369 = .ok (.iconst 1, 1) := by decide +kernel
theorem d_La_law_370 : decode code 370 = .ok (.iadd, 1) := by decide +kernel
theorem d_La_law_371 : decode code 371 = .ok (.iaload, 1) := by decide +kernel
theorem d_La_law_372 : decode code 372 = .ok (.invokevirtual 52, 3) := by decide +kernel
theorem d_La_law_375 : decode code 375 = .ok (.if_icmp .eq 98, 3) := by decide +kernel
theorem d_La_law_378 : decode code 378 = .ok (.iconst 0, 1) := by decide +kernel
theorem d_La_law_379 : decode code 379 = .ok (.ireturn, 1) := by decide +kernel
theorem d_La_law_380 : decode code 380 = .ok (.aload_n 1, 1) := by decide +kernel
theorem d_La_law_381 : decode code 381 = .ok (.aload_n 0, 1) := by decide +kernel
theorem d_La_law_382 : decode code 382 = .ok (.iload_n 3, 1) := by decide +kernel
theorem d_La_law_383 : decode code 383 = .ok (.iconst 1, 1) := by decide +kernel
theorem d_La_law_384 : decode code 384 = .ok (.iadd, 1) := by decide +kernel
theorem d_La_law_385 : decode code 385 = .ok (.iaload, 1) := by decide +kernel
theorem d_La_law_386 : decode code 386 = .ok (.invokevirtual 53, 3) := by decide +kernel
theorem d_La_law_389 : decode code 389 = .ok (.aload_n 2, 1) := by decide +kernel
theorem d_La_law_390 : decode code 390 = .ok (.aload_n 0, 1) := by decide +kernel
theorem d_La_law_391 : decode code 391 = .ok (.iload_n 3, 1) := by decide +kernel
theorem d_La_law_392 : decode code 392 = .ok (.iconst 1, 1) := by decide +kernel
theorem d_La_law_393 : decode code 393 = .ok (.iadd, 1) := by decide +kernel
theorem d_La_law_394 : decode code 394 = .ok (.iaload, 1) := by decide +kernel
theorem d_La_law_395 : decode code 395 = .ok (.invokevirtual 56, 3) := by decide +kernel
theorem d_La_law_398 : decode code 398 = .ok (.if_icmp .eq 75, 3) := by decide +kernel
theorem d_La_law_401 : decode code 401 = .ok (.iconst 0, 1) := by decide +kernel
theorem d_La_law_402 : decode code 402 = .ok (.ireturn, 1) := by decide +kernel
theorem d_La_law_403 : decode code 403 = .ok (.aload_n 1, 1) := by decide +kernel
theorem d_La_law_404 : decode code 404 = .ok (.aload_n 0, 1) := by decide +kernel
theorem d_La_law_405 : decode code 405 = .ok (.iload_n 3, 1) := by decide +kernel
theorem d_La_law_406 : decode code 406 = .ok (.iconst 1, 1) := by decide +kernel
theorem d_La_law_407 : decode code 407 = .ok (.iadd, 1) := by decide +kernel
theorem d_La_law_408 : decode code 408 = .ok (.iaload, 1) := by decide +kernel
theorem d_La_law_409 : decode code 409 = .ok (.invokevirtual 57, 3) := by decide +kernel
theorem d_La_law_412 : decode code 412 = .ok (.aload_n 2, 1) := by decide +kernel
theorem d_La_law_413 : decode code 413 = .ok (.aload_n 0, 1) := by decide +kernel
theorem d_La_law_414 : decode code 414 = .ok (.iload_n 3, 1) := by decide +kernel
theorem d_La_law_415 : decode code 415 = .ok (.iconst 1, 1) := by decide +kernel
theorem d_La_law_416 : decode code 416 = .ok (.iadd, 1) := by decide +kernel
theorem d_La_law_417 : decode code 417 = .ok (.iaload, 1) := by decide +kernel
theorem d_La_law_418 : decode code 418 = .ok (.invokevirtual 60, 3) := by decide +kernel
theorem d_La_law_421 : decode code 421 = .ok (.if_icmp .eq 52, 3) := by decide +kernel
theorem d_La_law_424 : decode code 424 = .ok (.iconst 0, 1) := by decide +kernel
theorem d_La_law_425 : decode code 425 = .ok (.ireturn, 1) := by decide +kernel
theorem d_La_law_426 : decode code 426 = .ok (.aload_n 1, 1) := by decide +kernel
theorem d_La_law_427 : decode code 427 = .ok (.aload_n 0, 1) := by decide +kernel
theorem d_La_law_428 : decode code 428 = .ok (.iload_n 3, 1) := by decide +kernel
theorem d_La_law_429 : decode code 429 = .ok (.iconst 1, 1) := by decide +kernel
theorem d_La_law_430 : decode code 430 = .ok (.iadd, 1) := by decide +kernel
theorem d_La_law_431 : decode code 431 = .ok (.iaload, 1) := by decide +kernel
theorem d_La_law_432 : decode code 432 = .ok (.aload_n 0, 1) := by decide +kernel
theorem d_La_law_433 : decode code 433 = .ok (.iload_n 3, 1) := by decide +kernel
theorem d_La_law_434 : decode code 434 = .ok (.iconst 2, 1) := by decide +kernel
theorem d_La_law_435 : decode code 435 = .ok (.iadd, 1) := by decide +kernel
theorem d_La_law_436 : decode code 436 = .ok (.iaload, 1) := by decide +kernel
theorem d_La_law_437 : decode code 437 = .ok (.invokevirtual 61, 3) := by decide +kernel
theorem d_La_law_440 : decode code 440 = .ok (.aload_n 2, 1) := by decide +kernel
theorem d_La_law_441 : decode code 441 = .ok (.aload_n 0, 1) := by decide +kernel
theorem d_La_law_442 : decode code 442 = .ok (.iload_n 3, 1) := by decide +kernel
theorem d_La_law_443 : decode code 443 = .ok (.iconst 1, 1) := by decide +kernel
theorem d_La_law_444 : decode code 444 = .ok (.iadd, 1) := by decide +kernel
theorem d_La_law_445 : decode code 445 = .ok (.iaload, 1) := by decide +kernel
theorem d_La_law_446 : decode code 446 = .ok (.aload_n 0, 1) := by decide +kernel
theorem d_La_law_447 : decode code 447 = .ok (.iload_n 3, 1) := by decide +kernel
theorem d_La_law_448 : decode code 448 = .ok (.iconst 2, 1) := by decide +kernel
theorem d_La_law_449 : decode code 449 = .ok (.iadd, 1) := by decide +kernel
theorem d_La_law_450 : decode code 450 = .ok (.iaload, 1) := by decide +kernel
theorem d_La_law_451 : decode code 451 = .ok (.invokevirtual 64, 3) := by decide +kernel
theorem d_La_law_454 : decode code 454 = .ok (.if_icmp .eq 19, 3) := by decide +kernel
theorem d_La_law_457 : decode code 457 = .ok (.iconst 0, 1) := by decide +kernel
theorem d_La_law_458 : decode code 458 = .ok (.ireturn, 1) := by decide +kernel
theorem d_La_law_459 : decode code 459 = .ok (.aload_n 1, 1) := by decide +kernel
theorem d_La_law_460 : decode code 460 = .ok (.invokevirtual 65, 3) := by decide +kernel
theorem d_La_law_463 : decode code 463 = .ok (.aload_n 2, 1) := by decide +kernel
theorem d_La_law_464 : decode code 464 = .ok (.invokevirtual 69, 3) := by decide +kernel
theorem d_La_law_467 : decode code 467 = .ok (.lcmp, 1) := by decide +kernel
theorem d_La_law_468 : decode code 468 = .ok (.ifCond .eq 5, 3) := by decide +kernel
theorem d_La_law_471 : decode code 471 = .ok (.iconst 0, 1) := by decide +kernel
theorem d_La_law_472 : decode code 472 = .ok (.ireturn, 1) := by decide +kernel
theorem d_La_law_473 : decode code 473 = .ok (.iinc 3 6, 3) := by decide +kernel
theorem d_La_law_476 : decode code 476 = .ok (.goto (-458), 3) := by decide +kernel
theorem d_La_law_479 : decode code 479 = .ok (.iconst 1, 1) := by decide +kernel
theorem d_La_law_480 : decode code 480 = .ok (.ireturn, 1) := by decide +kernel
end
section
/-! INTS: a list of at most sixty ints, at the handles h (the object) and h + 1 (its array) -/
theorem mg_eqi {X : mg_X} {Y : mg_Y} {Q : State → Prop} {M : mg_M} {k j pc : Nat} {lv : List (Option Value)} {rest : List Value} {x y : Int32} (e : x = y) (kk : mg_G X Y Q M k j pc lv (.int y :: rest)) : mg_G X Y Q M k j pc lv (.int x :: rest) := e ▸ kk
theorem mg_eql {X : mg_X} {Y : mg_Y} {Q : State → Prop} {M : mg_M} {k j pc : Nat} {lv lv' : List (Option Value)} {st : List Value} (e : lv = lv') (kk : mg_G X Y Q M k j pc lv' st) : mg_G X Y Q M k j pc lv st := e ▸ kk
theorem mg_eqM {X : mg_X} {Y : mg_Y} {Q : State → Prop} {M M' : mg_M} {k j pc : Nat} {lv : List (Option Value)} {st : List Value} (e : M = M') (kk : mg_G X Y Q M' k j pc lv st) : mg_G X Y Q M k j pc lv st := e ▸ kk
theorem mg_eqk {X : mg_X} {Y : mg_Y} {Q : State → Prop} {M : mg_M} {k j k' j' pc : Nat} {lv : List (Option Value)} {st : List Value} (e : k = k') (e' : j = j') (kk : mg_G X Y Q M k' j' pc lv st) : mg_G X Y Q M k j pc lv st := e ▸ e' ▸ kk
theorem mg_up_up (M : mg_M) (k : Nat) (e e' : va_E) : mg_up (mg_up M k e) k e' = mg_up M k e' := by
  funext q
  by_cases h : q = k
  · subst h; rw [mg_up_s, mg_up_s]
  · rw [mg_up_n _ _ h, mg_up_n _ _ h, mg_up_n _ _ h]
/-- outside lo .. hi nothing has changed -/
def sm (lo hi : Nat) (M M' : mg_M) : Prop := ∀ k, (k < lo ∨ hi ≤ k) → M' k = M k
theorem sm.rf {lo hi : Nat} {M : mg_M} : sm lo hi M M := fun _ _ => rfl
theorem sm.up {lo hi k : Nat} {M M' : mg_M} {e : va_E} (h : sm lo hi M M') (h1 : lo ≤ k) (h2 : k < hi) : sm lo hi M (mg_up M' k e) := fun q hq => by
  rw [mg_up_n _ _ (by omega)]; exact h q hq
theorem sm.tr {lo hi : Nat} {M M' M'' : mg_M} (h : sm lo hi M M') (h' : sm lo hi M' M'') : sm lo hi M M'' := fun q hq => (h' q hq).trans (h q hq)
theorem sm.wd {lo hi lo' hi' : Nat} {M M' : mg_M} (h : sm lo hi M M') (h1 : lo' ≤ lo) (h2 : hi ≤ hi') : sm lo' hi' M M' := fun q hq => h q (by omega)
def isI (M : mg_M) (h : Nat) (xs : List Int32) : Prop := ∃ f : Nat → Int32, M h = some (.inr (1, [.ref (h + 1), .int (nI xs.length)])) ∧ M (h + 1) = some (.inl (0, 60, .inl f)) ∧ xs.length ≤ 60 ∧ ∀ i, i < xs.length → f i = xs.getD i 0
theorem isI.sm {M M' : mg_M} {h : Nat} {xs : List Int32} {lo hi : Nat} (hI : isI M h xs) (hs : sm lo hi M M') (hd : h + 2 ≤ lo ∨ hi ≤ h) : isI M' h xs := by
  obtain ⟨f, h1, h2, h3, h4⟩ := hI
  exact ⟨f, by rw [hs h (by omega)]; exact h1, by rw [hs (h + 1) (by omega)]; exact h2, h3, h4⟩
theorem isI.up {M : mg_M} {h k : Nat} {xs : List Int32} {e : va_E} (hI : isI M h xs) (h0 : k ≠ h) (h1 : k ≠ h + 1) : isI (mg_up M k e) h xs := by
  obtain ⟨f, a1, a2, a3, a4⟩ := hI
  exact ⟨f, by rw [mg_up_n _ _ (Ne.symm h0)]; exact a1, by rw [mg_up_n _ _ (Ne.symm h1)]; exact a2, a3, a4⟩
theorem isI.le {M : mg_M} {h : Nat} {xs : List Int32} (hI : isI M h xs) : xs.length ≤ 60 := hI.choose_spec.2.2.1
theorem nI_clampN {n : Nat} (h : n ≤ 60) : (nI n).toNatClampNeg = n := nI_clamp (by omega)
def atI (xs : List Int32) (i d : Int32) : Int32 := if i < 0 then d else if nI xs.length ≤ i then d else xs.getD i.toNatClampNeg 0
theorem atI_lt {xs : List Int32} {i d : Int32} (h : i < 0) : atI xs i d = d := by simp [atI, h]
theorem atI_ge {xs : List Int32} {i d : Int32} (h : nI xs.length ≤ i) : atI xs i d = d := by simp [atI, h]
theorem atI_in {xs : List Int32} {j : Nat} {d : Int32} (hl : xs.length ≤ 60) (h : j < xs.length) : atI xs (nI j) d = xs.getD j 0 := by
  rw [atI, if_neg (nI_pos (by omega)), if_neg (nI_ge h (by omega)), nI_clampN (by omega)]
def setI (xs : List Int32) (i x : Int32) : List Int32 := if i < 0 then xs else if nI xs.length ≤ i then xs else xs.set i.toNatClampNeg x
theorem setI_lt {xs : List Int32} {i d : Int32} (h : i < 0) : setI xs i d = xs := by simp [setI, h]
theorem setI_ge {xs : List Int32} {i d : Int32} (h : nI xs.length ≤ i) : setI xs i d = xs := by simp [setI, h]
theorem setI_in {xs : List Int32} {j : Nat} {d : Int32} (hl : xs.length ≤ 60) (h : j < xs.length) : setI xs (nI j) d = xs.set j d := by
  rw [setI, if_neg (nI_pos (by omega)), if_neg (nI_ge h (by omega)), nI_clampN (by omega)]
theorem ix_of {xs : List Int32} {i : Int32} (hl : xs.length ≤ 60) (h0 : ¬ i < 0) (h1 : ¬ nI xs.length ≤ i) : ∃ j, j < xs.length ∧ i = nI j := by
  rcases pk_ix i (n := xs.length) (by omega) with h | h | h
  · exact absurd h h0
  · exact absurd h h1
  · exact h
theorem nIw {j n : Nat} (h : j < n) (hn : n ≤ 60) : vp_in (nI j) 60 := vp_in_nI (by omega) (by decide)

set_option maxHeartbeats 4000000 in
set_option maxRecDepth 100000 in
theorem c_In_length {M : mg_M} {h : Nat} {xs : List Int32} (hI : isI M h xs) : mg_Ct Y_In_length { frames := 0, cells := 0, slots := 0, locals := 0 } [.ref h] M (fun v M' => v = some (.int (nI xs.length)) ∧ M' = M) := by
  obtain ⟨f, h1, h2, h3, h4⟩ := hI
  refine mg_met [some (.ref h)] (by decide +kernel) rfl (Nat.le_of_ble_eq_true rfl) ?_
  intro X hR _
  first | refine mg_aload_n d_In_length_0 rfl rfl ?_ | refine mg_aload_nN d_In_length_0 rfl rfl ?_
  refine mg_getfield fl_In_15 d_In_length_1 (by first | assumption | exact mg_up_s _ _ _ | (rw [mg_up_n _ _ (by first | assumption | omega | decide)]; first | assumption | exact mg_up_s _ _ _ | (rw [mg_up_n _ _ (by first | assumption | omega | decide)]; first | assumption | exact mg_up_s _ _ _))) rfl ?_
  exact mg_ireturn d_In_length_4 rfl (by first | rfl | (split <;> rfl)) (Nat.le_of_ble_eq_true rfl) (Nat.le_of_ble_eq_true rfl) ⟨rfl, rfl⟩

set_option maxHeartbeats 4000000 in
set_option maxRecDepth 100000 in
theorem c_In_at {M : mg_M} {h : Nat} {xs : List Int32} {i d : Int32} (hI : isI M h xs) : mg_Ct Y_In_at { frames := 0, cells := 0, slots := 0, locals := 0 } [.ref h, .int i, .int d] M (fun v M' => v = some (.int (atI xs i d)) ∧ M' = M) := by
  obtain ⟨f, h1, h2, h3, h4⟩ := hI
  refine mg_met [some (.ref h), some (.int i), some (.int d)] (by decide +kernel) rfl (Nat.le_of_ble_eq_true rfl) ?_
  intro X hR _
  refine mg_iload_n d_In_at_0 rfl rfl ?_
  refine mg_if_lt (tgt := 30) d_In_at_1 (by decide) (fun c_1 => ?_) (fun c_1 => ?_)
  · refine mg_iload_n d_In_at_30 rfl rfl ?_
    exact mg_ireturn d_In_at_31 rfl rfl (Nat.le_of_ble_eq_true rfl) (Nat.le_of_ble_eq_true rfl) ⟨by rw [atI_lt c_1], rfl⟩
  · refine mg_iload_n d_In_at_4 rfl rfl ?_
    first | refine mg_aload_n d_In_at_5 rfl rfl ?_ | refine mg_aload_nN d_In_at_5 rfl rfl ?_
    refine mg_getfield fl_In_15 d_In_at_6 (by first | assumption | exact mg_up_s _ _ _ | (rw [mg_up_n _ _ (by first | assumption | omega | decide)]; first | assumption | exact mg_up_s _ _ _ | (rw [mg_up_n _ _ (by first | assumption | omega | decide)]; first | assumption | exact mg_up_s _ _ _))) rfl ?_
    refine mg_icmp_ge (tgt := 30) d_In_at_9 (by decide) (fun c_9 => ?_) (fun c_9 => ?_)
    · refine mg_iload_n d_In_at_30 rfl rfl ?_
      exact mg_ireturn d_In_at_31 rfl rfl (Nat.le_of_ble_eq_true rfl) (Nat.le_of_ble_eq_true rfl) ⟨by rw [atI_ge c_9], rfl⟩
    · refine mg_iload_n d_In_at_12 rfl rfl ?_
      first | refine mg_aload_n d_In_at_13 rfl rfl ?_ | refine mg_aload_nN d_In_at_13 rfl rfl ?_
      refine mg_getfield fl_In_9 d_In_at_14 (by first | assumption | exact mg_up_s _ _ _ | (rw [mg_up_n _ _ (by first | assumption | omega | decide)]; first | assumption | exact mg_up_s _ _ _ | (rw [mg_up_n _ _ (by first | assumption | omega | decide)]; first | assumption | exact mg_up_s _ _ _))) rfl ?_
      refine mg_arrlen (v := nI 60) rfl d_In_at_17 (by first | assumption | exact mg_up_s _ _ _ | (rw [mg_up_n _ _ (by first | assumption | omega | decide)]; first | assumption | exact mg_up_s _ _ _ | (rw [mg_up_n _ _ (by first | assumption | omega | decide)]; first | assumption | exact mg_up_s _ _ _))) rfl ?_
      refine mg_icmp_ge (tgt := 30) d_In_at_18 (by decide) (fun c_18 => ?_) (fun c_18 => ?_)
      · obtain ⟨j, hj, rfl⟩ := ix_of h3 c_1 c_9
        exact absurd c_18 (nI_ge (by omega) (by decide))
      · obtain ⟨j, hj, rfl⟩ := ix_of h3 c_1 c_9
        have hin := nIw hj h3
        first | refine mg_aload_n d_In_at_21 rfl rfl ?_ | refine mg_aload_nN d_In_at_21 rfl rfl ?_
        refine mg_getfield fl_In_9 d_In_at_22 (by first | assumption | exact mg_up_s _ _ _ | (rw [mg_up_n _ _ (by first | assumption | omega | decide)]; first | assumption | exact mg_up_s _ _ _ | (rw [mg_up_n _ _ (by first | assumption | omega | decide)]; first | assumption | exact mg_up_s _ _ _))) rfl ?_
        refine mg_iload_n d_In_at_25 rfl rfl ?_
        refine mg_iaload rfl d_In_at_26 (by first | assumption | exact mg_up_s _ _ _ | (rw [mg_up_n _ _ (by first | assumption | omega | decide)]; first | assumption | exact mg_up_s _ _ _ | (rw [mg_up_n _ _ (by first | assumption | omega | decide)]; first | assumption | exact mg_up_s _ _ _))) (by assumption) ?_
        refine mg_goto (tgt := 31) d_In_at_27 (by decide) ?_
        exact mg_ireturn d_In_at_31 rfl rfl (Nat.le_of_ble_eq_true rfl) (Nat.le_of_ble_eq_true rfl) ⟨by rw [atI_in h3 hj, nI_clampN (by omega), h4 j hj], rfl⟩

set_option maxHeartbeats 4000000 in
set_option maxRecDepth 100000 in
theorem c_In_set {M : mg_M} {h : Nat} {xs : List Int32} {i x : Int32} (hI : isI M h xs) : mg_Ct Y_In_set { frames := 0, cells := 0, slots := 0, locals := 0 } [.ref h, .int i, .int x] M (fun v M' => v = none ∧ isI M' h (setI xs i x) ∧ sm h (h + 2) M M') := by
  obtain ⟨f, h1, h2, h3, h4⟩ := hI
  refine mg_met [some (.ref h), some (.int i), some (.int x)] (by decide +kernel) rfl (Nat.le_of_ble_eq_true rfl) ?_
  intro X hR _
  refine mg_iload_n d_In_set_0 rfl rfl ?_
  refine mg_if_lt (tgt := 28) d_In_set_1 (by decide) (fun c_1 => ?_) (fun c_1 => ?_)
  · exact mg_return d_In_set_28 rfl (Nat.le_of_ble_eq_true rfl) (Nat.le_of_ble_eq_true rfl) ⟨rfl, by rw [setI_lt c_1]; exact ⟨f, h1, h2, h3, h4⟩, sm.rf⟩
  · refine mg_iload_n d_In_set_4 rfl rfl ?_
    first | refine mg_aload_n d_In_set_5 rfl rfl ?_ | refine mg_aload_nN d_In_set_5 rfl rfl ?_
    refine mg_getfield fl_In_15 d_In_set_6 (by first | assumption | exact mg_up_s _ _ _ | (rw [mg_up_n _ _ (by first | assumption | omega | decide)]; first | assumption | exact mg_up_s _ _ _ | (rw [mg_up_n _ _ (by first | assumption | omega | decide)]; first | assumption | exact mg_up_s _ _ _))) rfl ?_
    refine mg_icmp_ge (tgt := 28) d_In_set_9 (by decide) (fun c_9 => ?_) (fun c_9 => ?_)
    · exact mg_return d_In_set_28 rfl (Nat.le_of_ble_eq_true rfl) (Nat.le_of_ble_eq_true rfl) ⟨rfl, by rw [setI_ge c_9]; exact ⟨f, h1, h2, h3, h4⟩, sm.rf⟩
    · refine mg_iload_n d_In_set_12 rfl rfl ?_
      first | refine mg_aload_n d_In_set_13 rfl rfl ?_ | refine mg_aload_nN d_In_set_13 rfl rfl ?_
      refine mg_getfield fl_In_9 d_In_set_14 (by first | assumption | exact mg_up_s _ _ _ | (rw [mg_up_n _ _ (by first | assumption | omega | decide)]; first | assumption | exact mg_up_s _ _ _ | (rw [mg_up_n _ _ (by first | assumption | omega | decide)]; first | assumption | exact mg_up_s _ _ _))) rfl ?_
      refine mg_arrlen (v := nI 60) rfl d_In_set_17 (by first | assumption | exact mg_up_s _ _ _ | (rw [mg_up_n _ _ (by first | assumption | omega | decide)]; first | assumption | exact mg_up_s _ _ _ | (rw [mg_up_n _ _ (by first | assumption | omega | decide)]; first | assumption | exact mg_up_s _ _ _))) rfl ?_
      refine mg_icmp_ge (tgt := 28) d_In_set_18 (by decide) (fun c_18 => ?_) (fun c_18 => ?_)
      · obtain ⟨j, hj, rfl⟩ := ix_of h3 c_1 c_9
        exact absurd c_18 (nI_ge (by omega) (by decide))
      · obtain ⟨j, hj, rfl⟩ := ix_of h3 c_1 c_9
        have hin := nIw hj h3
        first | refine mg_aload_n d_In_set_21 rfl rfl ?_ | refine mg_aload_nN d_In_set_21 rfl rfl ?_
        refine mg_getfield fl_In_9 d_In_set_22 (by first | assumption | exact mg_up_s _ _ _ | (rw [mg_up_n _ _ (by first | assumption | omega | decide)]; first | assumption | exact mg_up_s _ _ _ | (rw [mg_up_n _ _ (by first | assumption | omega | decide)]; first | assumption | exact mg_up_s _ _ _))) rfl ?_
        refine mg_iload_n d_In_set_25 rfl rfl ?_
        refine mg_iload_n d_In_set_26 rfl rfl ?_
        refine mg_iastore rfl d_In_set_27 (by first | assumption | exact mg_up_s _ _ _ | (rw [mg_up_n _ _ (by first | assumption | omega | decide)]; first | assumption | exact mg_up_s _ _ _ | (rw [mg_up_n _ _ (by first | assumption | omega | decide)]; first | assumption | exact mg_up_s _ _ _))) (by assumption) ?_
        refine mg_return d_In_set_28 rfl (Nat.le_of_ble_eq_true rfl) (Nat.le_of_ble_eq_true rfl) ⟨rfl, ?_, sm.rf.up (by omega) (by omega)⟩
        rw [setI_in h3 hj, nI_clampN (by omega)]
        refine ⟨upd f j x, by rw [mg_up_n _ _ (by omega), List.length_set]; exact h1, mg_up_s _ _ _, by rw [List.length_set]; exact h3, fun q hq => ?_⟩
        rw [List.length_set] at hq
        by_cases hqj : q = j
        · subst hqj; rw [pk_us]; simp [List.getD_eq_getElem?_getD, hq]
        · rw [pk_un hqj, h4 q hq]; simp [List.getD_eq_getElem?_getD, List.getElem?_set_ne (Ne.symm hqj)]

set_option maxHeartbeats 4000000 in
set_option maxRecDepth 100000 in
theorem c_In_add {M : mg_M} {h : Nat} {xs : List Int32} {x : Int32} (hI : isI M h xs) : mg_Ct Y_In_add { frames := 0, cells := 0, slots := 0, locals := 0 } [.ref h, .int x] M (fun v M' => v = some (.int (if xs.length < 60 then 1 else 0)) ∧ isI M' h (if xs.length < 60 then xs ++ [x] else xs) ∧ sm h (h + 2) M M') := by
  obtain ⟨f, h1, h2, h3, h4⟩ := hI
  refine mg_met [some (.ref h), some (.int x)] (by decide +kernel) rfl (Nat.le_of_ble_eq_true rfl) ?_
  intro X hR _
  first | refine mg_aload_n d_In_add_0 rfl rfl ?_ | refine mg_aload_nN d_In_add_0 rfl rfl ?_
  refine mg_getfield fl_In_15 d_In_add_1 (by first | assumption | exact mg_up_s _ _ _ | (rw [mg_up_n _ _ (by first | assumption | omega | decide)]; first | assumption | exact mg_up_s _ _ _ | (rw [mg_up_n _ _ (by first | assumption | omega | decide)]; first | assumption | exact mg_up_s _ _ _))) rfl ?_
  refine mg_if_lt (tgt := 19) d_In_add_4 (by decide) (fun c_4 => ?_) (fun c_4 => ?_)
  · exact absurd c_4 (nI_pos (by omega))
  · first | refine mg_aload_n d_In_add_7 rfl rfl ?_ | refine mg_aload_nN d_In_add_7 rfl rfl ?_
    refine mg_getfield fl_In_15 d_In_add_8 (by first | assumption | exact mg_up_s _ _ _ | (rw [mg_up_n _ _ (by first | assumption | omega | decide)]; first | assumption | exact mg_up_s _ _ _ | (rw [mg_up_n _ _ (by first | assumption | omega | decide)]; first | assumption | exact mg_up_s _ _ _))) rfl ?_
    first | refine mg_aload_n d_In_add_11 rfl rfl ?_ | refine mg_aload_nN d_In_add_11 rfl rfl ?_
    refine mg_getfield fl_In_9 d_In_add_12 (by first | assumption | exact mg_up_s _ _ _ | (rw [mg_up_n _ _ (by first | assumption | omega | decide)]; first | assumption | exact mg_up_s _ _ _ | (rw [mg_up_n _ _ (by first | assumption | omega | decide)]; first | assumption | exact mg_up_s _ _ _))) rfl ?_
    refine mg_arrlen (v := nI 60) rfl d_In_add_15 (by first | assumption | exact mg_up_s _ _ _ | (rw [mg_up_n _ _ (by first | assumption | omega | decide)]; first | assumption | exact mg_up_s _ _ _ | (rw [mg_up_n _ _ (by first | assumption | omega | decide)]; first | assumption | exact mg_up_s _ _ _))) rfl ?_
    refine mg_icmp_lt (tgt := 21) d_In_add_16 (by decide) (fun c_16 => ?_) (fun c_16 => ?_)
    · have hlt : xs.length < 60 := by
        rcases Nat.lt_or_ge xs.length 60 with q | q
        · exact q
        · exact absurd c_16 (nI_nlt q (by omega))
      have hin := nIw (n := 60) hlt (by decide)
      first | refine mg_aload_n d_In_add_21 rfl rfl ?_ | refine mg_aload_nN d_In_add_21 rfl rfl ?_
      refine mg_getfield fl_In_9 d_In_add_22 (by first | assumption | exact mg_up_s _ _ _ | (rw [mg_up_n _ _ (by first | assumption | omega | decide)]; first | assumption | exact mg_up_s _ _ _ | (rw [mg_up_n _ _ (by first | assumption | omega | decide)]; first | assumption | exact mg_up_s _ _ _))) rfl ?_
      first | refine mg_aload_n d_In_add_25 rfl rfl ?_ | refine mg_aload_nN d_In_add_25 rfl rfl ?_
      refine mg_getfield fl_In_15 d_In_add_26 (by first | assumption | exact mg_up_s _ _ _ | (rw [mg_up_n _ _ (by first | assumption | omega | decide)]; first | assumption | exact mg_up_s _ _ _ | (rw [mg_up_n _ _ (by first | assumption | omega | decide)]; first | assumption | exact mg_up_s _ _ _))) rfl ?_
      refine mg_iload_n d_In_add_29 rfl rfl ?_
      refine mg_iastore rfl d_In_add_30 (by first | assumption | exact mg_up_s _ _ _ | (rw [mg_up_n _ _ (by first | assumption | omega | decide)]; first | assumption | exact mg_up_s _ _ _ | (rw [mg_up_n _ _ (by first | assumption | omega | decide)]; first | assumption | exact mg_up_s _ _ _))) (by assumption) ?_
      first | refine mg_aload_n d_In_add_31 rfl rfl ?_ | refine mg_aload_nN d_In_add_31 rfl rfl ?_
      refine mg_dup d_In_add_32 rfl ?_
      refine mg_getfield fl_In_15 d_In_add_33 (by first | assumption | exact mg_up_s _ _ _ | (rw [mg_up_n _ _ (by first | assumption | omega | decide)]; first | assumption | exact mg_up_s _ _ _ | (rw [mg_up_n _ _ (by first | assumption | omega | decide)]; first | assumption | exact mg_up_s _ _ _))) rfl ?_
      refine mg_iconst (v := 1) d_In_add_36 (by decide) ?_
      refine mg_iadd d_In_add_37 ?_
      refine mg_putfield (fw_In_15 _) d_In_add_38 (by first | assumption | exact mg_up_s _ _ _ | (rw [mg_up_n _ _ (by first | assumption | omega | decide)]; first | assumption | exact mg_up_s _ _ _ | (rw [mg_up_n _ _ (by first | assumption | omega | decide)]; first | assumption | exact mg_up_s _ _ _))) (Nat.le_of_ble_eq_true rfl) (fun _ => ⟨rfl, rfl⟩) ?_
      refine mg_iconst (v := 1) d_In_add_41 (by decide) ?_
      refine mg_ireturn d_In_add_42 rfl rfl (Nat.le_of_ble_eq_true rfl) (Nat.le_of_ble_eq_true rfl) ⟨by rw [if_pos hlt], ?_, (sm.rf.up (by omega) (by omega)).up (by omega) (by omega)⟩
      rw [if_pos hlt]
      refine ⟨upd f xs.length x, ?_, ?_, by simp; omega, fun q hq => ?_⟩
      · rw [mg_up_s, List.length_append, ← nI_add]; rfl
      · rw [mg_up_n _ _ (by omega), mg_up_s, nI_clampN (by omega)]
      · rw [List.length_append] at hq
        by_cases hqj : q = xs.length
        · subst hqj; rw [pk_us]; simp
        · rw [pk_un hqj, h4 q (by simp at hq; omega)]
          have hq2 : q < xs.length := by simp at hq; omega
          simp [List.getD_eq_getElem?_getD, List.getElem?_append_left hq2]
    · have hge : ¬ xs.length < 60 := fun hlt => c_16 (nI_lt hlt (by decide))
      refine mg_iconst (v := 0) d_In_add_19 (by decide) ?_
      exact mg_ireturn d_In_add_20 rfl rfl (Nat.le_of_ble_eq_true rfl) (Nat.le_of_ble_eq_true rfl) ⟨by rw [if_neg hge], by rw [if_neg hge]; exact ⟨f, h1, h2, h3, h4⟩, sm.rf⟩
end
section
/-! INTS, loops -/
theorem cut_eq {l : Nat} (n : Int32) (hl : l ≤ 60) : (if 0 < (if n < nI l then n else nI l) then (if n < nI l then n else nI l) else (0 : Int32)) = nI (min n.toNatClampNeg l) := by
  by_cases h0 : n < 0
  · have h1 : n.toNatClampNeg = 0 := by
      have := Int32.lt_iff_toInt_lt.mp h0
      simp at this
      show n.toInt.toNat = 0
      omega
    have h2 : n < nI l := by
      have a := Int32.lt_iff_toInt_lt.mp h0
      rw [Int32.lt_iff_toInt_lt, nI_toInt (by omega)]
      simp at a; omega
    rw [if_pos h2, h1, Nat.zero_min, if_neg (fun h => by
      have a := Int32.lt_iff_toInt_lt.mp h0
      have b := Int32.lt_iff_toInt_lt.mp h
      omega)]
    exact nI_0.symm
  · obtain ⟨j, hj, rfl⟩ := nI_of h0
    rw [nI_clamp hj]
    by_cases hjl : j < l
    · rw [if_pos (nI_lt hjl (by omega)), Nat.min_eq_left (by omega)]
      by_cases hz : 0 < j
      · rw [if_pos (by rw [← nI_0]; exact nI_lt hz hj)]
      · rw [if_neg (by rw [← nI_0]; exact nI_nlt (by omega) (by decide))]
        rw [show j = 0 by omega]; exact nI_0.symm
    · rw [if_neg (nI_nlt (by omega) (by omega)), Nat.min_eq_right (by omega)]
      by_cases hz : 0 < l
      · rw [if_pos (by rw [← nI_0]; exact nI_lt hz (by omega))]
      · rw [if_neg (by rw [← nI_0]; exact nI_nlt (by omega) (by decide))]
        rw [show l = 0 by omega]; exact nI_0.symm

set_option maxHeartbeats 4000000 in
set_option maxRecDepth 100000 in
theorem c_In_init {M : mg_M} {h : Nat} (h1 : M h = some (.inr (1, [.null, .int 0]))) (h2 : M (h + 1) = none) : mg_Ct Y_In_init { frames := 1, cells := 1, slots := 60, locals := 12 } [.ref h] M (fun v M' => v = none ∧ isI M' h [] ∧ sm h (h + 2) M M') := by
  refine mg_met [some (.ref h)] (by decide +kernel) rfl (Nat.le_of_ble_eq_true rfl) ?_
  intro X hR _
  first | refine mg_aload_n d_In_init_0 rfl rfl ?_ | refine mg_aload_nN d_In_init_0 rfl rfl ?_
  refine mg_objInit ol_In_3 oi_inst oi_code d_In_init_1 (by rw [hR]; decide) (by rw [hR]; exact Nat.le_of_ble_eq_true rfl) ?_
  first | refine mg_aload_n d_In_init_4 rfl rfl ?_ | refine mg_aload_nN d_In_init_4 rfl rfl ?_
  refine mg_bipush (v := 60) d_In_init_5 (by decide) ?_
  refine mg_newarr (t := 0) (nn := 60) (h := h + 1) rfl ac_int d_In_init_7 (by omega) h2 (by decide) (by decide) (by decide) (by rw [hR]; decide) (by rw [hR]; decide) ?_
  refine mg_putfield fw_In_9 d_In_init_9 (by first | assumption | exact mg_up_s _ _ _ | (rw [mg_up_n _ _ (by first | assumption | omega | decide)]; first | assumption | exact mg_up_s _ _ _ | (rw [mg_up_n _ _ (by first | assumption | omega | decide)]; first | assumption | exact mg_up_s _ _ _))) (Nat.le_of_ble_eq_true rfl) (fun _ => ⟨rfl, rfl⟩) ?_
  refine mg_return d_In_init_12 rfl (Nat.le_of_ble_eq_true rfl) (Nat.le_of_ble_eq_true rfl) ⟨rfl, ?_, (sm.rf.up (by omega) (by omega)).up (by omega) (by omega)⟩
  refine ⟨fun _ => 0, ?_, ?_, by simp, fun q hq => by simp at hq⟩
  · rw [mg_up_s]; simp [nI_0]
  · rw [mg_up_n _ _ (by omega), mg_up_s]

set_option maxHeartbeats 4000000 in
set_option maxRecDepth 100000 in
theorem c_In_cutTo {M : mg_M} {h : Nat} {xs : List Int32} {n : Int32} (hI : isI M h xs) : mg_Ct Y_In_cutTo { frames := 1, cells := 0, slots := 0, locals := 20 } [.ref h, .int n] M (fun v M' => v = none ∧ isI M' h (xs.take n.toNatClampNeg) ∧ sm h (h + 2) M M') := by
  obtain ⟨f, h1, h2, h3, h4⟩ := hI
  refine mg_met [some (.ref h), some (.int n)] (by decide +kernel) rfl (Nat.le_of_ble_eq_true rfl) ?_
  intro X hR _
  first | refine mg_aload_n d_In_cutTo_0 rfl rfl ?_ | refine mg_aload_nN d_In_cutTo_0 rfl rfl ?_
  refine mg_iconst (v := 0) d_In_cutTo_1 (by decide) ?_
  first | refine mg_aload_n d_In_cutTo_2 rfl rfl ?_ | refine mg_aload_nN d_In_cutTo_2 rfl rfl ?_
  refine mg_getfield fl_In_15 d_In_cutTo_3 (by first | assumption | exact mg_up_s _ _ _ | (rw [mg_up_n _ _ (by first | assumption | omega | decide)]; first | assumption | exact mg_up_s _ _ _ | (rw [mg_up_n _ _ (by first | assumption | omega | decide)]; first | assumption | exact mg_up_s _ _ _))) rfl ?_
  refine mg_iload_n d_In_cutTo_6 rfl rfl ?_
  refine mg_min ml_In_19 mt_min_s mt_init mt_min_c d_In_cutTo_7 (by rw [hR]; decide) (by rw [hR]; exact Nat.le_of_ble_eq_true rfl) (by rw [hR]; exact Nat.le_of_ble_eq_true rfl) (by rw [hR]; exact Nat.le_of_ble_eq_true rfl) ?_
  refine mg_max ml_In_25 mt_max_s mt_init mt_max_c d_In_cutTo_10 (by rw [hR]; decide) (by rw [hR]; exact Nat.le_of_ble_eq_true rfl) (by rw [hR]; exact Nat.le_of_ble_eq_true rfl) (by rw [hR]; exact Nat.le_of_ble_eq_true rfl) ?_
  refine mg_eqi (cut_eq n h3) ?_
  refine mg_putfield (fw_In_15 _) d_In_cutTo_13 (by first | assumption | exact mg_up_s _ _ _ | (rw [mg_up_n _ _ (by first | assumption | omega | decide)]; first | assumption | exact mg_up_s _ _ _ | (rw [mg_up_n _ _ (by first | assumption | omega | decide)]; first | assumption | exact mg_up_s _ _ _))) (Nat.le_of_ble_eq_true rfl) (fun _ => ⟨rfl, rfl⟩) ?_
  refine mg_return d_In_cutTo_16 rfl (Nat.le_of_ble_eq_true rfl) (Nat.le_of_ble_eq_true rfl) ⟨rfl, ?_, sm.rf.up (by omega) (by omega)⟩
  refine ⟨f, ?_, ?_, by simp; omega, fun q hq => ?_⟩
  · rw [mg_up_s, List.length_take]; rfl
  · rw [mg_up_n _ _ (by omega)]; exact h2
  · simp at hq
    rw [h4 q (by omega)]
    have hq1 : q < n.toNatClampNeg := by omega
    simp [List.getD_eq_getElem?_getD, List.getElem?_take, hq1]

def cutL (ys : List Int32) (a b : Nat) : List Int32 := ys.take a ++ ys.drop (a + b)
theorem cutL_00 (ys : List Int32) : cutL ys 0 0 = ys := by simp [cutL]
theorem cutL_in {ys : List Int32} {a b i : Nat} (hi : i < ys.length) (h : i < a ∨ a + b ≤ i) : cutL (ys.take (i + 1)) a b = cutL (ys.take i) a b ++ [ys.getD i 0] := by
  have e : ys.take (i + 1) = ys.take i ++ [ys.getD i 0] := by
    rw [List.take_add_one, List.getD_eq_getElem?_getD]
    simp [hi]
  have hl : (ys.take i).length = i := by simp; omega
  unfold cutL
  rw [e]
  rcases h with h | h
  · rw [List.take_of_length_le (l := ys.take i ++ _) (by simp; omega), List.take_of_length_le (l := ys.take i) (by omega), List.drop_of_length_le (l := ys.take i ++ _) (by simp; omega), List.drop_of_length_le (l := ys.take i) (by omega)]
    simp
  · rw [List.take_append_of_le_length (by omega), List.drop_append_of_le_length (by omega), List.append_assoc]
theorem cutL_out {ys : List Int32} {a b i : Nat} (hi : i < ys.length) (h : ¬ (i < a ∨ a + b ≤ i)) : cutL (ys.take (i + 1)) a b = cutL (ys.take i) a b := by
  have e : ys.take (i + 1) = ys.take i ++ [ys.getD i 0] := by
    rw [List.take_add_one, List.getD_eq_getElem?_getD]
    simp [hi]
  have hl : (ys.take i).length = i := by simp; omega
  unfold cutL
  rw [e, List.take_append_of_le_length (by omega), List.drop_of_length_le (l := ys.take i ++ _) (by simp; omega), List.drop_of_length_le (l := ys.take i) (by omega)]
theorem cutL_len (ys : List Int32) (a b : Nat) : (cutL ys a b).length ≤ ys.length := by simp [cutL]; omega

set_option maxHeartbeats 4000000 in
set_option maxRecDepth 100000 in
theorem lp_In_cw {X : mg_X} {M0 : mg_M} {h h2 a b : Nat} {ys : List Int32} (hR : mg_R X = { frames := 1, cells := 0, slots := 0, locals := 22 }) (hd : h + 2 ≤ h2 ∨ h2 + 2 ≤ h) (hab : a + b < 2 ^ 30) : ∀ n : Nat, ∀ (i : Nat) (M : mg_M), ys.length - i < n → i ≤ ys.length → isI M h (cutL (ys.take i) a b) → isI M h2 ys → sm h (h + 2) M0 M → mg_G X Y_In_copyWithout (mg_Q X (fun v M' => v = none ∧ isI M' h (cutL ys a b) ∧ sm h (h + 2) M0 M') { frames := 1, cells := 0, slots := 0, locals := 22 }) M 0 0 8 [some (.ref h), some (.ref h2), some (.int (nI a)), some (.int (nI b)), some (.int (nI i))] [] := by
  intro n
  induction n with
  | zero =>
    intro i M hn hi hI hY hs
    exact absurd hn (by omega)
  | succ n ih =>
    intro i M hn hi hI hY hs
    refine mg_iload d_In_copyWithout_8 rfl ?_
    first | refine mg_aload_n d_In_copyWithout_10 rfl rfl ?_ | refine mg_aload_nN d_In_copyWithout_10 rfl rfl ?_
    refine mg_getfield fl_In_15 d_In_copyWithout_11 (by first | (obtain ⟨_, e1, -⟩ := hY; exact e1) | (obtain ⟨_, e1, -⟩ := hI; exact e1)) rfl ?_
    refine mg_icmp_ge (tgt := 49) d_In_copyWithout_14 (by decide) (fun c_14 => ?_) (fun c_14 => ?_)
    · have hge : ys.length ≤ i := by
        rcases Nat.lt_or_ge i ys.length with q | q
        · exact absurd c_14 (nI_ge q (by have := hY.le; omega))
        · exact q
      rw [List.take_of_length_le hge] at hI
      exact mg_return d_In_copyWithout_49 rfl (Nat.le_of_ble_eq_true rfl) (Nat.le_of_ble_eq_true rfl) ⟨rfl, hI, hs⟩
    · have hi2 : i < ys.length := by
        rcases Nat.lt_or_ge i ys.length with q | q
        · exact q
        · exact absurd (nI_le q (by have := hY.le; omega)) c_14
      have hlt60 : (cutL (ys.take i) a b).length < 60 := by
        have h1 := cutL_len (ys.take i) a b
        have h2 := hY.le
        simp at h1; omega
      refine mg_iload d_In_copyWithout_17 rfl ?_
      refine mg_iload_n d_In_copyWithout_19 rfl rfl ?_
      refine mg_icmp_lt (tgt := 31) d_In_copyWithout_20 (by decide) (fun c_20 => ?_) (fun c_20 => ?_)
      · have hcond : i < a ∨ a + b ≤ i := Or.inl (by
          rcases Nat.lt_or_ge i a with q | q
          · exact q
          · exact absurd c_20 (nI_nlt q (by have := hY.le; omega)))
        first | refine mg_aload_n d_In_copyWithout_31 rfl rfl ?_ | refine mg_aload_nN d_In_copyWithout_31 rfl rfl ?_
        first | refine mg_aload_n d_In_copyWithout_32 rfl rfl ?_ | refine mg_aload_nN d_In_copyWithout_32 rfl rfl ?_
        refine mg_iload d_In_copyWithout_33 rfl ?_
        refine mg_iconst (v := 0) d_In_copyWithout_35 (by decide) ?_
        refine mg_callV (vl_In_32 rfl) d_In_copyWithout_36 (by obtain ⟨_, e1, -⟩ := hY; exact e1) rfl rfl (c_In_at hY) rfl rfl (by rw [hR]; decide) (by rw [hR]; decide) (Nat.le_of_ble_eq_true rfl) ?_
        rintro v M1 ⟨rfl, rfl⟩
        refine mg_callV (vl_In_35 rfl) d_In_copyWithout_39 (by obtain ⟨_, e1, -⟩ := hI; exact e1) rfl rfl (c_In_add hI) rfl rfl (by rw [hR]; decide) (by rw [hR]; decide) (Nat.le_of_ble_eq_true rfl) ?_
        rintro v M2 ⟨rfl, hI2, hs2⟩
        rw [if_pos hlt60, atI_in hY.le hi2, ← cutL_in hi2 hcond] at hI2
        have hY := hY.sm hs2 (by omega)
        have hs := hs.tr hs2
        have hI := hI2
        clear hI2 hs2
        refine mg_pop d_In_copyWithout_42 rfl ?_
        refine mg_iinc (v := nI (i + 1)) d_In_copyWithout_43 rfl (by rw [← nI_1]; rfl) (Nat.le_of_ble_eq_true rfl) rfl ?_
        refine mg_goto (tgt := 8) d_In_copyWithout_46 (by decide) ?_
        exact ih (i + 1) _ (by omega) (by omega) hI hY hs
      · refine mg_iload d_In_copyWithout_23 rfl ?_
        refine mg_iload_n d_In_copyWithout_25 rfl rfl ?_
        refine mg_iload_n d_In_copyWithout_26 rfl rfl ?_
        refine mg_iadd d_In_copyWithout_27 ?_
        refine mg_icmp_lt (tgt := 43) d_In_copyWithout_28 (by decide) (fun c_28 => ?_) (fun c_28 => ?_)
        · have hcond : ¬ (i < a ∨ a + b ≤ i) := by
            rintro (q | q)
            · exact c_20 (nI_lt q (by omega))
            · rw [nI_add] at c_28
              exact absurd c_28 (nI_nlt q (by have := hY.le; omega))
          rw [← cutL_out hi2 hcond] at hI
          refine mg_iinc (v := nI (i + 1)) d_In_copyWithout_43 rfl (by rw [← nI_1]; rfl) (Nat.le_of_ble_eq_true rfl) rfl ?_
          refine mg_goto (tgt := 8) d_In_copyWithout_46 (by decide) ?_
          exact ih (i + 1) _ (by omega) (by omega) hI hY hs
        · have hcond : i < a ∨ a + b ≤ i := Or.inr (by
            rcases Nat.lt_or_ge i (a + b) with q | q
            · exact absurd (by rw [nI_add]; exact nI_lt q (by omega)) c_28
            · exact q)
          first | refine mg_aload_n d_In_copyWithout_31 rfl rfl ?_ | refine mg_aload_nN d_In_copyWithout_31 rfl rfl ?_
          first | refine mg_aload_n d_In_copyWithout_32 rfl rfl ?_ | refine mg_aload_nN d_In_copyWithout_32 rfl rfl ?_
          refine mg_iload d_In_copyWithout_33 rfl ?_
          refine mg_iconst (v := 0) d_In_copyWithout_35 (by decide) ?_
          refine mg_callV (vl_In_32 rfl) d_In_copyWithout_36 (by obtain ⟨_, e1, -⟩ := hY; exact e1) rfl rfl (c_In_at hY) rfl rfl (by rw [hR]; decide) (by rw [hR]; decide) (Nat.le_of_ble_eq_true rfl) ?_
          rintro v M1 ⟨rfl, rfl⟩
          refine mg_callV (vl_In_35 rfl) d_In_copyWithout_39 (by obtain ⟨_, e1, -⟩ := hI; exact e1) rfl rfl (c_In_add hI) rfl rfl (by rw [hR]; decide) (by rw [hR]; decide) (Nat.le_of_ble_eq_true rfl) ?_
          rintro v M2 ⟨rfl, hI2, hs2⟩
          rw [if_pos hlt60, atI_in hY.le hi2, ← cutL_in hi2 hcond] at hI2
          have hY := hY.sm hs2 (by omega)
          have hs := hs.tr hs2
          have hI := hI2
          clear hI2 hs2
          refine mg_pop d_In_copyWithout_42 rfl ?_
          refine mg_iinc (v := nI (i + 1)) d_In_copyWithout_43 rfl (by rw [← nI_1]; rfl) (Nat.le_of_ble_eq_true rfl) rfl ?_
          refine mg_goto (tgt := 8) d_In_copyWithout_46 (by decide) ?_
          exact ih (i + 1) _ (by omega) (by omega) hI hY hs

set_option maxHeartbeats 4000000 in
set_option maxRecDepth 100000 in
theorem c_In_copyWithout {M : mg_M} {h h2 a b : Nat} {xs ys : List Int32} (hI : isI M h xs) (hY : isI M h2 ys) (hd : h + 2 ≤ h2 ∨ h2 + 2 ≤ h) (hab : a + b < 2 ^ 30) : mg_Ct Y_In_copyWithout { frames := 1, cells := 0, slots := 0, locals := 22 } [.ref h, .ref h2, .int (nI a), .int (nI b)] M (fun v M' => v = none ∧ isI M' h (cutL ys a b) ∧ sm h (h + 2) M M') := by
  refine mg_met [some (.ref h), some (.ref h2), some (.int (nI a)), some (.int (nI b)), none] (by decide +kernel) rfl (Nat.le_of_ble_eq_true rfl) ?_
  intro X hR _
  first | refine mg_aload_n d_In_copyWithout_0 rfl rfl ?_ | refine mg_aload_nN d_In_copyWithout_0 rfl rfl ?_
  refine mg_iconst (v := 0) d_In_copyWithout_1 (by decide) ?_
  refine mg_putfield (fw_In_15 _) d_In_copyWithout_2 (by obtain ⟨_, e1, -⟩ := hI; exact e1) (Nat.le_of_ble_eq_true rfl) (fun _ => ⟨rfl, rfl⟩) ?_
  refine mg_iconst (v := 0) d_In_copyWithout_5 (by decide) ?_
  refine mg_istore d_In_copyWithout_6 (Nat.le_of_ble_eq_true rfl) rfl ?_
  refine lp_In_cw (M0 := M) hR hd hab (ys.length + 1) 0 _ (by omega) (by omega) ?_ (hY.up (by omega) (by omega)) (sm.rf.up (by omega) (by omega))
  obtain ⟨f, h1, h2, h3, h4⟩ := hI
  refine ⟨f, ?_, ?_, by simp [cutL], fun q hq => by simp [cutL] at hq⟩
  · rw [mg_up_s]; simp [cutL, nI_0]
  · rw [mg_up_n _ _ (by omega)]; exact h2

set_option maxHeartbeats 4000000 in
set_option maxRecDepth 100000 in
theorem c_In_copyFrom {M : mg_M} {h h2 : Nat} {xs ys : List Int32} (hI : isI M h xs) (hY : isI M h2 ys) (hd : h + 2 ≤ h2 ∨ h2 + 2 ≤ h) : mg_Ct Y_In_copyFrom { frames := 2, cells := 0, slots := 0, locals := 46 } [.ref h, .ref h2] M (fun v M' => v = none ∧ isI M' h ys ∧ sm h (h + 2) M M') := by
  refine mg_met [some (.ref h), some (.ref h2)] (by decide +kernel) rfl (Nat.le_of_ble_eq_true rfl) ?_
  intro X hR _
  first | refine mg_aload_n d_In_copyFrom_0 rfl rfl ?_ | refine mg_aload_nN d_In_copyFrom_0 rfl rfl ?_
  first | refine mg_aload_n d_In_copyFrom_1 rfl rfl ?_ | refine mg_aload_nN d_In_copyFrom_1 rfl rfl ?_
  refine mg_iconst (v := 0) d_In_copyFrom_2 (by decide) ?_
  refine mg_iconst (v := 0) d_In_copyFrom_3 (by decide) ?_
  refine mg_callV (vl_In_28 rfl) d_In_copyFrom_4 (by obtain ⟨_, e1, -⟩ := hI; exact e1) rfl rfl (c_In_copyWithout (a := 0) (b := 0) hI hY hd (by decide)) rfl rfl (by rw [hR]; decide) (by rw [hR]; decide) (Nat.le_of_ble_eq_true rfl) ?_
  rintro v M1 ⟨rfl, h1, h2⟩
  rw [cutL_00] at h1
  exact mg_return d_In_copyFrom_7 rfl (Nat.le_of_ble_eq_true rfl) (Nat.le_of_ble_eq_true rfl) ⟨rfl, h1, h2⟩
end
section
/-! INTS: sums, raising, searching -/
def sumF (s : Int64) (l : List Int32) : Int64 := l.foldl (fun s x => s + x.toInt64) s
theorem drop_cons {xs : List Int32} {i : Nat} (h : i < xs.length) : xs.drop i = xs.getD i 0 :: xs.drop (i + 1) := by
  rw [List.drop_eq_getElem_cons h, List.getD_eq_getElem?_getD]
  simp [h]
def raiseL (zs : List Int32) (i : Nat) (by' : Int32) : List Int32 := zs.take i ++ (zs.drop i).map (fun x => x + by')
theorem raiseL_len (zs : List Int32) (i : Nat) (b : Int32) : (raiseL zs i b).length = zs.length := by simp [raiseL]; omega
theorem raiseL_end {zs : List Int32} {i : Nat} {b : Int32} (h : zs.length ≤ i) : raiseL zs i b = zs := by
  simp [raiseL, List.take_of_length_le h, List.drop_of_length_le h]
theorem raiseL_step {zs : List Int32} {i : Nat} {b : Int32} (h : i < zs.length) : raiseL (zs.set i (zs.getD i 0 + b)) (i + 1) b = raiseL zs i b := by
  unfold raiseL
  rw [drop_cons h, List.map_cons, List.drop_set_of_lt (by omega), List.take_set, List.take_add_one]
  have e : zs[i]?.toList = [zs.getD i 0] := by simp [List.getD_eq_getElem?_getD, h]
  rw [e]
  have hl : (zs.take i).length = i := by simp; omega
  rw [List.set_append_right _ _ (by omega), hl]
  simp
def hasL (l : List Int32) (k : Int32) : Bool := l.any (fun x => x == k)
def fallL : List Int32 → Bool
  | x :: y :: r => decide (y < x) || fallL (y :: r)
  | _ => false
def bI (b : Bool) : Int32 := if b = true then 1 else 0
theorem bI_nar (b : Bool) : narrow .boolean (.int (bI b)) = .int (bI b) := by cases b <;> rfl
theorem bI_fit (b : Bool) (ad : Nat → Nat) : narrow .boolean (mg_tr ad (.int (bI b))) = mg_tr ad (.int (bI b)) ∧ fits .boolean (mg_tr ad (.int (bI b))) = true := by cases b <;> exact ⟨rfl, rfl⟩

set_option maxHeartbeats 4000000 in
set_option maxRecDepth 100000 in
theorem lp_In_total {X : mg_X} {M : mg_M} {h : Nat} {xs : List Int32} {a : Int32} {r : Int64} (hR : mg_R X = { frames := 1, cells := 0, slots := 0, locals := 22 }) (hI : isI M h xs) : ∀ n : Nat, ∀ (i : Nat) (s : Int64), xs.length - i < n → i < 2 ^ 30 → sumF s (xs.drop i) = r → mg_G X Y_In_totalFrom (mg_Q X (fun v M' => v = some (.long r) ∧ M' = M) { frames := 1, cells := 0, slots := 0, locals := 22 }) M 0 0 5 [some (.ref h), some (.int a), some (.long s), none, some (.int (nI i))] [] := by
  intro n
  induction n with
  | zero =>
    intro i s hn hi hr
    exact absurd hn (by omega)
  | succ n ih =>
    intro i s hn hi hr
    refine mg_iload d_In_totalFrom_5 rfl ?_
    first | refine mg_aload_n d_In_totalFrom_7 rfl rfl ?_ | refine mg_aload_nN d_In_totalFrom_7 rfl rfl ?_
    refine mg_getfield fl_In_15 d_In_totalFrom_8 (by obtain ⟨_, e1, -⟩ := hI; exact e1) rfl ?_
    refine mg_icmp_ge (tgt := 31) d_In_totalFrom_11 (by decide) (fun c_11 => ?_) (fun c_11 => ?_)
    · have hge : xs.length ≤ i := by
        rcases Nat.lt_or_ge i xs.length with q | q
        · exact absurd c_11 (nI_ge q (by have := hI.le; omega))
        · exact q
      rw [List.drop_of_length_le hge] at hr
      refine mg_lload_n d_In_totalFrom_31 rfl rfl ?_
      exact mg_lreturn d_In_totalFrom_32 rfl (Nat.le_of_ble_eq_true rfl) (Nat.le_of_ble_eq_true rfl) ⟨by rw [← hr]; rfl, rfl⟩
    · have hi2 : i < xs.length := by
        rcases Nat.lt_or_ge i xs.length with q | q
        · exact q
        · exact absurd (nI_le q (by omega)) c_11
      refine mg_lload_n d_In_totalFrom_14 rfl rfl ?_
      first | refine mg_aload_n d_In_totalFrom_15 rfl rfl ?_ | refine mg_aload_nN d_In_totalFrom_15 rfl rfl ?_
      refine mg_iload d_In_totalFrom_16 rfl ?_
      refine mg_iconst (v := 0) d_In_totalFrom_18 (by decide) ?_
      refine mg_callV (vl_In_32 rfl) d_In_totalFrom_19 (by obtain ⟨_, e1, -⟩ := hI; exact e1) rfl rfl (c_In_at hI) rfl rfl (by rw [hR]; decide) (by rw [hR]; decide) (Nat.le_of_ble_eq_true rfl) ?_
      rintro v M1 ⟨rfl, rfl⟩
      refine mg_eqi (atI_in hI.le hi2) ?_
      refine mg_i2l d_In_totalFrom_22 ?_
      refine mg_ladd d_In_totalFrom_23 ?_
      refine mg_lstore_n d_In_totalFrom_24 rfl (Nat.le_of_ble_eq_true rfl) rfl ?_
      refine mg_iinc (v := nI (i + 1)) d_In_totalFrom_25 rfl (nI_1 _) (Nat.le_of_ble_eq_true rfl) rfl ?_
      refine mg_goto (tgt := 5) d_In_totalFrom_28 (by decide) ?_
      refine ih (i + 1) _ (by omega) (by have := hI.le; omega) ?_
      rw [drop_cons hi2] at hr
      exact hr

set_option maxHeartbeats 4000000 in
set_option maxRecDepth 100000 in
theorem c_In_totalFrom {M : mg_M} {h a : Nat} {xs : List Int32} (hI : isI M h xs) (ha : a < 2 ^ 30) : mg_Ct Y_In_totalFrom { frames := 1, cells := 0, slots := 0, locals := 22 } [.ref h, .int (nI a)] M (fun v M' => v = some (.long (sumF 0 (xs.drop a))) ∧ M' = M) := by
  refine mg_met [some (.ref h), some (.int (nI a)), none, none, none] (by decide +kernel) rfl (Nat.le_of_ble_eq_true rfl) ?_
  intro X hR _
  refine mg_lconst (v := 0) d_In_totalFrom_0 (by decide) ?_
  refine mg_lstore_n d_In_totalFrom_1 rfl (Nat.le_of_ble_eq_true rfl) rfl ?_
  refine mg_iload_n d_In_totalFrom_2 rfl rfl ?_
  refine mg_istore d_In_totalFrom_3 (Nat.le_of_ble_eq_true rfl) rfl ?_
  exact lp_In_total hR hI (xs.length + 1) a 0 (by omega) ha rfl

set_option maxHeartbeats 4000000 in
set_option maxRecDepth 100000 in
theorem lp_In_raise {X : mg_X} {M0 : mg_M} {h : Nat} {a b : Int32} {r : List Int32} (hR : mg_R X = { frames := 1, cells := 0, slots := 0, locals := 22 }) : ∀ n : Nat, ∀ (i : Nat) (M : mg_M) (xs : List Int32), xs.length - i < n → i < 2 ^ 30 → isI M h xs → sm h (h + 2) M0 M → raiseL xs i b = r → mg_G X Y_In_raiseFrom (mg_Q X (fun v M' => v = none ∧ isI M' h r ∧ sm h (h + 2) M0 M') { frames := 1, cells := 0, slots := 0, locals := 22 }) M 0 0 2 [some (.ref h), some (.int a), some (.int b), some (.int (nI i))] [] := by
  intro n
  induction n with
  | zero =>
    intro i M xs hn hi hI hs hr
    exact absurd hn (by omega)
  | succ n ih =>
    intro i M xs hn hi hI hs hr
    refine mg_iload_n d_In_raiseFrom_2 rfl rfl ?_
    first | refine mg_aload_n d_In_raiseFrom_3 rfl rfl ?_ | refine mg_aload_nN d_In_raiseFrom_3 rfl rfl ?_
    refine mg_getfield fl_In_15 d_In_raiseFrom_4 (by obtain ⟨_, e1, -⟩ := hI; exact e1) rfl ?_
    refine mg_icmp_ge (tgt := 29) d_In_raiseFrom_7 (by decide) (fun c_7 => ?_) (fun c_7 => ?_)
    · have hge : xs.length ≤ i := by
        rcases Nat.lt_or_ge i xs.length with q | q
        · exact absurd c_7 (nI_ge q (by have := hI.le; omega))
        · exact q
      rw [raiseL_end hge] at hr
      subst hr
      exact mg_return d_In_raiseFrom_29 rfl (Nat.le_of_ble_eq_true rfl) (Nat.le_of_ble_eq_true rfl) ⟨rfl, hI, hs⟩
    · have hi2 : i < xs.length := by
        rcases Nat.lt_or_ge i xs.length with q | q
        · exact q
        · exact absurd (nI_le q (by omega)) c_7
      first | refine mg_aload_n d_In_raiseFrom_10 rfl rfl ?_ | refine mg_aload_nN d_In_raiseFrom_10 rfl rfl ?_
      refine mg_iload_n d_In_raiseFrom_11 rfl rfl ?_
      first | refine mg_aload_n d_In_raiseFrom_12 rfl rfl ?_ | refine mg_aload_nN d_In_raiseFrom_12 rfl rfl ?_
      refine mg_iload_n d_In_raiseFrom_13 rfl rfl ?_
      refine mg_iconst (v := 0) d_In_raiseFrom_14 (by decide) ?_
      refine mg_callV (vl_In_32 rfl) d_In_raiseFrom_15 (by obtain ⟨_, e1, -⟩ := hI; exact e1) rfl rfl (c_In_at hI) rfl rfl (by rw [hR]; decide) (by rw [hR]; decide) (Nat.le_of_ble_eq_true rfl) ?_
      rintro v M1 ⟨rfl, rfl⟩
      refine mg_eqi (atI_in hI.le hi2) ?_
      refine mg_iload_n d_In_raiseFrom_18 rfl rfl ?_
      refine mg_iadd d_In_raiseFrom_19 ?_
      refine mg_callV (vl_In_39 rfl) d_In_raiseFrom_20 (by obtain ⟨_, e1, -⟩ := hI; exact e1) rfl rfl (c_In_set hI) rfl rfl (by rw [hR]; decide) (by rw [hR]; decide) (Nat.le_of_ble_eq_true rfl) ?_
      rintro v M2 ⟨rfl, hI2, hs2⟩
      rw [setI_in hI.le hi2] at hI2
      refine mg_iinc (v := nI (i + 1)) d_In_raiseFrom_23 rfl (nI_1 _) (Nat.le_of_ble_eq_true rfl) rfl ?_
      refine mg_goto (tgt := 2) d_In_raiseFrom_26 (by decide) ?_
      refine ih (i + 1) _ _ ?_ (by have := hI.le; omega) hI2 (hs.tr hs2) ?_
      · rw [List.length_set]; omega
      · rw [raiseL_step hi2]; exact hr

set_option maxHeartbeats 4000000 in
set_option maxRecDepth 100000 in
theorem c_In_raiseFrom {M : mg_M} {h a : Nat} {b : Int32} {xs : List Int32} (hI : isI M h xs) (ha : a < 2 ^ 30) : mg_Ct Y_In_raiseFrom { frames := 1, cells := 0, slots := 0, locals := 22 } [.ref h, .int (nI a), .int b] M (fun v M' => v = none ∧ isI M' h (raiseL xs a b) ∧ sm h (h + 2) M M') := by
  refine mg_met [some (.ref h), some (.int (nI a)), some (.int b), none] (by decide +kernel) rfl (Nat.le_of_ble_eq_true rfl) ?_
  intro X hR _
  refine mg_iload_n d_In_raiseFrom_0 rfl rfl ?_
  refine mg_istore_n d_In_raiseFrom_1 rfl (Nat.le_of_ble_eq_true rfl) rfl ?_
  exact lp_In_raise (M0 := M) hR (xs.length + 1) a _ xs (by omega) ha hI sm.rf rfl

set_option maxHeartbeats 4000000 in
set_option maxRecDepth 100000 in
theorem lp_In_has {X : mg_X} {M : mg_M} {h : Nat} {xs : List Int32} {k : Int32} {r : Bool} (hR : mg_R X = { frames := 1, cells := 0, slots := 0, locals := 22 }) (hI : isI M h xs) : ∀ n : Nat, ∀ (i : Nat), xs.length - i < n → i < 2 ^ 30 → hasL (xs.drop i) k = r → mg_G X Y_In_has (mg_Q X (fun v M' => v = some (.int (bI r)) ∧ M' = M) { frames := 1, cells := 0, slots := 0, locals := 22 }) M 0 0 2 [some (.ref h), some (.int k), some (.int (nI i))] [] := by
  intro n
  induction n with
  | zero =>
    intro i hn hi hr
    exact absurd hn (by omega)
  | succ n ih =>
    intro i hn hi hr
    refine mg_iload_n d_In_has_2 rfl rfl ?_
    first | refine mg_aload_n d_In_has_3 rfl rfl ?_ | refine mg_aload_nN d_In_has_3 rfl rfl ?_
    refine mg_getfield fl_In_15 d_In_has_4 (by obtain ⟨_, e1, -⟩ := hI; exact e1) rfl ?_
    refine mg_icmp_ge (tgt := 28) d_In_has_7 (by decide) (fun c_7 => ?_) (fun c_7 => ?_)
    · have hge : xs.length ≤ i := by
        rcases Nat.lt_or_ge i xs.length with q | q
        · exact absurd c_7 (nI_ge q (by have := hI.le; omega))
        · exact q
      rw [List.drop_of_length_le hge] at hr
      subst hr
      refine mg_iconst (v := 0) d_In_has_28 (by decide) ?_
      exact mg_ireturn d_In_has_29 rfl rfl (Nat.le_of_ble_eq_true rfl) (Nat.le_of_ble_eq_true rfl) ⟨rfl, rfl⟩
    · have hi2 : i < xs.length := by
        rcases Nat.lt_or_ge i xs.length with q | q
        · exact q
        · exact absurd (nI_le q (by omega)) c_7
      first | refine mg_aload_n d_In_has_10 rfl rfl ?_ | refine mg_aload_nN d_In_has_10 rfl rfl ?_
      refine mg_iload_n d_In_has_11 rfl rfl ?_
      refine mg_iconst (v := 0) d_In_has_12 (by decide) ?_
      refine mg_callV (vl_In_32 rfl) d_In_has_13 (by obtain ⟨_, e1, -⟩ := hI; exact e1) rfl rfl (c_In_at hI) rfl rfl (by rw [hR]; decide) (by rw [hR]; decide) (Nat.le_of_ble_eq_true rfl) ?_
      rintro v M1 ⟨rfl, rfl⟩
      refine mg_eqi (atI_in hI.le hi2) ?_
      rw [drop_cons hi2] at hr
      refine mg_iload_n d_In_has_16 rfl rfl ?_
      refine mg_icmp_ne (tgt := 22) d_In_has_17 (by decide) (fun c_17 => ?_) (fun c_17 => ?_)
      · refine mg_iinc (v := nI (i + 1)) d_In_has_22 rfl (nI_1 _) (Nat.le_of_ble_eq_true rfl) rfl ?_
        refine mg_goto (tgt := 2) d_In_has_25 (by decide) ?_
        refine ih (i + 1) (by omega) (by have := hI.le; omega) ?_
        rw [← hr]
        simp only [hasL, List.any_cons]
        rw [beq_eq_false_iff_ne.mpr c_17, Bool.false_or]
      · refine mg_iconst (v := 1) d_In_has_20 (by decide) ?_
        have : r = true := by rw [← hr]; simp only [hasL, List.any_cons]; rw [beq_iff_eq.mpr c_17, Bool.true_or]
        subst this
        exact mg_ireturn d_In_has_21 rfl rfl (Nat.le_of_ble_eq_true rfl) (Nat.le_of_ble_eq_true rfl) ⟨rfl, rfl⟩

set_option maxHeartbeats 4000000 in
set_option maxRecDepth 100000 in
theorem c_In_has {M : mg_M} {h : Nat} {k : Int32} {xs : List Int32} (hI : isI M h xs) : mg_Ct Y_In_has { frames := 1, cells := 0, slots := 0, locals := 22 } [.ref h, .int k] M (fun v M' => v = some (.int (bI (hasL xs k))) ∧ M' = M) := by
  refine mg_met [some (.ref h), some (.int k), none] (by decide +kernel) rfl (Nat.le_of_ble_eq_true rfl) ?_
  intro X hR _
  refine mg_iconst (v := 0) d_In_has_0 (by decide) ?_
  refine mg_istore_n d_In_has_1 rfl (Nat.le_of_ble_eq_true rfl) rfl ?_
  exact lp_In_has hR hI (xs.length + 1) 0 (by omega) (by decide) rfl

set_option maxHeartbeats 4000000 in
set_option maxRecDepth 100000 in
theorem lp_In_falls {X : mg_X} {M : mg_M} {h : Nat} {xs : List Int32} {r : Bool} (hR : mg_R X = { frames := 1, cells := 0, slots := 0, locals := 22 }) (hI : isI M h xs) : ∀ n : Nat, ∀ (i : Nat), xs.length - i < n → i < 2 ^ 30 → fallL (xs.drop i) = r → mg_G X Y_In_falls (mg_Q X (fun v M' => v = some (.int (bI r)) ∧ M' = M) { frames := 1, cells := 0, slots := 0, locals := 22 }) M 0 0 2 [some (.ref h), some (.int (nI (i + 1)))] [] := by
  intro n
  induction n with
  | zero =>
    intro i hn hi hr
    exact absurd hn (by omega)
  | succ n ih =>
    intro i hn hi hr
    refine mg_iload_n d_In_falls_2 rfl rfl ?_
    first | refine mg_aload_n d_In_falls_3 rfl rfl ?_ | refine mg_aload_nN d_In_falls_3 rfl rfl ?_
    refine mg_getfield fl_In_15 d_In_falls_4 (by obtain ⟨_, e1, -⟩ := hI; exact e1) rfl ?_
    refine mg_icmp_ge (tgt := 35) d_In_falls_7 (by decide) (fun c_7 => ?_) (fun c_7 => ?_)
    · have hge : xs.length ≤ i + 1 := by
        rcases Nat.lt_or_ge (i + 1) xs.length with q | q
        · exact absurd c_7 (nI_ge q (by have := hI.le; omega))
        · exact q
      have hr2 : r = false := by
        rw [← hr]
        rcases Nat.lt_or_ge i xs.length with q | q
        · rw [drop_cons q, List.drop_of_length_le hge]; rfl
        · rw [List.drop_of_length_le q]; rfl
      subst hr2
      refine mg_iconst (v := 0) d_In_falls_35 (by decide) ?_
      exact mg_ireturn d_In_falls_36 rfl rfl (Nat.le_of_ble_eq_true rfl) (Nat.le_of_ble_eq_true rfl) ⟨rfl, rfl⟩
    · have hi2 : i + 1 < xs.length := by
        rcases Nat.lt_or_ge (i + 1) xs.length with q | q
        · exact q
        · exact absurd (nI_le q (by omega)) c_7
      rw [drop_cons (by omega), drop_cons hi2] at hr
      first | refine mg_aload_n d_In_falls_10 rfl rfl ?_ | refine mg_aload_nN d_In_falls_10 rfl rfl ?_
      refine mg_iload_n d_In_falls_11 rfl rfl ?_
      refine mg_iconst (v := 0) d_In_falls_12 (by decide) ?_
      refine mg_callV (vl_In_32 rfl) d_In_falls_13 (by obtain ⟨_, e1, -⟩ := hI; exact e1) rfl rfl (c_In_at hI) rfl rfl (by rw [hR]; decide) (by rw [hR]; decide) (Nat.le_of_ble_eq_true rfl) ?_
      rintro v M1 ⟨rfl, rfl⟩
      refine mg_eqi (atI_in hI.le hi2) ?_
      first | refine mg_aload_n d_In_falls_16 rfl rfl ?_ | refine mg_aload_nN d_In_falls_16 rfl rfl ?_
      refine mg_iload_n d_In_falls_17 rfl rfl ?_
      refine mg_iconst (v := 1) d_In_falls_18 (by decide) ?_
      refine mg_isub d_In_falls_19 ?_
      refine mg_iconst (v := 0) d_In_falls_20 (by decide) ?_
      refine mg_callV (vl_In_32 rfl) d_In_falls_21 (by obtain ⟨_, e1, -⟩ := hI; exact e1) rfl rfl (c_In_at hI) rfl rfl (by rw [hR]; decide) (by rw [hR]; decide) (Nat.le_of_ble_eq_true rfl) ?_
      rintro v M1 ⟨rfl, rfl⟩
      refine mg_eqi (by rw [nI_pred, atI_in hI.le (by omega)]) ?_
      refine mg_icmp_ge (tgt := 29) d_In_falls_24 (by decide) (fun c_24 => ?_) (fun c_24 => ?_)
      · refine mg_iinc (v := nI (i + 1 + 1)) d_In_falls_29 rfl (nI_1 _) (Nat.le_of_ble_eq_true rfl) rfl ?_
        refine mg_goto (tgt := 2) d_In_falls_32 (by decide) ?_
        refine ih (i + 1) (by omega) (by have := hI.le; omega) ?_
        rw [← hr, drop_cons hi2]
        have hlt : ¬ xs.getD (i + 1) 0 < xs.getD i 0 := Int32.not_lt.mpr c_24
        simp only [fallL, hlt, decide_false, Bool.false_or]
      · refine mg_iconst (v := 1) d_In_falls_27 (by decide) ?_
        have hlt : xs.getD (i + 1) 0 < xs.getD i 0 := Int32.not_le.mp c_24
        have : r = true := by rw [← hr]; simp only [fallL, hlt, decide_true, Bool.true_or]
        subst this
        exact mg_ireturn d_In_falls_28 rfl rfl (Nat.le_of_ble_eq_true rfl) (Nat.le_of_ble_eq_true rfl) ⟨rfl, rfl⟩

set_option maxHeartbeats 4000000 in
set_option maxRecDepth 100000 in
theorem c_In_falls {M : mg_M} {h : Nat} {xs : List Int32} (hI : isI M h xs) : mg_Ct Y_In_falls { frames := 1, cells := 0, slots := 0, locals := 22 } [.ref h] M (fun v M' => v = some (.int (bI (fallL xs))) ∧ M' = M) := by
  refine mg_met [some (.ref h), none] (by decide +kernel) rfl (Nat.le_of_ble_eq_true rfl) ?_
  intro X hR _
  refine mg_iconst (v := 1) d_In_falls_0 (by decide) ?_
  refine mg_istore_n d_In_falls_1 rfl (Nat.le_of_ble_eq_true rfl) rfl ?_
  exact lp_In_falls hR hI (xs.length + 1) 0 (by omega) (by decide) rfl
end
section
/-! DRAWS: at the handles d .. d + 7: the object, choices (d + 1), numbers (d + 3), limits (d + 5), given (d + 6) -/
abbrev dM : Type := Int32 × List Int32 × Int32
abbrev dS : Type := List Int32 × List Int32 × Bool × Int64 × (Nat → Int32)
def isD (M : mg_M) (d : Nat) (md : dM) (σ : dS) : Prop := M d = some (.inr (2, [.ref (d + 1), .ref (d + 3), .int (bI σ.2.2.1), .ref (d + 5), .ref (d + 6), .int md.1, .long σ.2.2.2.1, .int md.2.2])) ∧ isI M (d + 1) σ.1 ∧ isI M (d + 3) σ.2.1 ∧ M (d + 5) = some (.inl (0, 60, .inl σ.2.2.2.2)) ∧ isI M (d + 6) md.2.1
theorem isD.fr {M M' : mg_M} {d lo hi : Nat} {md : dM} {σ : dS} (h : isD M d md σ) (hs : sm lo hi M M') (hd : d + 8 ≤ lo ∨ hi ≤ d) : isD M' d md σ :=
  ⟨by rw [hs d (by omega)]; exact h.1, h.2.1.sm hs (by omega), h.2.2.1.sm hs (by omega), by rw [hs (d + 5) (by omega)]; exact h.2.2.2.1, h.2.2.2.2.sm hs (by omega)⟩
theorem isD.up {M : mg_M} {d k : Nat} {md : dM} {σ : dS} {e : va_E} (h : isD M d md σ) (hd : k < d ∨ d + 8 ≤ k) : isD (mg_up M k e) d md σ := h.fr (lo := k) (hi := k + 1) (sm.rf.up (by omega) (by omega)) (by omega)
/-- the object alone has changed -/
theorem isD.obj {M : mg_M} {d : Nat} {md md' : dM} {cs ns : List Int32} {il il' : Bool} {x x' : Int64} {lm : Nat → Int32} (h : isD M d md (cs, ns, il, x, lm)) (hg : md'.2.1 = md.2.1) : isD (mg_up M d (.inr (2, [.ref (d + 1), .ref (d + 3), .int (bI il'), .ref (d + 5), .ref (d + 6), .int md'.1, .long x', .int md'.2.2]))) d md' (cs, ns, il', x', lm) :=
  ⟨mg_up_s _ _ _, h.2.1.up (by omega) (by omega), h.2.2.1.up (by omega) (by omega), by rw [mg_up_n _ _ (by omega)]; exact h.2.2.2.1, by rw [hg]; exact h.2.2.2.2.up (by omega) (by omega)⟩
theorem isD.cs {M M' : mg_M} {d : Nat} {md : dM} {cs cs' ns : List Int32} {il : Bool} {x : Int64} {lm : Nat → Int32} (h : isD M d md (cs, ns, il, x, lm)) (hI : isI M' (d + 1) cs') (hs : sm (d + 1) (d + 1 + 2) M M') : isD M' d md (cs', ns, il, x, lm) :=
  ⟨by rw [hs d (by omega)]; exact h.1, hI, h.2.2.1.sm hs (by omega), by rw [hs (d + 5) (by omega)]; exact h.2.2.2.1, h.2.2.2.2.sm hs (by omega)⟩
theorem isD.ns {M M' : mg_M} {d : Nat} {md : dM} {cs ns ns' : List Int32} {il : Bool} {x : Int64} {lm : Nat → Int32} (h : isD M d md (cs, ns, il, x, lm)) (hI : isI M' (d + 3) ns') (hs : sm (d + 3) (d + 3 + 2) M M') : isD M' d md (cs, ns', il, x, lm) :=
  ⟨by rw [hs d (by omega)]; exact h.1, h.2.1.sm hs (by omega), hI, by rw [hs (d + 5) (by omega)]; exact h.2.2.2.1, h.2.2.2.2.sm hs (by omega)⟩
theorem isD.gv {M M' : mg_M} {d : Nat} {how z : Int32} {gv gv' : List Int32} {σ : dS} (h : isD M d (how, gv, z) σ) (hI : isI M' (d + 6) gv') (hs : sm (d + 6) (d + 6 + 2) M M') : isD M' d (how, gv', z) σ :=
  ⟨by rw [hs d (by omega)]; exact h.1, h.2.1.sm hs (by omega), h.2.2.1.sm hs (by omega), by rw [hs (d + 5) (by omega)]; exact h.2.2.2.1, hI⟩
theorem isD.lm {M : mg_M} {d : Nat} {md : dM} {cs ns : List Int32} {il : Bool} {x : Int64} {lm lm' : Nat → Int32} (h : isD M d md (cs, ns, il, x, lm)) : isD (mg_up M (d + 5) (.inl (0, 60, .inl lm'))) d md (cs, ns, il, x, lm') :=
  ⟨by rw [mg_up_n _ _ (by omega)]; exact h.1, h.2.1.up (by omega) (by omega), h.2.2.1.up (by omega) (by omega), mg_up_s _ _ _, h.2.2.2.2.up (by omega) (by omega)⟩

set_option maxHeartbeats 4000000 in
set_option maxRecDepth 100000 in
theorem c_Dr_begin {M : mg_M} {d : Nat} {how how' z : Int32} {gv cs ns : List Int32} {il : Bool} {x : Int64} {lm : Nat → Int32} (hD : isD M d (how, gv, z) (cs, ns, il, x, lm)) : mg_Ct Y_Dr_begin { frames := 2, cells := 0, slots := 0, locals := 41 } [.ref d, .int how'] M (fun v M' => v = none ∧ isD M' d (how', gv, z) ([], [], false, x, lm) ∧ sm d (d + 8) M M') := by
  refine mg_met [some (.ref d), some (.int how')] (by decide +kernel) rfl (Nat.le_of_ble_eq_true rfl) ?_
  intro X hR _
  first | refine mg_aload_n d_Dr_begin_0 rfl rfl ?_ | refine mg_aload_nN d_Dr_begin_0 rfl rfl ?_
  refine mg_iload_n d_Dr_begin_1 rfl rfl ?_
  refine mg_putfield (fw_Dr_28 _) d_Dr_begin_2 hD.1 (Nat.le_of_ble_eq_true rfl) (fun _ => ⟨rfl, rfl⟩) ?_
  have hs : sm d (d + 8) M (mg_up M d (.inr (2, [.ref (d + 1), .ref (d + 3), .int (bI il), .ref (d + 5), .ref (d + 6), .int how', .long x, .int z]))) := sm.rf.up (by omega) (by omega)
  replace hD := hD.obj (il' := il) (x' := x) (md' := (how', gv, z)) rfl
  refine mg_eqM (M' := mg_up M d (.inr (2, [.ref (d + 1), .ref (d + 3), .int (bI il), .ref (d + 5), .ref (d + 6), .int how', .long x, .int z]))) rfl ?_
  generalize mg_up M d (.inr (2, [.ref (d + 1), .ref (d + 3), .int (bI il), .ref (d + 5), .ref (d + 6), .int how', .long x, .int z])) = M1 at hD hs ⊢
  first | refine mg_aload_n d_Dr_begin_5 rfl rfl ?_ | refine mg_aload_nN d_Dr_begin_5 rfl rfl ?_
  refine mg_getfield fl_Dr_12 d_Dr_begin_6 hD.1 rfl ?_
  refine mg_iconst (v := 0) d_Dr_begin_9 (by decide) ?_
  refine mg_callV (vl_Dr_32 rfl) d_Dr_begin_10 (by obtain ⟨_, e1, -⟩ := hD.2.1; exact e1) rfl rfl (c_In_cutTo hD.2.1) rfl rfl (by rw [hR]; decide) (by rw [hR]; decide) (Nat.le_of_ble_eq_true rfl) ?_
  rintro v M2 ⟨rfl, hI2, hs2⟩
  replace hD := hD.cs hI2 hs2
  replace hs := hs.tr (hs2.wd (by omega) (by omega))
  first | refine mg_aload_n d_Dr_begin_13 rfl rfl ?_ | refine mg_aload_nN d_Dr_begin_13 rfl rfl ?_
  refine mg_getfield fl_Dr_18 d_Dr_begin_14 hD.1 rfl ?_
  refine mg_iconst (v := 0) d_Dr_begin_17 (by decide) ?_
  refine mg_callV (vl_Dr_32 rfl) d_Dr_begin_18 (by obtain ⟨_, e1, -⟩ := hD.2.2.1; exact e1) rfl rfl (c_In_cutTo hD.2.2.1) rfl rfl (by rw [hR]; decide) (by rw [hR]; decide) (Nat.le_of_ble_eq_true rfl) ?_
  rintro v M3 ⟨rfl, hI3, hs3⟩
  replace hD := hD.ns hI3 hs3
  replace hs := hs.tr (hs3.wd (by omega) (by omega))
  first | refine mg_aload_n d_Dr_begin_21 rfl rfl ?_ | refine mg_aload_nN d_Dr_begin_21 rfl rfl ?_
  refine mg_iconst (v := 0) d_Dr_begin_22 (by decide) ?_
  refine mg_putfield (fw_Dr_36 _) d_Dr_begin_23 hD.1 (Nat.le_of_ble_eq_true rfl) (fun _ => ⟨rfl, rfl⟩) ?_
  exact mg_return d_Dr_begin_26 rfl (Nat.le_of_ble_eq_true rfl) (Nat.le_of_ble_eq_true rfl) ⟨rfl, hD.obj (il' := false) (x' := x) (md' := (how', gv, z)) rfl, hs.up (by omega) (by omega)⟩

set_option maxHeartbeats 4000000 in
set_option maxRecDepth 100000 in
theorem c_Dr_beginRow {M : mg_M} {d : Nat} {how z : Int32} {gv cs ns : List Int32} {il : Bool} {x : Int64} {lm : Nat → Int32} (hD : isD M d (how, gv, z) (cs, ns, il, x, lm)) {h : Nat} {ys : List Int32} (hY : isI M h ys) (hd : h + 2 ≤ d ∨ d + 8 ≤ h) : mg_Ct Y_Dr_beginRow { frames := 3, cells := 0, slots := 0, locals := 67 } [.ref d, .ref h] M (fun v M' => v = none ∧ isD M' d (0, ys, z) ([], [], false, x, lm) ∧ sm d (d + 8) M M') := by
  refine mg_met [some (.ref d), some (.ref h)] (by decide +kernel) rfl (Nat.le_of_ble_eq_true rfl) ?_
  intro X hR _
  first | refine mg_aload_n d_Dr_beginRow_0 rfl rfl ?_ | refine mg_aload_nN d_Dr_beginRow_0 rfl rfl ?_
  refine mg_getfield fl_Dr_25 d_Dr_beginRow_1 hD.1 rfl ?_
  first | refine mg_aload_n d_Dr_beginRow_4 rfl rfl ?_ | refine mg_aload_nN d_Dr_beginRow_4 rfl rfl ?_
  refine mg_callV (vl_Dr_40 rfl) d_Dr_beginRow_5 (by obtain ⟨_, e1, -⟩ := hD.2.2.2.2; exact e1) rfl rfl (c_In_copyFrom hD.2.2.2.2 hY (by omega)) rfl rfl (by rw [hR]; decide) (by rw [hR]; decide) (Nat.le_of_ble_eq_true rfl) ?_
  rintro v M2 ⟨rfl, hI2, hs2⟩
  replace hD := hD.gv hI2 hs2
  have hs := (hs2.wd (lo' := d) (hi' := d + 8) (by omega) (by omega))
  first | refine mg_aload_n d_Dr_beginRow_8 rfl rfl ?_ | refine mg_aload_nN d_Dr_beginRow_8 rfl rfl ?_
  refine mg_iconst (v := 0) d_Dr_beginRow_9 (by decide) ?_
  refine mg_callV (vl_Dr_44 rfl) d_Dr_beginRow_10 hD.1 rfl rfl (c_Dr_begin hD) rfl rfl (by rw [hR]; decide) (by rw [hR]; decide) (Nat.le_of_ble_eq_true rfl) ?_
  rintro v M3 ⟨rfl, hD3, hs3⟩
  exact mg_return d_Dr_beginRow_13 rfl (Nat.le_of_ble_eq_true rfl) (Nat.le_of_ble_eq_true rfl) ⟨rfl, hD3, hs.tr hs3⟩

set_option maxHeartbeats 4000000 in
set_option maxRecDepth 100000 in
theorem c_Dr_sow {M : mg_M} {d : Nat} {how z : Int32} {gv cs ns : List Int32} {il : Bool} {x : Int64} {lm : Nat → Int32} (hD : isD M d (how, gv, z) (cs, ns, il, x, lm)) {w : Int64} : mg_Ct Y_Dr_sow { frames := 0, cells := 0, slots := 0, locals := 0 } [.ref d, .long w] M (fun v M' => v = none ∧ isD M' d (how, gv, z) (cs, ns, il, w, lm) ∧ sm d (d + 8) M M') := by
  refine mg_met [some (.ref d), some (.long w), none] (by decide +kernel) rfl (Nat.le_of_ble_eq_true rfl) ?_
  intro X hR _
  first | refine mg_aload_n d_Dr_sow_0 rfl rfl ?_ | refine mg_aload_nN d_Dr_sow_0 rfl rfl ?_
  refine mg_lload_n d_Dr_sow_1 rfl rfl ?_
  refine mg_putfield (fw_Dr_47 _) d_Dr_sow_2 hD.1 (Nat.le_of_ble_eq_true rfl) (fun _ => ⟨rfl, rfl⟩) ?_
  exact mg_return d_Dr_sow_5 rfl (Nat.le_of_ble_eq_true rfl) (Nat.le_of_ble_eq_true rfl) ⟨rfl, hD.obj (il' := il) (x' := w) (md' := (how, gv, z)) rfl, sm.rf.up (by omega) (by omega)⟩

set_option maxHeartbeats 4000000 in
set_option maxRecDepth 100000 in
theorem c_Dr_beginTry {M : mg_M} {d : Nat} {how z : Int32} {gv cs ns : List Int32} {il : Bool} {x : Int64} {lm : Nat → Int32} (hD : isD M d (how, gv, z) (cs, ns, il, x, lm)) {z' : Int32} : mg_Ct Y_Dr_beginTry { frames := 3, cells := 0, slots := 0, locals := 62 } [.ref d, .int z'] M (fun v M' => v = none ∧ isD M' d (1, gv, z') ([], [], false, x, lm) ∧ sm d (d + 8) M M') := by
  refine mg_met [some (.ref d), some (.int z')] (by decide +kernel) rfl (Nat.le_of_ble_eq_true rfl) ?_
  intro X hR _
  first | refine mg_aload_n d_Dr_beginTry_0 rfl rfl ?_ | refine mg_aload_nN d_Dr_beginTry_0 rfl rfl ?_
  refine mg_iload_n d_Dr_beginTry_1 rfl rfl ?_
  refine mg_putfield (fw_Dr_51 _) d_Dr_beginTry_2 hD.1 (Nat.le_of_ble_eq_true rfl) (fun _ => ⟨rfl, rfl⟩) ?_
  have hs : sm d (d + 8) M (mg_up M d (.inr (2, [.ref (d + 1), .ref (d + 3), .int (bI il), .ref (d + 5), .ref (d + 6), .int how, .long x, .int z']))) := sm.rf.up (by omega) (by omega)
  replace hD := hD.obj (il' := il) (x' := x) (md' := (how, gv, z')) rfl
  refine mg_eqM (M' := mg_up M d (.inr (2, [.ref (d + 1), .ref (d + 3), .int (bI il), .ref (d + 5), .ref (d + 6), .int how, .long x, .int z']))) rfl ?_
  generalize mg_up M d (.inr (2, [.ref (d + 1), .ref (d + 3), .int (bI il), .ref (d + 5), .ref (d + 6), .int how, .long x, .int z'])) = M1 at hD hs ⊢
  first | refine mg_aload_n d_Dr_beginTry_5 rfl rfl ?_ | refine mg_aload_nN d_Dr_beginTry_5 rfl rfl ?_
  refine mg_iconst (v := 1) d_Dr_beginTry_6 (by decide) ?_
  refine mg_callV (vl_Dr_44 rfl) d_Dr_beginTry_7 hD.1 rfl rfl (c_Dr_begin hD) rfl rfl (by rw [hR]; decide) (by rw [hR]; decide) (Nat.le_of_ble_eq_true rfl) ?_
  rintro v M3 ⟨rfl, hD3, hs3⟩
  exact mg_return d_Dr_beginTry_10 rfl (Nat.le_of_ble_eq_true rfl) (Nat.le_of_ble_eq_true rfl) ⟨rfl, hD3, hs.tr hs3⟩

set_option maxHeartbeats 4000000 in
set_option maxRecDepth 100000 in
theorem c_Dr_beginFirstTurn {M : mg_M} {d : Nat} {how z : Int32} {gv cs ns : List Int32} {il : Bool} {x : Int64} {lm : Nat → Int32} (hD : isD M d (how, gv, z) (cs, ns, il, x, lm)) : mg_Ct Y_Dr_beginFirstTurn { frames := 3, cells := 0, slots := 0, locals := 62 } [.ref d] M (fun v M' => v = none ∧ isD M' d (2, [], z) ([], [], false, x, lm) ∧ sm d (d + 8) M M') := by
  refine mg_met [some (.ref d)] (by decide +kernel) rfl (Nat.le_of_ble_eq_true rfl) ?_
  intro X hR _
  first | refine mg_aload_n d_Dr_beginFirstTurn_0 rfl rfl ?_ | refine mg_aload_nN d_Dr_beginFirstTurn_0 rfl rfl ?_
  refine mg_getfield fl_Dr_25 d_Dr_beginFirstTurn_1 hD.1 rfl ?_
  refine mg_iconst (v := 0) d_Dr_beginFirstTurn_4 (by decide) ?_
  refine mg_callV (vl_Dr_32 rfl) d_Dr_beginFirstTurn_5 (by obtain ⟨_, e1, -⟩ := hD.2.2.2.2; exact e1) rfl rfl (c_In_cutTo hD.2.2.2.2) rfl rfl (by rw [hR]; decide) (by rw [hR]; decide) (Nat.le_of_ble_eq_true rfl) ?_
  rintro v M2 ⟨rfl, hI2, hs2⟩
  replace hD := hD.gv hI2 hs2
  have hs := (hs2.wd (lo' := d) (hi' := d + 8) (by omega) (by omega))
  first | refine mg_aload_n d_Dr_beginFirstTurn_8 rfl rfl ?_ | refine mg_aload_nN d_Dr_beginFirstTurn_8 rfl rfl ?_
  refine mg_iconst (v := 2) d_Dr_beginFirstTurn_9 (by decide) ?_
  refine mg_callV (vl_Dr_44 rfl) d_Dr_beginFirstTurn_10 hD.1 rfl rfl (c_Dr_begin hD) rfl rfl (by rw [hR]; decide) (by rw [hR]; decide) (Nat.le_of_ble_eq_true rfl) ?_
  rintro v M3 ⟨rfl, hD3, hs3⟩
  exact mg_return d_Dr_beginFirstTurn_13 rfl (Nat.le_of_ble_eq_true rfl) (Nat.le_of_ble_eq_true rfl) ⟨rfl, hD3, hs.tr hs3⟩

def spanF (z most : Int32) : Int32 := if most ≤ z + 1 then most + 1 else z + 2
set_option maxHeartbeats 4000000 in
set_option maxRecDepth 100000 in
theorem c_Dr_sizedSpan {M : mg_M} {d : Nat} {how z : Int32} {gv cs ns : List Int32} {il : Bool} {x : Int64} {lm : Nat → Int32} (hD : isD M d (how, gv, z) (cs, ns, il, x, lm)) {most : Int32} : mg_Ct Y_Dr_sizedSpan { frames := 0, cells := 0, slots := 0, locals := 0 } [.ref d, .int most] M (fun v M' => v = some (.int (spanF z most)) ∧ M' = M) := by
  refine mg_met [some (.ref d), some (.int most)] (by decide +kernel) rfl (Nat.le_of_ble_eq_true rfl) ?_
  intro X hR _
  refine mg_iload_n d_Dr_sizedSpan_0 rfl rfl ?_
  first | refine mg_aload_n d_Dr_sizedSpan_1 rfl rfl ?_ | refine mg_aload_nN d_Dr_sizedSpan_1 rfl rfl ?_
  refine mg_getfield fl_Dr_51 d_Dr_sizedSpan_2 hD.1 rfl ?_
  refine mg_iconst (v := 1) d_Dr_sizedSpan_5 (by decide) ?_
  refine mg_iadd d_Dr_sizedSpan_6 ?_
  refine mg_icmp_le (tgt := 19) d_Dr_sizedSpan_7 (by decide) (fun c_7 => ?_) (fun c_7 => ?_)
  · refine mg_iload_n d_Dr_sizedSpan_19 rfl rfl ?_
    refine mg_iconst (v := 1) d_Dr_sizedSpan_20 (by decide) ?_
    refine mg_iadd d_Dr_sizedSpan_21 ?_
    exact mg_ireturn d_Dr_sizedSpan_22 rfl rfl (Nat.le_of_ble_eq_true rfl) (Nat.le_of_ble_eq_true rfl) ⟨by rw [spanF, if_pos c_7], rfl⟩
  · first | refine mg_aload_n d_Dr_sizedSpan_10 rfl rfl ?_ | refine mg_aload_nN d_Dr_sizedSpan_10 rfl rfl ?_
    refine mg_getfield fl_Dr_51 d_Dr_sizedSpan_11 hD.1 rfl ?_
    refine mg_iconst (v := 2) d_Dr_sizedSpan_14 (by decide) ?_
    refine mg_iadd d_Dr_sizedSpan_15 ?_
    refine mg_goto (tgt := 22) d_Dr_sizedSpan_16 (by decide) ?_
    exact mg_ireturn d_Dr_sizedSpan_22 rfl rfl (Nat.le_of_ble_eq_true rfl) (Nat.le_of_ble_eq_true rfl) ⟨by rw [spanF, if_neg c_7], rfl⟩

def numF (σ : dS) (n : Int32) : dS := if σ.2.2.1 = true then σ else if σ.2.1.length < 60 then (σ.1, σ.2.1 ++ [n], false, σ.2.2.2) else (σ.1, σ.2.1, true, σ.2.2.2)
theorem bI_t {b : Bool} (h : ¬ bI b = 0) : b = true := by cases b with
  | true => rfl
  | false => exact absurd rfl h
theorem bI_f {b : Bool} (h : bI b = 0) : b = false := by cases b with
  | false => rfl
  | true => exact absurd h (by decide)
set_option maxHeartbeats 4000000 in
set_option maxRecDepth 100000 in
theorem c_Dr_giveNumber {M : mg_M} {d : Nat} {how z : Int32} {gv cs ns : List Int32} {il : Bool} {x : Int64} {lm : Nat → Int32} (hD : isD M d (how, gv, z) (cs, ns, il, x, lm)) {n : Int32} : mg_Ct Y_Dr_giveNumber { frames := 1, cells := 0, slots := 0, locals := 21 } [.ref d, .int n] M (fun v M' => v = none ∧ isD M' d (how, gv, z) (numF (cs, ns, il, x, lm) n) ∧ sm d (d + 8) M M') := by
  refine mg_met [some (.ref d), some (.int n)] (by decide +kernel) rfl (Nat.le_of_ble_eq_true rfl) ?_
  intro X hR _
  first | refine mg_aload_n d_Dr_giveNumber_0 rfl rfl ?_ | refine mg_aload_nN d_Dr_giveNumber_0 rfl rfl ?_
  refine mg_getfield fl_Dr_36 d_Dr_giveNumber_1 hD.1 rfl ?_
  refine mg_if_ne (tgt := 18) d_Dr_giveNumber_4 (by decide) (fun c_4 => ?_) (fun c_4 => ?_)
  · obtain rfl := bI_t c_4
    first | refine mg_aload_n d_Dr_giveNumber_18 rfl rfl ?_ | refine mg_aload_nN d_Dr_giveNumber_18 rfl rfl ?_
    refine mg_iconst (v := 1) d_Dr_giveNumber_19 (by decide) ?_
    refine mg_putfield (fw_Dr_36 _) d_Dr_giveNumber_20 hD.1 (Nat.le_of_ble_eq_true rfl) (fun _ => ⟨rfl, rfl⟩) ?_
    exact mg_return d_Dr_giveNumber_23 rfl (Nat.le_of_ble_eq_true rfl) (Nat.le_of_ble_eq_true rfl) ⟨rfl, by simp only [numF]; exact hD.obj (il' := true) (x' := x) (md' := (how, gv, z)) rfl, sm.rf.up (by omega) (by omega)⟩
  · obtain rfl := bI_f c_4
    first | refine mg_aload_n d_Dr_giveNumber_7 rfl rfl ?_ | refine mg_aload_nN d_Dr_giveNumber_7 rfl rfl ?_
    refine mg_getfield fl_Dr_18 d_Dr_giveNumber_8 hD.1 rfl ?_
    refine mg_iload_n d_Dr_giveNumber_11 rfl rfl ?_
    refine mg_callV (vl_Dr_62 rfl) d_Dr_giveNumber_12 (by obtain ⟨_, e1, -⟩ := hD.2.2.1; exact e1) rfl rfl (c_In_add hD.2.2.1) rfl rfl (by rw [hR]; decide) (by rw [hR]; decide) (Nat.le_of_ble_eq_true rfl) ?_
    rintro v M2 ⟨rfl, hI2, hs2⟩
    replace hD := hD.ns hI2 hs2
    have hs := (hs2.wd (lo' := d) (hi' := d + 8) (by omega) (by omega))
    refine mg_if_ne (tgt := 23) d_Dr_giveNumber_15 (by decide) (fun c_15 => ?_) (fun c_15 => ?_)
    · have hlt : ns.length < 60 := by
        rcases Nat.lt_or_ge ns.length 60 with q | q
        · exact q
        · exact absurd (if_neg (show ¬ ns.length < 60 by omega)) c_15
      rw [if_pos hlt] at hD
      exact mg_return d_Dr_giveNumber_23 rfl (Nat.le_of_ble_eq_true rfl) (Nat.le_of_ble_eq_true rfl) ⟨rfl, by simp only [numF, if_pos hlt]; exact hD, hs⟩
    · have hlt : ¬ ns.length < 60 := fun q => by rw [if_pos q] at c_15; exact absurd c_15 (by decide)
      rw [if_neg hlt] at hD
      refine mg_aload_n d_Dr_giveNumber_18 rfl rfl ?_
      refine mg_iconst (v := 1) d_Dr_giveNumber_19 (by decide) ?_
      refine mg_putfield (fw_Dr_36 _) d_Dr_giveNumber_20 hD.1 (Nat.le_of_ble_eq_true rfl) (fun _ => ⟨rfl, rfl⟩) ?_
      exact mg_return d_Dr_giveNumber_23 rfl (Nat.le_of_ble_eq_true rfl) (Nat.le_of_ble_eq_true rfl) ⟨rfl, by simp only [numF, if_neg hlt]; exact hD.obj (il' := true) (x' := x) (md' := (how, gv, z)) rfl, hs.up (by omega) (by omega)⟩
end
section
/-! DRAWS: pick, draw, the next turn -/
def stepX (x : Int64) : Int64 := x * 6364136223846793005 + 1442695040888963407
def modX (x : Int64) (span : Int32) : Int32 := (((x.toUInt64 >>> ((33 : Int32).toInt64.toUInt64 &&& Int64.toUInt64 63)).toInt64) - ((x.toUInt64 >>> ((33 : Int32).toInt64.toUInt64 &&& Int64.toUInt64 63)).toInt64) / span.toInt64 * span.toInt64).toInt32
/-- what pick answers, and the state behind it -/
def pickF (how : Int32) (gv : List Int32) (place span : Int32) (x : Int64) : Int32 × Int64 := if how = 1 then (if span < 1 then -1 else modX (stepX x) span, stepX x) else if how = 2 then (atI gv place 0, x) else (atI gv place (-1), x)
theorem toInt64_ne {s : Int32} (h : ¬ s < 1) : ¬ s.toInt64 = 0 := by
  intro h2
  have h3 := congrArg Int64.toInt h2
  rw [Int32.toInt_toInt64] at h3
  apply h
  rw [Int32.lt_iff_toInt_lt]
  simp at h3 ⊢
  rw [h3]; decide

set_option maxHeartbeats 4000000 in
set_option maxRecDepth 100000 in
theorem c_Dr_pick {M : mg_M} {d : Nat} {how z : Int32} {gv cs ns : List Int32} {il : Bool} {x : Int64} {lm : Nat → Int32} (hD : isD M d (how, gv, z) (cs, ns, il, x, lm)) {place span : Int32} : mg_Ct Y_Dr_pick { frames := 1, cells := 0, slots := 0, locals := 22 } [.ref d, .int place, .int span] M (fun v M' => v = some (.int (pickF how gv place span x).1) ∧ isD M' d (how, gv, z) (cs, ns, il, (pickF how gv place span x).2, lm) ∧ sm d (d + 8) M M') := by
  refine mg_met [some (.ref d), some (.int place), some (.int span)] (by decide +kernel) rfl (Nat.le_of_ble_eq_true rfl) ?_
  intro X hR _
  first | refine mg_aload_n d_Dr_pick_0 rfl rfl ?_ | refine mg_aload_nN d_Dr_pick_0 rfl rfl ?_
  refine mg_getfield fl_Dr_28 d_Dr_pick_1 hD.1 rfl ?_
  by_cases h1 : how = 1
  · subst h1
    refine mg_lookup (off := 28) (tgt := 32) d_Dr_pick_4 (by decide) rfl (by decide) ?_
    first | refine mg_aload_n d_Dr_pick_32 rfl rfl ?_ | refine mg_aload_nN d_Dr_pick_32 rfl rfl ?_
    first | refine mg_aload_n d_Dr_pick_33 rfl rfl ?_ | refine mg_aload_nN d_Dr_pick_33 rfl rfl ?_
    refine mg_getfield fl_Dr_47 d_Dr_pick_34 hD.1 rfl ?_
    refine mg_ldc2 d_Dr_pick_37 kl_Dr_69 ?_
    refine mg_lmul d_Dr_pick_40 ?_
    refine mg_ldc2 d_Dr_pick_41 kl_Dr_71 ?_
    refine mg_ladd d_Dr_pick_44 ?_
    refine mg_putfield (fw_Dr_47 _) d_Dr_pick_45 hD.1 (Nat.le_of_ble_eq_true rfl) (fun _ => ⟨rfl, rfl⟩) ?_
    have hs : sm d (d + 8) M (mg_up M d (.inr (2, [.ref (d + 1), .ref (d + 3), .int (bI il), .ref (d + 5), .ref (d + 6), .int 1, .long (stepX x), .int z]))) := sm.rf.up (by omega) (by omega)
    replace hD := hD.obj (il' := il) (x' := stepX x) (md' := (1, gv, z)) rfl
    refine mg_eqM (M' := mg_up M d (.inr (2, [.ref (d + 1), .ref (d + 3), .int (bI il), .ref (d + 5), .ref (d + 6), .int 1, .long (stepX x), .int z]))) rfl ?_
    generalize mg_up M d (.inr (2, [.ref (d + 1), .ref (d + 3), .int (bI il), .ref (d + 5), .ref (d + 6), .int 1, .long (stepX x), .int z])) = M1 at hD hs ⊢
    refine mg_iload_n d_Dr_pick_48 rfl rfl ?_
    refine mg_iconst (v := 1) d_Dr_pick_49 (by decide) ?_
    refine mg_icmp_ge (tgt := 57) d_Dr_pick_50 (by decide) (fun c_50 => ?_) (fun c_50 => ?_)
    · have hsp : ¬ span < 1 := Int32.not_lt.mpr c_50
      have hne := toInt64_ne hsp
      first | refine mg_aload_n d_Dr_pick_57 rfl rfl ?_ | refine mg_aload_nN d_Dr_pick_57 rfl rfl ?_
      refine mg_getfield fl_Dr_47 d_Dr_pick_58 hD.1 rfl ?_
      refine mg_bipush (v := 33) d_Dr_pick_61 (by decide) ?_
      refine mg_lushr d_Dr_pick_63 ?_
      refine mg_iload_n d_Dr_pick_64 rfl rfl ?_
      refine mg_i2l d_Dr_pick_65 ?_
      refine mg_lrem d_Dr_pick_66 (by first | assumption | decide) ?_
      refine mg_l2i d_Dr_pick_67 ?_
      exact mg_ireturn d_Dr_pick_68 rfl rfl (Nat.le_of_ble_eq_true rfl) (Nat.le_of_ble_eq_true rfl) ⟨by simp only [pickF, if_neg hsp, if_true]; rfl, hD, hs⟩
    · have hsp : span < 1 := Int32.not_le.mp c_50
      refine mg_iconst (v := -1) d_Dr_pick_53 (by decide) ?_
      refine mg_goto (tgt := 68) d_Dr_pick_54 (by decide) ?_
      exact mg_ireturn d_Dr_pick_68 rfl rfl (Nat.le_of_ble_eq_true rfl) (Nat.le_of_ble_eq_true rfl) ⟨by simp only [pickF, if_pos hsp, if_true], hD, hs⟩
  · by_cases h2 : how = 2
    · subst h2
      refine mg_lookup (off := 65) (tgt := 69) d_Dr_pick_4 (by decide) rfl (by decide) ?_
      first | refine mg_aload_n d_Dr_pick_69 rfl rfl ?_ | refine mg_aload_nN d_Dr_pick_69 rfl rfl ?_
      refine mg_getfield fl_Dr_25 d_Dr_pick_70 hD.1 rfl ?_
      refine mg_iload_n d_Dr_pick_73 rfl rfl ?_
      refine mg_iconst (v := 0) d_Dr_pick_74 (by decide) ?_
      refine mg_callV (vl_Dr_58 rfl) d_Dr_pick_75 (by obtain ⟨_, e1, -⟩ := hD.2.2.2.2; exact e1) rfl rfl (c_In_at (xs := gv) hD.2.2.2.2) rfl rfl (by rw [hR]; decide) (by rw [hR]; decide) (Nat.le_of_ble_eq_true rfl) ?_
      rintro v M2 ⟨rfl, rfl⟩
      exact mg_ireturn d_Dr_pick_78 rfl rfl (Nat.le_of_ble_eq_true rfl) (Nat.le_of_ble_eq_true rfl) ⟨rfl, hD, sm.rf⟩
    · refine mg_lookup (off := 75) (tgt := 79) d_Dr_pick_4 (by decide) ((lv_osw (k := 1) h1 (by decide)).trans (lv_osw (k := 2) h2 (by decide))) (by decide) ?_
      first | refine mg_aload_n d_Dr_pick_79 rfl rfl ?_ | refine mg_aload_nN d_Dr_pick_79 rfl rfl ?_
      refine mg_getfield fl_Dr_25 d_Dr_pick_80 hD.1 rfl ?_
      refine mg_iload_n d_Dr_pick_83 rfl rfl ?_
      refine mg_iconst (v := -1) d_Dr_pick_84 (by decide) ?_
      refine mg_callV (vl_Dr_58 rfl) d_Dr_pick_85 (by obtain ⟨_, e1, -⟩ := hD.2.2.2.2; exact e1) rfl rfl (c_In_at (xs := gv) hD.2.2.2.2) rfl rfl (by rw [hR]; decide) (by rw [hR]; decide) (Nat.le_of_ble_eq_true rfl) ?_
      rintro v M2 ⟨rfl, rfl⟩
      exact mg_ireturn d_Dr_pick_88 rfl rfl (Nat.le_of_ble_eq_true rfl) (Nat.le_of_ble_eq_true rfl) ⟨by simp only [pickF, if_neg h1, if_neg h2], by simp only [pickF, if_neg h1, if_neg h2]; exact hD, sm.rf⟩

/-- a draw: the choice, and the draws behind it -/
def drawF (md : dM) (σ : dS) (most span : Int32) : Int32 × dS := if σ.2.2.1 = true then (0, σ) else
  if (pickF md.1 md.2.1 (nI σ.1.length) span σ.2.2.2.1).1 < 0 ∨ most < (pickF md.1 md.2.1 (nI σ.1.length) span σ.2.2.2.1).1 ∨ 60 ≤ σ.1.length then (0, (σ.1, σ.2.1, true, (pickF md.1 md.2.1 (nI σ.1.length) span σ.2.2.2.1).2, σ.2.2.2.2))
  else ((pickF md.1 md.2.1 (nI σ.1.length) span σ.2.2.2.1).1, (σ.1 ++ [(pickF md.1 md.2.1 (nI σ.1.length) span σ.2.2.2.1).1], σ.2.1, false, (pickF md.1 md.2.1 (nI σ.1.length) span σ.2.2.2.1).2, upd σ.2.2.2.2 σ.1.length most))
theorem drawF_bad {md : dM} {cs ns : List Int32} {x : Int64} {lm : Nat → Int32} {most span : Int32} {p : Int32 × Int64} (hp : pickF md.1 md.2.1 (nI cs.length) span x = p) (h : p.1 < 0 ∨ most < p.1 ∨ 60 ≤ cs.length) : drawF md (cs, ns, false, x, lm) most span = (0, (cs, ns, true, p.2, lm)) := by
  subst hp
  simp only [drawF]
  rw [if_neg (by decide), if_pos h]
theorem drawF_ok {md : dM} {cs ns : List Int32} {x : Int64} {lm : Nat → Int32} {most span : Int32} {p : Int32 × Int64} (hp : pickF md.1 md.2.1 (nI cs.length) span x = p) (h1 : ¬ p.1 < 0) (h2 : ¬ most < p.1) (h3 : cs.length < 60) : drawF md (cs, ns, false, x, lm) most span = (p.1, (cs ++ [p.1], ns, false, p.2, upd lm cs.length most)) := by
  subst hp
  simp only [drawF]
  rw [if_neg (by decide), if_neg (fun h => h.elim h1 (fun h => h.elim h2 (fun h => absurd h3 (Nat.not_lt.mpr h))))]

set_option maxHeartbeats 4000000 in
set_option maxRecDepth 100000 in
theorem c_Dr_draw {M : mg_M} {d : Nat} {how z : Int32} {gv cs ns : List Int32} {il : Bool} {x : Int64} {lm : Nat → Int32} (hD : isD M d (how, gv, z) (cs, ns, il, x, lm)) {most span : Int32} : mg_Ct Y_Dr_draw { frames := 2, cells := 0, slots := 0, locals := 44 } [.ref d, .int most, .int span] M (fun v M' => v = some (.int (drawF (how, gv, z) (cs, ns, il, x, lm) most span).1) ∧ isD M' d (how, gv, z) (drawF (how, gv, z) (cs, ns, il, x, lm) most span).2 ∧ sm d (d + 8) M M') := by
  refine mg_met [some (.ref d), some (.int most), some (.int span), none, none] (by decide +kernel) rfl (Nat.le_of_ble_eq_true rfl) ?_
  intro X hR _
  first | refine mg_aload_n d_Dr_draw_0 rfl rfl ?_ | refine mg_aload_nN d_Dr_draw_0 rfl rfl ?_
  refine mg_getfield fl_Dr_36 d_Dr_draw_1 (by first | exact hD.1 | exact hD.2.2.2.1) rfl ?_
  refine mg_if_eq (tgt := 9) d_Dr_draw_4 (by decide) (fun c_4 => ?_) (fun c_4 => ?_)
  · obtain rfl := bI_f c_4
    first | refine mg_aload_n d_Dr_draw_9 rfl rfl ?_ | refine mg_aload_nN d_Dr_draw_9 rfl rfl ?_
    refine mg_getfield fl_Dr_12 d_Dr_draw_10 (by first | exact hD.1 | exact hD.2.2.2.1) rfl ?_
    refine mg_callV (vl_Dr_54 rfl) d_Dr_draw_13 (by obtain ⟨_, e1, -⟩ := hD.2.1; exact e1) rfl rfl (c_In_length (xs := cs) hD.2.1) rfl rfl (by rw [hR]; decide) (by rw [hR]; decide) (Nat.le_of_ble_eq_true rfl) ?_
    rintro v M2 ⟨rfl, rfl⟩
    refine mg_istore_n d_Dr_draw_16 rfl (Nat.le_of_ble_eq_true rfl) rfl ?_
    first | refine mg_aload_n d_Dr_draw_17 rfl rfl ?_ | refine mg_aload_nN d_Dr_draw_17 rfl rfl ?_
    refine mg_iload_n d_Dr_draw_18 rfl rfl ?_
    refine mg_iload_n d_Dr_draw_19 rfl rfl ?_
    refine mg_callV (vl_Dr_66 rfl) d_Dr_draw_20 hD.1 rfl rfl (c_Dr_pick hD) rfl rfl (by rw [hR]; decide) (by rw [hR]; decide) (Nat.le_of_ble_eq_true rfl) ?_
    rintro v M3 ⟨rfl, hD3, hs⟩
    generalize hp : pickF how gv (nI cs.length) span x = p at hD3 ⊢
    replace hD := hD3
    refine mg_istore d_Dr_draw_23 (Nat.le_of_ble_eq_true rfl) rfl ?_
    refine mg_iload d_Dr_draw_25 rfl ?_
    refine mg_if_lt (tgt := 57) d_Dr_draw_27 (by decide) (fun c_27 => ?_) (fun c_27 => ?_)
    · refine mg_aload_n d_Dr_draw_57 rfl rfl ?_
      refine mg_iconst (v := 1) d_Dr_draw_58 (by decide) ?_
      refine mg_putfield (fw_Dr_36 _) d_Dr_draw_59 hD.1 (Nat.le_of_ble_eq_true rfl) (fun _ => ⟨rfl, rfl⟩) ?_
      refine mg_iconst (v := 0) d_Dr_draw_62 (by decide) ?_
      refine mg_ireturn d_Dr_draw_63 rfl rfl (Nat.le_of_ble_eq_true rfl) (Nat.le_of_ble_eq_true rfl) ⟨?_, ?_, hs.up (by omega) (by omega)⟩
      · rw [drawF_bad hp (Or.inl c_27)]
      · rw [drawF_bad hp (Or.inl c_27)]; exact hD.obj (il' := true) (x' := p.2) (md' := (how, gv, z)) rfl
    · refine mg_iload d_Dr_draw_30 rfl ?_
      refine mg_iload_n d_Dr_draw_32 rfl rfl ?_
      refine mg_icmp_gt (tgt := 57) d_Dr_draw_33 (by decide) (fun c_33 => ?_) (fun c_33 => ?_)
      · refine mg_aload_n d_Dr_draw_57 rfl rfl ?_
        refine mg_iconst (v := 1) d_Dr_draw_58 (by decide) ?_
        refine mg_putfield (fw_Dr_36 _) d_Dr_draw_59 hD.1 (Nat.le_of_ble_eq_true rfl) (fun _ => ⟨rfl, rfl⟩) ?_
        refine mg_iconst (v := 0) d_Dr_draw_62 (by decide) ?_
        refine mg_ireturn d_Dr_draw_63 rfl rfl (Nat.le_of_ble_eq_true rfl) (Nat.le_of_ble_eq_true rfl) ⟨?_, ?_, hs.up (by omega) (by omega)⟩
        · rw [drawF_bad hp (Or.inr (Or.inl c_33))]
        · rw [drawF_bad hp (Or.inr (Or.inl c_33))]; exact hD.obj (il' := true) (x' := p.2) (md' := (how, gv, z)) rfl
      · refine mg_iload_n d_Dr_draw_36 rfl rfl ?_
        first | refine mg_aload_n d_Dr_draw_37 rfl rfl ?_ | refine mg_aload_nN d_Dr_draw_37 rfl rfl ?_
        refine mg_getfield fl_Dr_21 d_Dr_draw_38 (by first | exact hD.1 | exact hD.2.2.2.1) rfl ?_
        refine mg_arrlen (v := nI 60) rfl d_Dr_draw_41 (by first | exact hD.1 | exact hD.2.2.2.1) rfl ?_
        refine mg_icmp_ge (tgt := 57) d_Dr_draw_42 (by decide) (fun c_42 => ?_) (fun c_42 => ?_)
        · have hge : 60 ≤ cs.length := by
            rcases Nat.lt_or_ge cs.length 60 with q | q
            · exact absurd c_42 (nI_ge q (by decide))
            · exact q
          refine mg_aload_n d_Dr_draw_57 rfl rfl ?_
          refine mg_iconst (v := 1) d_Dr_draw_58 (by decide) ?_
          refine mg_putfield (fw_Dr_36 _) d_Dr_draw_59 hD.1 (Nat.le_of_ble_eq_true rfl) (fun _ => ⟨rfl, rfl⟩) ?_
          refine mg_iconst (v := 0) d_Dr_draw_62 (by decide) ?_
          refine mg_ireturn d_Dr_draw_63 rfl rfl (Nat.le_of_ble_eq_true rfl) (Nat.le_of_ble_eq_true rfl) ⟨?_, ?_, hs.up (by omega) (by omega)⟩
          · rw [drawF_bad hp (Or.inr (Or.inr hge))]
          · rw [drawF_bad hp (Or.inr (Or.inr hge))]; exact hD.obj (il' := true) (x' := p.2) (md' := (how, gv, z)) rfl
        · have hlt : cs.length < 60 := by
            rcases Nat.lt_or_ge cs.length 60 with q | q
            · exact q
            · exact absurd (nI_le q (by have := hD.2.1.le; show cs.length < 2 ^ 31; have h9 : cs.length ≤ 60 := this; omega)) c_42
          have hin := nIw (n := 60) hlt (by decide)
          first | refine mg_aload_n d_Dr_draw_45 rfl rfl ?_ | refine mg_aload_nN d_Dr_draw_45 rfl rfl ?_
          refine mg_getfield fl_Dr_12 d_Dr_draw_46 (by first | exact hD.1 | exact hD.2.2.2.1) rfl ?_
          refine mg_iload d_Dr_draw_49 rfl ?_
          refine mg_callV (vl_Dr_62 rfl) d_Dr_draw_51 (by obtain ⟨_, e1, -⟩ := hD.2.1; exact e1) rfl rfl (c_In_add (xs := cs) hD.2.1) rfl rfl (by rw [hR]; decide) (by rw [hR]; decide) (Nat.le_of_ble_eq_true rfl) ?_
          rintro v M4 ⟨rfl, hI4, hs4⟩
          rw [show (if cs.length < 60 then cs ++ [p.1] else cs) = cs ++ [p.1] from if_pos hlt] at hI4
          replace hD := hD.cs hI4 hs4
          replace hs := hs.tr (hs4.wd (by omega) (by omega))
          have hLm := hD.2.2.2.1
          refine mg_if_ne (tgt := 64) d_Dr_draw_54 (by decide) (fun c_54 => ?_) (fun c_54 => ?_)
          · first | refine mg_aload_n d_Dr_draw_64 rfl rfl ?_ | refine mg_aload_nN d_Dr_draw_64 rfl rfl ?_
            refine mg_getfield fl_Dr_21 d_Dr_draw_65 (by first | exact hD.1 | exact hD.2.2.2.1) rfl ?_
            refine mg_iload_n d_Dr_draw_68 rfl rfl ?_
            refine mg_iload_n d_Dr_draw_69 rfl rfl ?_
            refine mg_iastore rfl d_Dr_draw_70 hLm hin ?_
            rw [nI_clampN (by omega)]
            refine mg_iload d_Dr_draw_71 rfl ?_
            refine mg_ireturn d_Dr_draw_73 rfl rfl (Nat.le_of_ble_eq_true rfl) (Nat.le_of_ble_eq_true rfl) ⟨?_, ?_, hs.up (by omega) (by omega)⟩
            · rw [drawF_ok hp c_27 c_33 hlt]
            · rw [drawF_ok hp c_27 c_33 hlt]; exact hD.lm
          · exact absurd c_54 (by rw [show (if cs.length < 60 then (1 : Int32) else 0) = 1 from if_pos hlt]; decide)
  · obtain rfl := bI_t c_4
    refine mg_iconst (v := 0) d_Dr_draw_7 (by decide) ?_
    exact mg_ireturn d_Dr_draw_8 rfl rfl (Nat.le_of_ble_eq_true rfl) (Nat.le_of_ble_eq_true rfl) ⟨rfl, hD, sm.rf⟩
end
section
/-! DRAWS: the next turn, and a new one -/
/-- the row that comes next, looking at the first i choices -/
def nextF (cs : List Int32) (lm : Nat → Int32) : Nat → Option (List Int32)
  | 0 => none
  | i + 1 => if cs.getD i 0 < lm i then some (cs.take i ++ [cs.getD i 0 + 1]) else nextF cs lm i
theorem nI_m1 (i : Nat) : nI (i + 1) + Int32.ofInt (-1) = nI i := by
  have h : (Int32.ofInt (-1)) = -1 := by decide
  rw [h]; exact pk_m1 i
def nextP (M : mg_M) (d : Nat) (z : Int32) (gv cs ns : List Int32) (x : Int64) (lm : Nat → Int32) (r : Option (List Int32)) (v : Option Value) (M' : mg_M) : Prop := match r with
  | none => v = some (.int 0) ∧ M' = M
  | some g => v = some (.int 1) ∧ isD M' d (2, g, z) ([], [], false, x, lm) ∧ sm d (d + 8) M M'

set_option maxHeartbeats 4000000 in
set_option maxRecDepth 100000 in
theorem lp_Dr_next {X : mg_X} {M : mg_M} {d : Nat} {how z : Int32} {gv cs ns : List Int32} {il : Bool} {x : Int64} {lm : Nat → Int32} {r : Option (List Int32)} (hR : mg_R X = { frames := 3, cells := 0, slots := 0, locals := 67 }) (hD : isD M d (how, gv, z) (cs, ns, il, x, lm)) : ∀ (n : Nat) (t : Option Value), n ≤ cs.length → nextF cs lm n = r → mg_G X Y_Dr_beginNextTurn (mg_Q X (nextP M d z gv cs ns x lm r) { frames := 3, cells := 0, slots := 0, locals := 67 }) M 0 0 10 [some (.ref d), some (.int (nI n + Int32.ofInt (-1))), t] [] := by
  have hcs : cs.length ≤ 60 := hD.2.1.le
  intro n
  induction n with
  | zero =>
    intro t hn hr
    rw [nextF] at hr
    subst hr
    refine mg_iload_n d_Dr_beginNextTurn_10 rfl rfl ?_
    refine mg_if_lt (tgt := 86) d_Dr_beginNextTurn_11 (by decide) (fun c_11 => ?_) (fun c_11 => absurd (by rw [nI_0]; decide) c_11)
    refine mg_iconst (v := 0) d_Dr_beginNextTurn_86 (by decide) ?_
    exact mg_ireturn d_Dr_beginNextTurn_87 rfl rfl (Nat.le_of_ble_eq_true rfl) (Nat.le_of_ble_eq_true rfl) ⟨rfl, rfl⟩
  | succ i ih =>
    intro t hn hr
    rw [nI_m1]
    have ih0 : nextF cs lm i = r → ∀ u : Option Value, mg_G X Y_Dr_beginNextTurn (mg_Q X (nextP M d z gv cs ns x lm r) { frames := 3, cells := 0, slots := 0, locals := 67 }) M 0 0 10 [some (.ref d), some (.int (nI i + Int32.ofInt (-1))), u] [] := fun h u => ih u (by omega) h
    clear ih
    refine mg_iload_n d_Dr_beginNextTurn_10 rfl rfl ?_
    refine mg_if_lt (tgt := 86) d_Dr_beginNextTurn_11 (by decide) (fun c_11 => ?_) (fun c_11 => ?_)
    · exact absurd c_11 (nI_pos (by omega))
    · refine mg_iload_n d_Dr_beginNextTurn_14 rfl rfl ?_
      first | refine mg_aload_n d_Dr_beginNextTurn_15 rfl rfl ?_ | refine mg_aload_nN d_Dr_beginNextTurn_15 rfl rfl ?_
      refine mg_getfield fl_Dr_21 d_Dr_beginNextTurn_16 (by first | exact hD.1 | exact hD.2.2.2.1) rfl ?_
      refine mg_arrlen (v := nI 60) rfl d_Dr_beginNextTurn_19 (by first | exact hD.1 | exact hD.2.2.2.1) rfl ?_
      refine mg_icmp_ge (tgt := 86) d_Dr_beginNextTurn_20 (by decide) (fun c_20 => ?_) (fun c_20 => ?_)
      · exact absurd c_20 (nI_ge (by omega) (by decide))
      · have hin := nIw (n := 60) (j := i) (by omega) (by decide)
        first | refine mg_aload_n d_Dr_beginNextTurn_23 rfl rfl ?_ | refine mg_aload_nN d_Dr_beginNextTurn_23 rfl rfl ?_
        refine mg_getfield fl_Dr_12 d_Dr_beginNextTurn_24 (by first | exact hD.1 | exact hD.2.2.2.1) rfl ?_
        refine mg_iload_n d_Dr_beginNextTurn_27 rfl rfl ?_
        refine mg_iconst (v := 0) d_Dr_beginNextTurn_28 (by decide) ?_
        refine mg_callV (vl_Dr_58 rfl) d_Dr_beginNextTurn_29 (by obtain ⟨_, e1, -⟩ := hD.2.1; exact e1) rfl rfl (c_In_at (xs := cs) hD.2.1) rfl rfl (by rw [hR]; decide) (by rw [hR]; decide) (Nat.le_of_ble_eq_true rfl) ?_
        rintro v M2 ⟨rfl, rfl⟩
        refine mg_eqi (atI_in hcs (by omega : i < cs.length)) ?_
        refine mg_istore_n d_Dr_beginNextTurn_32 rfl (Nat.le_of_ble_eq_true rfl) rfl ?_
        refine mg_iload_n d_Dr_beginNextTurn_33 rfl rfl ?_
        first | refine mg_aload_n d_Dr_beginNextTurn_34 rfl rfl ?_ | refine mg_aload_nN d_Dr_beginNextTurn_34 rfl rfl ?_
        refine mg_getfield fl_Dr_21 d_Dr_beginNextTurn_35 (by first | exact hD.1 | exact hD.2.2.2.1) rfl ?_
        refine mg_iload_n d_Dr_beginNextTurn_38 rfl rfl ?_
        refine mg_iaload rfl d_Dr_beginNextTurn_39 hD.2.2.2.1 hin ?_
        refine mg_eqi (y := lm i) (by rw [nI_clampN (by omega)]) ?_
        refine mg_icmp_ge (tgt := 80) d_Dr_beginNextTurn_40 (by decide) (fun c_40 => ?_) (fun c_40 => ?_)
        · have hlt : ¬ cs.getD i 0 < lm i := Int32.not_lt.mpr c_40
          rw [nextF, if_neg hlt] at hr
          refine mg_iinc (v := nI i + Int32.ofInt (-1)) d_Dr_beginNextTurn_80 rfl rfl (Nat.le_of_ble_eq_true rfl) rfl ?_
          refine mg_goto (tgt := 10) d_Dr_beginNextTurn_83 (by decide) ?_
          exact ih0 hr _
        · have hlt : cs.getD i 0 < lm i := Int32.not_le.mp c_40
          rw [nextF, if_pos hlt] at hr
          subst hr
          first | refine mg_aload_n d_Dr_beginNextTurn_43 rfl rfl ?_ | refine mg_aload_nN d_Dr_beginNextTurn_43 rfl rfl ?_
          refine mg_getfield fl_Dr_25 d_Dr_beginNextTurn_44 (by first | exact hD.1 | exact hD.2.2.2.1) rfl ?_
          first | refine mg_aload_n d_Dr_beginNextTurn_47 rfl rfl ?_ | refine mg_aload_nN d_Dr_beginNextTurn_47 rfl rfl ?_
          refine mg_getfield fl_Dr_12 d_Dr_beginNextTurn_48 (by first | exact hD.1 | exact hD.2.2.2.1) rfl ?_
          refine mg_callV (vl_Dr_40 rfl) d_Dr_beginNextTurn_51 (by obtain ⟨_, e1, -⟩ := hD.2.2.2.2; exact e1) rfl rfl (c_In_copyFrom (xs := gv) (ys := cs) hD.2.2.2.2 hD.2.1 (by omega)) rfl rfl (by rw [hR]; decide) (by rw [hR]; decide) (Nat.le_of_ble_eq_true rfl) ?_
          rintro v M3 ⟨rfl, hI3, hs3⟩
          replace hD := hD.gv hI3 hs3
          have hs := (hs3.wd (lo' := d) (hi' := d + 8) (by omega) (by omega))
          first | refine mg_aload_n d_Dr_beginNextTurn_54 rfl rfl ?_ | refine mg_aload_nN d_Dr_beginNextTurn_54 rfl rfl ?_
          refine mg_getfield fl_Dr_25 d_Dr_beginNextTurn_55 (by first | exact hD.1 | exact hD.2.2.2.1) rfl ?_
          refine mg_iload_n d_Dr_beginNextTurn_58 rfl rfl ?_
          refine mg_callV (vl_Dr_32 rfl) d_Dr_beginNextTurn_59 (by obtain ⟨_, e1, -⟩ := hD.2.2.2.2; exact e1) rfl rfl (c_In_cutTo (xs := cs) hD.2.2.2.2) rfl rfl (by rw [hR]; decide) (by rw [hR]; decide) (Nat.le_of_ble_eq_true rfl) ?_
          rintro v M4 ⟨rfl, hI4, hs4⟩
          replace hD := hD.gv hI4 hs4
          replace hs := hs.tr (hs4.wd (by omega) (by omega))
          first | refine mg_aload_n d_Dr_beginNextTurn_62 rfl rfl ?_ | refine mg_aload_nN d_Dr_beginNextTurn_62 rfl rfl ?_
          refine mg_getfield fl_Dr_25 d_Dr_beginNextTurn_63 (by first | exact hD.1 | exact hD.2.2.2.1) rfl ?_
          refine mg_iload_n d_Dr_beginNextTurn_66 rfl rfl ?_
          refine mg_iconst (v := 1) d_Dr_beginNextTurn_67 (by decide) ?_
          refine mg_iadd d_Dr_beginNextTurn_68 ?_
          refine mg_callV (vl_Dr_62 rfl) d_Dr_beginNextTurn_69 (by obtain ⟨_, e1, -⟩ := hD.2.2.2.2; exact e1) rfl rfl (c_In_add (xs := cs.take (nI i).toNatClampNeg) hD.2.2.2.2) rfl rfl (by rw [hR]; decide) (by rw [hR]; decide) (Nat.le_of_ble_eq_true rfl) ?_
          rintro v M5 ⟨rfl, hI5, hs5⟩
          have htl : (cs.take (nI i).toNatClampNeg).length < 60 := by rw [nI_clampN (by omega), List.length_take]; omega
          rw [show (if (cs.take (nI i).toNatClampNeg).length < 60 then cs.take (nI i).toNatClampNeg ++ [cs.getD i 0 + 1] else cs.take (nI i).toNatClampNeg) = cs.take i ++ [cs.getD i 0 + 1] from by rw [if_pos htl, nI_clampN (by omega)]] at hI5
          replace hD := hD.gv hI5 hs5
          replace hs := hs.tr (hs5.wd (by omega) (by omega))
          refine mg_pop d_Dr_beginNextTurn_72 rfl ?_
          first | refine mg_aload_n d_Dr_beginNextTurn_73 rfl rfl ?_ | refine mg_aload_nN d_Dr_beginNextTurn_73 rfl rfl ?_
          refine mg_iconst (v := 2) d_Dr_beginNextTurn_74 (by decide) ?_
          refine mg_callV (vl_Dr_44 rfl) d_Dr_beginNextTurn_75 hD.1 rfl rfl (c_Dr_begin hD) rfl rfl (by rw [hR]; decide) (by rw [hR]; decide) (Nat.le_of_ble_eq_true rfl) ?_
          rintro v M6 ⟨rfl, hD6, hs6⟩
          refine mg_iconst (v := 1) d_Dr_beginNextTurn_78 (by decide) ?_
          exact mg_ireturn d_Dr_beginNextTurn_79 rfl rfl (Nat.le_of_ble_eq_true rfl) (Nat.le_of_ble_eq_true rfl) ⟨rfl, hD6, hs.tr hs6⟩

set_option maxHeartbeats 4000000 in
set_option maxRecDepth 100000 in
theorem c_Dr_beginNextTurn {M : mg_M} {d : Nat} {how z : Int32} {gv cs ns : List Int32} {il : Bool} {x : Int64} {lm : Nat → Int32} (hD : isD M d (how, gv, z) (cs, ns, il, x, lm)) : mg_Ct Y_Dr_beginNextTurn { frames := 3, cells := 0, slots := 0, locals := 67 } [.ref d] M (nextP M d z gv cs ns x lm (nextF cs lm cs.length)) := by
  refine mg_met [some (.ref d), none, none] (by decide +kernel) rfl (Nat.le_of_ble_eq_true rfl) ?_
  intro X hR _
  first | refine mg_aload_n d_Dr_beginNextTurn_0 rfl rfl ?_ | refine mg_aload_nN d_Dr_beginNextTurn_0 rfl rfl ?_
  refine mg_getfield fl_Dr_12 d_Dr_beginNextTurn_1 (by first | exact hD.1 | exact hD.2.2.2.1) rfl ?_
  refine mg_callV (vl_Dr_54 rfl) d_Dr_beginNextTurn_4 (by obtain ⟨_, e1, -⟩ := hD.2.1; exact e1) rfl rfl (c_In_length (xs := cs) hD.2.1) rfl rfl (by rw [hR]; decide) (by rw [hR]; decide) (Nat.le_of_ble_eq_true rfl) ?_
  rintro v M2 ⟨rfl, rfl⟩
  refine mg_iconst (v := 1) d_Dr_beginNextTurn_7 (by decide) ?_
  refine mg_isub d_Dr_beginNextTurn_8 ?_
  refine mg_eqi (y := nI cs.length + Int32.ofInt (-1)) (by rw [show (Int32.ofInt (-1)) = -1 by decide, Int32.sub_eq_add_neg]) ?_
  refine mg_istore_n d_Dr_beginNextTurn_9 rfl (Nat.le_of_ble_eq_true rfl) rfl ?_
  exact lp_Dr_next hR hD cs.length none (Nat.le_refl _) rfl

set_option maxHeartbeats 4000000 in
set_option maxRecDepth 100000 in
theorem c_Dr_init {M : mg_M} {d : Nat} (h0 : M d = some (.inr (2, [.null, .null, .int 0, .null, .null, .int 0, .long 0, .int 0]))) (e1 : M (d + 1) = none) (e2 : M (d + 2) = none) (e3 : M (d + 3) = none) (e4 : M (d + 4) = none) (e5 : M (d + 5) = none) (e6 : M (d + 6) = none) (e7 : M (d + 7) = none) : mg_Ct Y_Dr_init { frames := 2, cells := 7, slots := 246, locals := 32 } [.ref d] M (fun v M' => v = none ∧ isD M' d (0, [], 0) ([], [], false, 0, fun _ => 0) ∧ sm d (d + 8) M M') := by
  refine mg_met [some (.ref d)] (by decide +kernel) rfl (Nat.le_of_ble_eq_true rfl) ?_
  intro X hR _
  first | refine mg_aload_n d_Dr_init_0 rfl rfl ?_ | refine mg_aload_nN d_Dr_init_0 rfl rfl ?_
  refine mg_objInit ol_Dr_3 oi_inst oi_code d_Dr_init_1 (by rw [hR]; decide) (by rw [hR]; exact Nat.le_of_ble_eq_true rfl) ?_
  first | refine mg_aload_n d_Dr_init_4 rfl rfl ?_ | refine mg_aload_nN d_Dr_init_4 rfl rfl ?_
  refine mg_new (h := d + 1) nl_Dr_9 d_Dr_init_5 (by omega) e1 (fun v hv => by simp at hv; rcases hv with rfl | rfl <;> trivial) (by rw [hR]; exact Nat.le_of_ble_eq_true rfl) (by rw [hR]; exact Nat.le_of_ble_eq_true rfl) ?_
  refine mg_dup d_Dr_init_8 rfl ?_
  refine mg_callI (il_Dr_11 rfl) d_Dr_init_9 (c_In_init (h := d + 1) (mg_up_s _ _ _) (by rw [mg_up_n _ _ (by omega)]; exact e2)) rfl rfl (by rw [hR]; decide) (by rw [hR]; decide) (Nat.le_of_ble_eq_true rfl) ?_
  rintro v M1 ⟨rfl, hA, s1⟩
  have k1 : ∀ q, (q < d + 1 ∨ d + 3 ≤ q) → M1 q = M q := fun q hq => by rw [s1 q (by omega), mg_up_n _ _ (by omega)]
  clear s1
  refine mg_putfield fw_Dr_12 d_Dr_init_12 (by rw [k1 d (by omega)]; exact h0) (Nat.le_of_ble_eq_true rfl) (fun _ => ⟨rfl, rfl⟩) ?_
  first | refine mg_aload_n d_Dr_init_15 rfl rfl ?_ | refine mg_aload_nN d_Dr_init_15 rfl rfl ?_
  refine mg_new (h := d + 3) nl_Dr_9 d_Dr_init_16 (by omega) (by rw [mg_up_n _ _ (by omega), k1 _ (by omega)]; exact e3) (fun v hv => by simp at hv; rcases hv with rfl | rfl <;> trivial) (by rw [hR]; exact Nat.le_of_ble_eq_true rfl) (by rw [hR]; exact Nat.le_of_ble_eq_true rfl) ?_
  refine mg_dup d_Dr_init_19 rfl ?_
  refine mg_callI (il_Dr_11 rfl) d_Dr_init_20 (c_In_init (h := d + 3) (mg_up_s _ _ _) (by rw [mg_up_n _ _ (by omega), mg_up_n _ _ (by omega), k1 _ (by omega)]; exact e4)) rfl rfl (by rw [hR]; decide) (by rw [hR]; decide) (Nat.le_of_ble_eq_true rfl) ?_
  rintro v M2 ⟨rfl, hB, s2⟩
  have hA := ((hA.up (k := d) (e := .inr (2, [.ref (d + 1), .null, .int 0, .null, .null, .int 0, .long 0, .int 0])) (by omega) (by omega)).up (k := d + 3) (e := .inr (1, [.null, .int 0])) (by omega) (by omega)).sm s2 (by omega)
  have k2 : ∀ q, (q < d ∨ d + 5 ≤ q) → M2 q = M q := fun q hq => by rw [s2 q (by omega), mg_up_n _ _ (by omega), mg_up_n _ _ (by omega), k1 q (by omega)]
  have o2 : M2 d = some (.inr (2, [.ref (d + 1), .null, .int 0, .null, .null, .int 0, .long 0, .int 0])) := by rw [s2 d (by omega), mg_up_n _ _ (by omega), mg_up_s]; rfl
  clear s2 k1
  refine mg_putfield fw_Dr_18 d_Dr_init_23 o2 (Nat.le_of_ble_eq_true rfl) (fun _ => ⟨rfl, rfl⟩) ?_
  first | refine mg_aload_n d_Dr_init_26 rfl rfl ?_ | refine mg_aload_nN d_Dr_init_26 rfl rfl ?_
  refine mg_bipush (v := 60) d_Dr_init_27 (by decide) ?_
  refine mg_newarr (t := 0) (nn := 60) (h := d + 5) rfl ac_int d_Dr_init_29 (by omega) (by rw [mg_up_n _ _ (by omega), k2 _ (by omega)]; exact e5) (by decide) (by decide) (by decide) (by rw [hR]; exact Nat.le_of_ble_eq_true rfl) (by rw [hR]; exact Nat.le_of_ble_eq_true rfl) ?_
  refine mg_putfield fw_Dr_21 d_Dr_init_31 (by rw [mg_up_n _ _ (by omega), mg_up_s]) (Nat.le_of_ble_eq_true rfl) (fun _ => ⟨rfl, rfl⟩) ?_
  first | refine mg_aload_n d_Dr_init_34 rfl rfl ?_ | refine mg_aload_nN d_Dr_init_34 rfl rfl ?_
  obtain ⟨M3, hM3⟩ : ∃ M3, M3 = mg_up (mg_up (mg_up M2 d (.inr (2, [.ref (d + 1), .ref (d + 3), .int 0, .null, .null, .int 0, .long 0, .int 0]))) (d + 5) (.inl (0, 60, .inl (fun _ => 0)))) d (.inr (2, [.ref (d + 1), .ref (d + 3), .int 0, .ref (d + 5), .null, .int 0, .long 0, .int 0])) := ⟨_, rfl⟩
  refine mg_eqM (M' := M3) hM3.symm ?_
  have hA : isI M3 (d + 1) [] := by rw [hM3]; exact ((hA.up (by omega) (by omega)).up (by omega) (by omega)).up (by omega) (by omega)
  have hB : isI M3 (d + 3) [] := by rw [hM3]; exact ((hB.up (by omega) (by omega)).up (by omega) (by omega)).up (by omega) (by omega)
  have k3 : ∀ q, (q < d ∨ d + 6 ≤ q) → M3 q = M q := fun q hq => by rw [hM3, mg_up_n _ _ (by omega), mg_up_n _ _ (by omega), mg_up_n _ _ (by omega), k2 q (by omega)]
  have o3 : M3 d = some (.inr (2, [.ref (d + 1), .ref (d + 3), .int 0, .ref (d + 5), .null, .int 0, .long 0, .int 0])) := by rw [hM3, mg_up_s]
  have l3 : M3 (d + 5) = some (.inl (0, 60, .inl (fun _ => 0))) := by rw [hM3, mg_up_n _ _ (by omega), mg_up_s]
  clear hM3 k2
  refine mg_new (h := d + 6) nl_Dr_9 d_Dr_init_35 (by omega) (by rw [k3 _ (by omega)]; exact e6) (fun v hv => by simp at hv; rcases hv with rfl | rfl <;> trivial) (by rw [hR]; exact Nat.le_of_ble_eq_true rfl) (by rw [hR]; exact Nat.le_of_ble_eq_true rfl) ?_
  refine mg_dup d_Dr_init_38 rfl ?_
  refine mg_callI (il_Dr_11 rfl) d_Dr_init_39 (c_In_init (h := d + 6) (mg_up_s _ _ _) (by rw [mg_up_n _ _ (by omega), k3 _ (by omega)]; exact e7)) rfl rfl (by rw [hR]; decide) (by rw [hR]; decide) (Nat.le_of_ble_eq_true rfl) ?_
  rintro v M4 ⟨rfl, hC, s4⟩
  have hA := (hA.up (k := d + 6) (e := .inr (1, [.null, .int 0])) (by omega) (by omega)).sm s4 (by omega)
  have hB := (hB.up (k := d + 6) (e := .inr (1, [.null, .int 0])) (by omega) (by omega)).sm s4 (by omega)
  have k4 : ∀ q, (q < d ∨ d + 8 ≤ q) → M4 q = M q := fun q hq => by rw [s4 q (by omega), mg_up_n _ _ (by omega), k3 q (by omega)]
  have o4 : M4 d = some (.inr (2, [.ref (d + 1), .ref (d + 3), .int 0, .ref (d + 5), .null, .int 0, .long 0, .int 0])) := by rw [s4 d (by omega), mg_up_n _ _ (by omega)]; exact o3
  have l4 : M4 (d + 5) = some (.inl (0, 60, .inl (fun _ => 0))) := by rw [s4 _ (by omega), mg_up_n _ _ (by omega)]; exact l3
  clear s4 k3 o3 l3
  refine mg_putfield fw_Dr_25 d_Dr_init_42 o4 (Nat.le_of_ble_eq_true rfl) (fun _ => ⟨rfl, rfl⟩) ?_
  first | refine mg_aload_n d_Dr_init_45 rfl rfl ?_ | refine mg_aload_nN d_Dr_init_45 rfl rfl ?_
  refine mg_iconst (v := 0) d_Dr_init_46 (by decide) ?_
  refine mg_putfield (fw_Dr_28 _) d_Dr_init_47 (mg_up_s _ _ _) (Nat.le_of_ble_eq_true rfl) (fun _ => ⟨rfl, rfl⟩) ?_
  rw [mg_up_up]
  refine mg_return d_Dr_init_50 rfl (Nat.le_of_ble_eq_true rfl) (Nat.le_of_ble_eq_true rfl) ⟨rfl, ⟨mg_up_s _ _ _, hA.up (by omega) (by omega), hB.up (by omega) (by omega), by rw [mg_up_n _ _ (by omega)]; exact l4, hC.up (by omega) (by omega)⟩, fun q hq => ?_⟩
  rw [mg_up_n _ _ (by omega)]; exact k4 q hq
end
section
/-! GENERATORS: number i lies at the handle 100 + i; a generator is (kind, a, b, deep) -/
abbrev gN : Type := Nat × Int32 × Int32 × Nat
def genE (g : gN) : va_E := match g with
  | (0, a, b, dp) => .inr (3, [.int (nI dp), .int a, .int b])
  | (1, a, b, dp) => .inr (4, [.int (nI dp), .ref (100 + a.toNatClampNeg), .int b])
  | (2, a, b, dp) => .inr (5, [.int (nI dp), .ref (100 + a.toNatClampNeg), .ref (100 + b.toNatClampNeg)])
  | (3, a, b, dp) => .inr (6, [.int (nI dp), .ref (100 + a.toNatClampNeg), .ref (100 + b.toNatClampNeg)])
  | (4, a, b, dp) => .inr (7, [.int (nI dp), .ref (100 + a.toNatClampNeg), .int b])
  | (_, a, b, dp) => .inr (8, [.int (nI dp), .ref (100 + a.toNatClampNeg), .int b])
def isG (M : mg_M) (gs : List gN) : Prop := ∀ (i : Nat) (g : gN), gs[i]? = some g → M (100 + i) = some (genE g)
theorem isG.fr {M M' : mg_M} {gs : List gN} {lo hi : Nat} (h : isG M gs) (hs : sm lo hi M M') (hd : hi ≤ 100 ∨ 100 + gs.length ≤ lo) : isG M' gs := fun i g hg => by
  have hl := (List.getElem?_eq_some_iff.mp hg).1
  rw [hs (100 + i) (by omega)]; exact h i g hg
theorem isG.up {M : mg_M} {gs : List gN} {k : Nat} {e : va_E} (h : isG M gs) (hd : k < 100 ∨ 100 + gs.length ≤ k) : isG (mg_up M k e) gs := h.fr (lo := k) (hi := k + 1) (sm.rf.up (by omega) (by omega)) (by omega)
/-- a list's items: so long as a draw says 1, and there is room -/
def listF (step : dS → dS) (md : dM) : Nat → dS → dS
  | 0, σ => σ
  | m + 1, σ => if (drawF md σ 1 2).1 = 1 then listF step md m (step (drawF md σ 1 2).2) else (drawF md σ 1 2).2
def illF (σ : dS) : dS := (σ.1, σ.2.1, true, σ.2.2.2)
def cutF (σ : dS) (n : Nat) : dS := (σ.1, σ.2.1.take n, σ.2.2)
def raiseF (σ : dS) (n : Nat) (b : Int32) : dS := (σ.1, raiseL σ.2.1 n b, σ.2.2)
def keepF (step : dS → dS) (start : Nat) (par : Int32) : Nat → dS → dS
  | 0, σ => illF σ
  | m + 1, σ => if σ.2.2.1 = true then illF σ else if (sumF 0 ((step (cutF σ start)).2.1.drop start)) &&& 1 = par.toInt64 then step (cutF σ start) else keepF step start par m (step (cutF σ start))
/-- a generator gives its numbers; the first number is how deep it may go -/
def giveF (gs : List gN) (md : dM) : Nat → Nat → dS → dS
  | 0, _, σ => σ
  | d + 1, i, σ => match gs[i]? with
    | none => σ
    | some (0, a, b, _) => numF (drawF md σ (b - a) (spanF md.2.2 (b - a))).2 (a + (drawF md σ (b - a) (spanF md.2.2 (b - a))).1)
    | some (1, a, b, _) => listF (giveF gs md d a.toNatClampNeg) md b.toNatClampNeg σ
    | some (2, a, b, _) => if (giveF gs md d a.toNatClampNeg σ).2.2.1 = true then giveF gs md d a.toNatClampNeg σ else giveF gs md d b.toNatClampNeg (giveF gs md d a.toNatClampNeg σ)
    | some (3, a, b, _) => if (drawF md σ 1 2).2.2.2.1 = true then (drawF md σ 1 2).2 else if (drawF md σ 1 2).1 = 0 then giveF gs md d a.toNatClampNeg (drawF md σ 1 2).2 else giveF gs md d b.toNatClampNeg (drawF md σ 1 2).2
    | some (4, a, b, _) => keepF (giveF gs md d a.toNatClampNeg) σ.2.1.length b 3 σ
    | some (_, a, b, _) => raiseF (giveF gs md d a.toNatClampNeg σ) σ.2.1.length b
def rmG (dp : Nat) : Room := { frames := 2 + dp, cells := 0, slots := 0, locals := 44 + 24 * dp }
abbrev gvY (k : Nat) : MethodName × ByteArray × Nat × Option FieldType := match k with
  | 0 => Y_IR_give
  | 1 => Y_LO_give
  | 2 => Y_PO_give
  | 3 => Y_OO_give
  | 4 => Y_KO_give
  | _ => Y_AT_give
abbrev gvX : MethodName := ⟨"PropertyShrink$Generator", "give", "(LPropertyShrink$Draws;)V"⟩
def mg_GV (Y : mg_Y) (ix : Nat) : Prop := mg_UL Y Y_IR_give gvX ix 1 ∧ mg_UL Y Y_LO_give gvX ix 1 ∧ mg_UL Y Y_PO_give gvX ix 1 ∧ mg_UL Y Y_OO_give gvX ix 1 ∧ mg_UL Y Y_KO_give gvX ix 1 ∧ mg_UL Y Y_AT_give gvX ix 1
abbrev gvP (gs : List gN) (md : dM) (M : mg_M) (d i : Nat) (σ : dS) : Option Value → mg_M → Prop := fun v M' => v = none ∧ isD M' 12 md (giveF gs md d i σ) ∧ sm 12 20 M M'
/-- generator i keeps its contract: give, with the draws at 12 -/
def gvC (gs : List gN) (md : dM) (i : Nat) (g : gN) : Prop := ∀ (d : Nat) (M : mg_M) (σ : dS), g.2.2.2 ≤ d → isG M gs → isD M 12 md σ → mg_Ct (gvY g.1) (rmG g.2.2.2) [.ref (100 + i), .ref 12] M (gvP gs md M d i σ)
/-- the parts come earlier and are less deep -/
def gP (gs : List gN) (dp : Nat) (a : Int32) : Prop := ∃ (ja : Nat) (g : gN), a = nI ja ∧ ja < 20 ∧ gs[ja]? = some g ∧ g.2.2.2 < dp
def wfG (gs : List gN) : Prop := gs.length ≤ 20 ∧ ∀ (i k : Nat) (a b : Int32) (dp : Nat), gs[i]? = some (k, a, b, dp) → k ≤ 5 ∧ 1 ≤ dp ∧ dp ≤ 8 ∧ (k = 0 → -1000 ≤ a.toInt ∧ a.toInt ≤ b.toInt ∧ b.toInt ≤ 1000) ∧ (k ≠ 0 → gP gs dp a) ∧ (k = 2 ∨ k = 3 → gP gs dp b) ∧ (k = 1 → ∃ m, m ≤ 9 ∧ b = nI m) ∧ (k = 4 → b = 0 ∨ b = 1)
set_option maxHeartbeats 4000000 in
theorem mg_callG {X : mg_X} {Y : mg_Y} {Q : State → Prop} {M : mg_M} {kc j pc ix : Nat} {lv : List (Option Value)} {rest st0 : List Value} {post : Option Value → mg_M → Prop} {gs : List gN} {i0 : Nat} {g : gN} (V : mg_GV Y ix) (hd : decode (mg_cc Y) pc = .ok (.invokevirtual ix, 3)) (hG : isG M gs) (hg : gs[i0]? = some g) (hk : g.1 ≤ 5) (ct : mg_Ct (gvY g.1) (rmG g.2.2.2) [.ref (100 + i0), .ref 12] M post) (hs0 : st0 = .ref 12 :: .ref (100 + i0) :: rest) (hf : g.2.2.2 + 3 ≤ (mg_R X).frames ∧ 67 + 24 * g.2.2.2 ≤ (mg_R X).locals) (hcs : kc ≤ (mg_R X).cells ∧ j ≤ (mg_R X).slots) (hrs : (rest.map fun v => v.category).sum ≤ 8)
    (kk : ∀ (v : Option Value) (M' : mg_M), post v M' → mg_G X Y Q M' kc j (pc + 3) lv (v.toList ++ rest)) : mg_G X Y Q M kc j pc lv st0 := by
  obtain ⟨k, a, b, dp⟩ := g
  have hO := hG i0 _ hg
  obtain ⟨V0, V1, V2, V3, V4, V5⟩ := V
  have hf2 : 67 + 24 * dp ≤ (mg_R X).locals := hf.2
  have hf1 : dp + 3 ≤ (mg_R X).frames := hf.1
  have hr : ∀ n, n ≤ 4 → (rmG dp).frames + 1 ≤ (mg_R X).frames ∧ 8 + (n + 11) + (rmG dp).locals ≤ (mg_R X).locals := fun n hn => ⟨by show 2 + dp + 1 ≤ _; omega, by show 8 + (n + 11) + (44 + 24 * dp) ≤ _; omega⟩
  match k, hk, hO, ct with
  | 0, _, hO, ct => exact mg_callU V0 hd hO rfl rfl ct hs0 rfl (hr 3 (by decide)) hcs hrs kk
  | 1, _, hO, ct => exact mg_callU V1 hd hO rfl rfl ct hs0 rfl (hr 3 (by decide)) hcs hrs kk
  | 2, _, hO, ct => exact mg_callU V2 hd hO rfl rfl ct hs0 rfl (hr 2 (by decide)) hcs hrs kk
  | 3, _, hO, ct => exact mg_callU V3 hd hO rfl rfl ct hs0 rfl (hr 3 (by decide)) hcs hrs kk
  | 4, _, hO, ct => exact mg_callU V4 hd hO rfl rfl ct hs0 rfl (hr 4 (by decide)) hcs hrs kk
  | 5, _, hO, ct => exact mg_callU V5 hd hO rfl rfl ct hs0 rfl (hr 3 (by decide)) hcs hrs kk
  | k + 6, hk, _, _ => exact absurd hk (by show ¬ k + 6 ≤ 5; omega)

theorem gv_AT : mg_GV Y_AT_give 32 := ⟨ul_AT_32_IR rfl, ul_AT_32_LO rfl, ul_AT_32_PO rfl, ul_AT_32_OO rfl, ul_AT_32_KO rfl, ul_AT_32_AT rfl⟩
theorem gv_KO : mg_GV Y_KO_give 41 := ⟨ul_KO_41_IR rfl, ul_KO_41_LO rfl, ul_KO_41_PO rfl, ul_KO_41_OO rfl, ul_KO_41_KO rfl, ul_KO_41_AT rfl⟩
theorem gv_LO : mg_GV Y_LO_give 26 := ⟨ul_LO_26_IR rfl, ul_LO_26_LO rfl, ul_LO_26_PO rfl, ul_LO_26_OO rfl, ul_LO_26_KO rfl, ul_LO_26_AT rfl⟩
theorem gv_OO : mg_GV Y_OO_give 35 := ⟨ul_OO_35_IR rfl, ul_OO_35_LO rfl, ul_OO_35_PO rfl, ul_OO_35_OO rfl, ul_OO_35_KO rfl, ul_OO_35_AT rfl⟩
theorem gv_PO : mg_GV Y_PO_give 26 := ⟨ul_PO_26_IR rfl, ul_PO_26_LO rfl, ul_PO_26_PO rfl, ul_PO_26_OO rfl, ul_PO_26_KO rfl, ul_PO_26_AT rfl⟩
set_option maxHeartbeats 4000000 in
set_option maxRecDepth 100000 in
theorem c_IR_give {gs : List gN} {md : dM} {i : Nat} {a b : Int32} {dp : Nat} (hg : gs[i]? = some (0, a, b, dp)) (hdp : 1 ≤ dp)  : gvC gs md i (0, a, b, dp) := by
  intro d M σ hd hG hD
  replace hd : dp ≤ d := hd
  obtain ⟨d, rfl⟩ : ∃ e, d = e + 1 := ⟨d - 1, by omega⟩
  obtain ⟨cs, ns, il, x, lm⟩ := σ
  obtain ⟨how, gv, z⟩ := md
  have hO := hG i _ hg
  simp only [genE] at hO
  have hgF : giveF gs (how, gv, z) (d + 1) i (cs, ns, il, x, lm) = numF (drawF (how, gv, z) (cs, ns, il, x, lm) (b - a) (spanF z (b - a))).2 (a + (drawF (how, gv, z) (cs, ns, il, x, lm) (b - a) (spanF z (b - a))).1) := by simp only [giveF, hg]
  show mg_Ct Y_IR_give (rmG dp) _ M _
  refine mg_met [some (.ref (100 + i)), some (.ref 12), none] (by decide +kernel) rfl (Nat.le_of_ble_eq_true rfl) ?_
  intro X hR _
  replace hR : mg_R X = rmG dp := hR
  first | refine mg_aload_n d_IR_give_0 rfl rfl ?_ | refine mg_aload_nN d_IR_give_0 rfl rfl ?_
  refine mg_getfield fl_IR_13 d_IR_give_1 (by first | exact hO | exact hD.1) rfl ?_
  first | refine mg_aload_n d_IR_give_4 rfl rfl ?_ | refine mg_aload_nN d_IR_give_4 rfl rfl ?_
  refine mg_getfield fl_IR_7 d_IR_give_5 (by first | exact hO | exact hD.1) rfl ?_
  refine mg_isub d_IR_give_8 ?_
  refine mg_istore_n d_IR_give_9 rfl (Nat.le_of_ble_eq_true rfl) rfl ?_
  first | refine mg_aload_n d_IR_give_10 rfl rfl ?_ | refine mg_aload_nN d_IR_give_10 rfl rfl ?_
  first | refine mg_aload_n d_IR_give_11 rfl rfl ?_ | refine mg_aload_nN d_IR_give_11 rfl rfl ?_
  refine mg_getfield fl_IR_7 d_IR_give_12 (by first | exact hO | exact hD.1) rfl ?_
  first | refine mg_aload_n d_IR_give_15 rfl rfl ?_ | refine mg_aload_nN d_IR_give_15 rfl rfl ?_
  refine mg_iload_n d_IR_give_16 rfl rfl ?_
  first | refine mg_aload_n d_IR_give_17 rfl rfl ?_ | refine mg_aload_nN d_IR_give_17 rfl rfl ?_
  refine mg_iload_n d_IR_give_18 rfl rfl ?_
  refine mg_callV (vl_IR_16 rfl) d_IR_give_19 hD.1 rfl rfl (c_Dr_sizedSpan hD) rfl rfl (by rw [hR]; constructor <;> simp only [rmG, mg_nl] <;> omega) (by rw [hR]; exact ⟨Nat.le_of_ble_eq_true rfl, Nat.le_of_ble_eq_true rfl⟩) (Nat.le_of_ble_eq_true rfl) ?_
  rintro v M2 ⟨rfl, rfl⟩
  refine mg_callV (vl_IR_22 rfl) d_IR_give_22 hD.1 rfl rfl (c_Dr_draw hD) rfl rfl (by rw [hR]; constructor <;> simp only [rmG, mg_nl] <;> omega) (by rw [hR]; exact ⟨Nat.le_of_ble_eq_true rfl, Nat.le_of_ble_eq_true rfl⟩) (Nat.le_of_ble_eq_true rfl) ?_
  rintro v M3 ⟨rfl, hD3, hs3⟩
  generalize drawF (how, gv, z) (cs, ns, il, x, lm) (b - a) (spanF z (b - a)) = r at hD3 hgF ⊢
  obtain ⟨rv, cs3, ns3, il3, x3, lm3⟩ := r
  refine mg_iadd d_IR_give_25 ?_
  refine mg_callV (vl_IR_26 rfl) d_IR_give_26 hD3.1 rfl rfl (c_Dr_giveNumber hD3) rfl rfl (by rw [hR]; constructor <;> simp only [rmG, mg_nl] <;> omega) (by rw [hR]; exact ⟨Nat.le_of_ble_eq_true rfl, Nat.le_of_ble_eq_true rfl⟩) (Nat.le_of_ble_eq_true rfl) ?_
  rintro v M4 ⟨rfl, hD4, hs4⟩
  exact mg_return d_IR_give_29 rfl (Nat.le_of_ble_eq_true rfl) (Nat.le_of_ble_eq_true rfl) ⟨rfl, by rw [hgF]; exact hD4, hs3.tr hs4⟩

set_option maxHeartbeats 4000000 in
set_option maxRecDepth 100000 in
theorem c_PO_give {gs : List gN} {md : dM} {i : Nat} {a b : Int32} {dp : Nat} (hg : gs[i]? = some (2, a, b, dp)) (hdp : 1 ≤ dp) {ja : Nat} {ga : gN} (ea : a = nI ja) (la : ja < 20) (hga : gs[ja]? = some ga) (hka : ga.1 ≤ 5) (hda : ga.2.2.2 < dp) (ca : gvC gs md ja ga) {jb : Nat} {gb : gN} (eb : b = nI jb) (lb : jb < 20) (hgb : gs[jb]? = some gb) (hkb : gb.1 ≤ 5) (hdb : gb.2.2.2 < dp) (cb : gvC gs md jb gb) : gvC gs md i (2, a, b, dp) := by
  intro d M σ hd hG hD
  replace hd : dp ≤ d := hd
  obtain ⟨d, rfl⟩ : ∃ e, d = e + 1 := ⟨d - 1, by omega⟩
  obtain ⟨cs, ns, il, x, lm⟩ := σ
  obtain ⟨how, gv, z⟩ := md
  have hO := hG i _ hg
  simp only [genE] at hO
  subst ea
  rw [nI_clamp (by omega : ja < 2 ^ 31)] at hO
  replace hG : isG M gs := hG
  subst eb
  rw [nI_clamp (by omega : jb < 2 ^ 31)] at hO
  have hgF : giveF gs (how, gv, z) (d + 1) i (cs, ns, il, x, lm) = if (giveF gs (how, gv, z) d ja (cs, ns, il, x, lm)).2.2.1 = true then giveF gs (how, gv, z) d ja (cs, ns, il, x, lm) else giveF gs (how, gv, z) d jb (giveF gs (how, gv, z) d ja (cs, ns, il, x, lm)) := by simp only [giveF, hg, nI_clamp (by omega : ja < 2 ^ 31), nI_clamp (by omega : jb < 2 ^ 31)]
  show mg_Ct Y_PO_give (rmG dp) _ M _
  refine mg_met [some (.ref (100 + i)), some (.ref 12)] (by decide +kernel) rfl (Nat.le_of_ble_eq_true rfl) ?_
  intro X hR _
  replace hR : mg_R X = rmG dp := hR
  first | refine mg_aload_n d_PO_give_0 rfl rfl ?_ | refine mg_aload_nN d_PO_give_0 rfl rfl ?_
  refine mg_getfield fl_PO_17 d_PO_give_1 (by first | exact hO | exact hD.1) rfl ?_
  first | refine mg_aload_n d_PO_give_4 rfl rfl ?_ | refine mg_aload_nN d_PO_give_4 rfl rfl ?_
  refine mg_callG gv_PO d_PO_give_5 hG hga hka (ca d _ _ (by omega) hG hD) rfl (by rw [hR]; constructor <;> simp only [rmG, mg_nl] <;> omega) (by rw [hR]; exact ⟨Nat.le_of_ble_eq_true rfl, Nat.le_of_ble_eq_true rfl⟩) (Nat.le_of_ble_eq_true rfl) ?_
  rintro v M2 ⟨rfl, hD2, hs2⟩
  have hG2 := hG.fr hs2 (by omega)
  have hO2 := (hs2 (100 + i) (by omega)).trans hO
  generalize giveF gs (how, gv, z) d ja (cs, ns, il, x, lm) = σ2 at hD2 hgF
  obtain ⟨cs2, ns2, il2, x2, lm2⟩ := σ2
  first | refine mg_aload_n d_PO_give_8 rfl rfl ?_ | refine mg_aload_nN d_PO_give_8 rfl rfl ?_
  refine mg_getfield fl_PO_30 d_PO_give_9 hD2.1 rfl ?_
  refine mg_if_ne (tgt := 23) d_PO_give_12 (by decide) (fun c_12 => ?_) (fun c_12 => ?_)
  · obtain rfl := bI_t c_12
    exact mg_return d_PO_give_23 rfl (Nat.le_of_ble_eq_true rfl) (Nat.le_of_ble_eq_true rfl) ⟨rfl, by rw [hgF, if_pos rfl]; exact hD2, hs2⟩
  · obtain rfl := bI_f c_12
    first | refine mg_aload_n d_PO_give_15 rfl rfl ?_ | refine mg_aload_nN d_PO_give_15 rfl rfl ?_
    refine mg_getfield fl_PO_23 d_PO_give_16 hO2 rfl ?_
    first | refine mg_aload_n d_PO_give_19 rfl rfl ?_ | refine mg_aload_nN d_PO_give_19 rfl rfl ?_
    refine mg_callG gv_PO d_PO_give_20 hG2 hgb hkb (cb d _ _ (by omega) hG2 hD2) rfl (by rw [hR]; constructor <;> simp only [rmG, mg_nl] <;> omega) (by rw [hR]; exact ⟨Nat.le_of_ble_eq_true rfl, Nat.le_of_ble_eq_true rfl⟩) (Nat.le_of_ble_eq_true rfl) ?_
    rintro v M3 ⟨rfl, hD3, hs3⟩
    exact mg_return d_PO_give_23 rfl (Nat.le_of_ble_eq_true rfl) (Nat.le_of_ble_eq_true rfl) ⟨rfl, by rw [hgF, if_neg (show ¬ (false = true) by decide)]; exact hD3, hs2.tr hs3⟩

set_option maxHeartbeats 4000000 in
set_option maxRecDepth 100000 in
theorem c_OO_give {gs : List gN} {md : dM} {i : Nat} {a b : Int32} {dp : Nat} (hg : gs[i]? = some (3, a, b, dp)) (hdp : 1 ≤ dp) {ja : Nat} {ga : gN} (ea : a = nI ja) (la : ja < 20) (hga : gs[ja]? = some ga) (hka : ga.1 ≤ 5) (hda : ga.2.2.2 < dp) (ca : gvC gs md ja ga) {jb : Nat} {gb : gN} (eb : b = nI jb) (lb : jb < 20) (hgb : gs[jb]? = some gb) (hkb : gb.1 ≤ 5) (hdb : gb.2.2.2 < dp) (cb : gvC gs md jb gb) : gvC gs md i (3, a, b, dp) := by
  intro d M σ hd hG hD
  replace hd : dp ≤ d := hd
  obtain ⟨d, rfl⟩ : ∃ e, d = e + 1 := ⟨d - 1, by omega⟩
  obtain ⟨cs, ns, il, x, lm⟩ := σ
  obtain ⟨how, gv, z⟩ := md
  have hO := hG i _ hg
  simp only [genE] at hO
  subst ea
  rw [nI_clamp (by omega : ja < 2 ^ 31)] at hO
  replace hG : isG M gs := hG
  subst eb
  rw [nI_clamp (by omega : jb < 2 ^ 31)] at hO
  have hgF : giveF gs (how, gv, z) (d + 1) i (cs, ns, il, x, lm) = if (drawF (how, gv, z) (cs, ns, il, x, lm) 1 2).2.2.2.1 = true then (drawF (how, gv, z) (cs, ns, il, x, lm) 1 2).2 else if (drawF (how, gv, z) (cs, ns, il, x, lm) 1 2).1 = 0 then giveF gs (how, gv, z) d ja (drawF (how, gv, z) (cs, ns, il, x, lm) 1 2).2 else giveF gs (how, gv, z) d jb (drawF (how, gv, z) (cs, ns, il, x, lm) 1 2).2 := by simp only [giveF, hg, nI_clamp (by omega : ja < 2 ^ 31), nI_clamp (by omega : jb < 2 ^ 31)]
  show mg_Ct Y_OO_give (rmG dp) _ M _
  refine mg_met [some (.ref (100 + i)), some (.ref 12), none] (by decide +kernel) rfl (Nat.le_of_ble_eq_true rfl) ?_
  intro X hR _
  replace hR : mg_R X = rmG dp := hR
  first | refine mg_aload_n d_OO_give_0 rfl rfl ?_ | refine mg_aload_nN d_OO_give_0 rfl rfl ?_
  refine mg_iconst (v := 1) d_OO_give_1 (by decide) ?_
  refine mg_iconst (v := 2) d_OO_give_2 (by decide) ?_
  refine mg_callV (vl_OO_26 rfl) d_OO_give_3 hD.1 rfl rfl (c_Dr_draw hD) rfl rfl (by rw [hR]; constructor <;> simp only [rmG, mg_nl] <;> omega) (by rw [hR]; exact ⟨Nat.le_of_ble_eq_true rfl, Nat.le_of_ble_eq_true rfl⟩) (Nat.le_of_ble_eq_true rfl) ?_
  rintro v M2 ⟨rfl, hD2, hs2⟩
  have hG2 := hG.fr hs2 (by omega)
  have hO2 := (hs2 (100 + i) (by omega)).trans hO
  generalize drawF (how, gv, z) (cs, ns, il, x, lm) 1 2 = r at hD2 hgF ⊢
  obtain ⟨rv, cs2, ns2, il2, x2, lm2⟩ := r
  refine mg_istore_n d_OO_give_6 rfl (Nat.le_of_ble_eq_true rfl) rfl ?_
  first | refine mg_aload_n d_OO_give_7 rfl rfl ?_ | refine mg_aload_nN d_OO_give_7 rfl rfl ?_
  refine mg_getfield fl_OO_31 d_OO_give_8 hD2.1 rfl ?_
  refine mg_if_eq (tgt := 15) d_OO_give_11 (by decide) (fun c_11 => ?_) (fun c_11 => ?_)
  · obtain rfl := bI_f c_11
    refine mg_iload_n d_OO_give_15 rfl rfl ?_
    refine mg_if_ne (tgt := 30) d_OO_give_16 (by decide) (fun c_16 => ?_) (fun c_16 => ?_)
    · first | refine mg_aload_n d_OO_give_30 rfl rfl ?_ | refine mg_aload_nN d_OO_give_30 rfl rfl ?_
      refine mg_getfield fl_OO_23 d_OO_give_31 hO2 rfl ?_
      first | refine mg_aload_n d_OO_give_34 rfl rfl ?_ | refine mg_aload_nN d_OO_give_34 rfl rfl ?_
      refine mg_callG gv_OO d_OO_give_35 hG2 hgb hkb (cb d _ _ (by omega) hG2 hD2) rfl (by rw [hR]; constructor <;> simp only [rmG, mg_nl] <;> omega) (by rw [hR]; exact ⟨Nat.le_of_ble_eq_true rfl, Nat.le_of_ble_eq_true rfl⟩) (Nat.le_of_ble_eq_true rfl) ?_
      rintro v M3 ⟨rfl, hD3, hs3⟩
      exact mg_return d_OO_give_38 rfl (Nat.le_of_ble_eq_true rfl) (Nat.le_of_ble_eq_true rfl) ⟨rfl, by rw [hgF, if_neg (show ¬ (false = true) by decide), if_neg c_16]; exact hD3, hs2.tr hs3⟩
    · first | refine mg_aload_n d_OO_give_19 rfl rfl ?_ | refine mg_aload_nN d_OO_give_19 rfl rfl ?_
      refine mg_getfield fl_OO_17 d_OO_give_20 hO2 rfl ?_
      first | refine mg_aload_n d_OO_give_23 rfl rfl ?_ | refine mg_aload_nN d_OO_give_23 rfl rfl ?_
      refine mg_callG gv_OO d_OO_give_24 hG2 hga hka (ca d _ _ (by omega) hG2 hD2) rfl (by rw [hR]; constructor <;> simp only [rmG, mg_nl] <;> omega) (by rw [hR]; exact ⟨Nat.le_of_ble_eq_true rfl, Nat.le_of_ble_eq_true rfl⟩) (Nat.le_of_ble_eq_true rfl) ?_
      rintro v M3 ⟨rfl, hD3, hs3⟩
      refine mg_goto (tgt := 38) d_OO_give_27 (by decide) ?_
      exact mg_return d_OO_give_38 rfl (Nat.le_of_ble_eq_true rfl) (Nat.le_of_ble_eq_true rfl) ⟨rfl, by rw [hgF, if_neg (show ¬ (false = true) by decide), if_pos c_16]; exact hD3, hs2.tr hs3⟩
  · obtain rfl := bI_t c_11
    exact mg_return d_OO_give_14 rfl (Nat.le_of_ble_eq_true rfl) (Nat.le_of_ble_eq_true rfl) ⟨rfl, by rw [hgF, if_pos rfl]; exact hD2, hs2⟩

set_option maxHeartbeats 4000000 in
set_option maxRecDepth 100000 in
theorem c_AT_give {gs : List gN} {md : dM} {i : Nat} {a b : Int32} {dp : Nat} (hg : gs[i]? = some (5, a, b, dp)) (hdp : 1 ≤ dp) {ja : Nat} {ga : gN} (ea : a = nI ja) (la : ja < 20) (hga : gs[ja]? = some ga) (hka : ga.1 ≤ 5) (hda : ga.2.2.2 < dp) (ca : gvC gs md ja ga) : gvC gs md i (5, a, b, dp) := by
  intro d M σ hd hG hD
  replace hd : dp ≤ d := hd
  obtain ⟨d, rfl⟩ : ∃ e, d = e + 1 := ⟨d - 1, by omega⟩
  obtain ⟨cs, ns, il, x, lm⟩ := σ
  obtain ⟨how, gv, z⟩ := md
  have hO := hG i _ hg
  simp only [genE] at hO
  subst ea
  rw [nI_clamp (by omega : ja < 2 ^ 31)] at hO
  replace hG : isG M gs := hG
  have hgF : giveF gs (how, gv, z) (d + 1) i (cs, ns, il, x, lm) = raiseF (giveF gs (how, gv, z) d ja (cs, ns, il, x, lm)) ns.length b := by simp only [giveF, hg, nI_clamp (by omega : ja < 2 ^ 31)]
  show mg_Ct Y_AT_give (rmG dp) _ M _
  refine mg_met [some (.ref (100 + i)), some (.ref 12), none] (by decide +kernel) rfl (Nat.le_of_ble_eq_true rfl) ?_
  intro X hR _
  replace hR : mg_R X = rmG dp := hR
  first | refine mg_aload_n d_AT_give_0 rfl rfl ?_ | refine mg_aload_nN d_AT_give_0 rfl rfl ?_
  refine mg_getfield fl_AT_20 d_AT_give_1 (by first | exact hO | exact hD.1) rfl ?_
  refine mg_callV (vl_AT_26 rfl) d_AT_give_4 (by obtain ⟨_, e1, -⟩ := hD.2.2.1; exact e1) rfl rfl (c_In_length (xs := ns) hD.2.2.1) rfl rfl (by rw [hR]; constructor <;> simp only [rmG, mg_nl] <;> omega) (by rw [hR]; exact ⟨Nat.le_of_ble_eq_true rfl, Nat.le_of_ble_eq_true rfl⟩) (Nat.le_of_ble_eq_true rfl) ?_
  rintro v M1 ⟨rfl, rfl⟩
  refine mg_istore_n d_AT_give_7 rfl (Nat.le_of_ble_eq_true rfl) rfl ?_
  first | refine mg_aload_n d_AT_give_8 rfl rfl ?_ | refine mg_aload_nN d_AT_give_8 rfl rfl ?_
  refine mg_getfield fl_AT_11 d_AT_give_9 (by first | exact hO | exact hD.1) rfl ?_
  first | refine mg_aload_n d_AT_give_12 rfl rfl ?_ | refine mg_aload_nN d_AT_give_12 rfl rfl ?_
  refine mg_callG gv_AT d_AT_give_13 hG hga hka (ca d _ _ (by omega) hG hD) rfl (by rw [hR]; constructor <;> simp only [rmG, mg_nl] <;> omega) (by rw [hR]; exact ⟨Nat.le_of_ble_eq_true rfl, Nat.le_of_ble_eq_true rfl⟩) (Nat.le_of_ble_eq_true rfl) ?_
  rintro v M2 ⟨rfl, hD2, hs2⟩
  have hnl : ns.length ≤ 60 := hD.2.2.1.le
  have hO2 := (hs2 (100 + i) (by omega)).trans hO
  generalize giveF gs (how, gv, z) d ja (cs, ns, il, x, lm) = σ2 at hD2 hgF
  obtain ⟨cs2, ns2, il2, x2, lm2⟩ := σ2
  first | refine mg_aload_n d_AT_give_16 rfl rfl ?_ | refine mg_aload_nN d_AT_give_16 rfl rfl ?_
  refine mg_getfield fl_AT_20 d_AT_give_17 hD2.1 rfl ?_
  refine mg_iload_n d_AT_give_20 rfl rfl ?_
  first | refine mg_aload_n d_AT_give_21 rfl rfl ?_ | refine mg_aload_nN d_AT_give_21 rfl rfl ?_
  refine mg_getfield fl_AT_17 d_AT_give_22 hO2 rfl ?_
  refine mg_callV (vl_AT_36 rfl) d_AT_give_25 (by obtain ⟨_, e1, -⟩ := hD2.2.2.1; exact e1) rfl rfl (c_In_raiseFrom (xs := ns2) (a := ns.length) hD2.2.2.1 (by omega)) rfl rfl (by rw [hR]; constructor <;> simp only [rmG, mg_nl] <;> omega) (by rw [hR]; exact ⟨Nat.le_of_ble_eq_true rfl, Nat.le_of_ble_eq_true rfl⟩) (Nat.le_of_ble_eq_true rfl) ?_
  rintro v M3 ⟨rfl, hI3, hs3⟩
  exact mg_return d_AT_give_28 rfl (Nat.le_of_ble_eq_true rfl) (Nat.le_of_ble_eq_true rfl) ⟨rfl, by rw [hgF]; exact hD2.ns hI3 hs3, hs2.tr (hs3.wd (by omega) (by omega))⟩
end
section
/-! GENERATORS: list and keep; and every generator's contract -/
theorem cmp_eq {x y : Int64} : lg_cmp x y = 0 ↔ x = y := by
  unfold lg_cmp
  by_cases h : y < x
  · rw [if_pos h]
    exact ⟨fun e => absurd e (by decide), fun e => by subst e; exact (Int64.lt_irrefl h).elim⟩
  · rw [if_neg h]
    by_cases h2 : x = y
    · rw [if_pos h2]; exact ⟨fun _ => h2, fun _ => rfl⟩
    · rw [if_neg h2]; exact ⟨fun e => absurd e (by decide), fun e => absurd e h2⟩

set_option maxHeartbeats 4000000 in
set_option maxRecDepth 100000 in
theorem lp_LO {X : mg_X} {M0 : mg_M} {r : dS} {mm : Nat} {gs : List gN} {how z : Int32} {gv : List Int32} {i : Nat} {b : Int32} {dp d ja : Nat} {ga : gN} (hdp : 1 ≤ dp) (hR : mg_R X = rmG dp) (hmm : mm ≤ 9) (hOf : ∀ M, isG M gs → M (100 + i) = some (.inr (4, [.int (nI dp), .ref (100 + ja), .int (nI mm)]))) (hga : gs[ja]? = some ga) (hka : ga.1 ≤ 5) (hda : ga.2.2.2 < dp) (hdd : dp ≤ d + 1) (ca : gvC gs (how, gv, z) ja ga) : ∀ (n m : Nat) (M : mg_M) (σ : dS), m + n = mm → isG M gs → isD M 12 (how, gv, z) σ → sm 12 20 M0 M → listF (giveF gs (how, gv, z) d ja) (how, gv, z) n σ = r → mg_G X Y_LO_give (mg_Q X (fun v M' => v = none ∧ isD M' 12 (how, gv, z) r ∧ sm 12 20 M0 M') (rmG dp)) M 0 0 2 [some (.ref (100 + i)), some (.ref 12), some (.int (nI m))] [] := by
  intro n
  induction n with
  | zero =>
    intro m M σ hm hG hD hs hr
    rw [listF] at hr
    subst hr
    refine mg_iload_n d_LO_give_2 rfl rfl ?_
    refine mg_aload_n d_LO_give_3 rfl rfl ?_
    refine mg_getfield fl_LO_17 d_LO_give_4 (hOf M hG) rfl ?_
    refine mg_icmp_ge (tgt := 34) d_LO_give_7 (by decide) (fun c_7 => ?_) (fun c_7 => absurd (nI_le (by omega) (by omega)) c_7)
    exact mg_return d_LO_give_34 rfl (Nat.le_of_ble_eq_true rfl) (Nat.le_of_ble_eq_true rfl) ⟨rfl, hD, hs⟩
  | succ n ih =>
    intro m M σ hm hG hD hs hr
    obtain ⟨cs, ns, il, x, lm⟩ := σ
    refine mg_iload_n d_LO_give_2 rfl rfl ?_
    first | refine mg_aload_n d_LO_give_3 rfl rfl ?_ | refine mg_aload_nN d_LO_give_3 rfl rfl ?_
    refine mg_getfield fl_LO_17 d_LO_give_4 (by first | exact hOf _ hG | exact hD.1) rfl ?_
    refine mg_icmp_ge (tgt := 34) d_LO_give_7 (by decide) (fun c_7 => ?_) (fun c_7 => ?_)
    · exact absurd c_7 (nI_ge (by omega) (by omega))
    · first | refine mg_aload_n d_LO_give_10 rfl rfl ?_ | refine mg_aload_nN d_LO_give_10 rfl rfl ?_
      refine mg_iconst (v := 1) d_LO_give_11 (by decide) ?_
      refine mg_iconst (v := 2) d_LO_give_12 (by decide) ?_
      refine mg_callV (vl_LO_20 rfl) d_LO_give_13 hD.1 rfl rfl (c_Dr_draw hD) rfl rfl (by rw [hR]; constructor <;> simp only [rmG, mg_nl] <;> omega) (by rw [hR]; exact ⟨Nat.le_of_ble_eq_true rfl, Nat.le_of_ble_eq_true rfl⟩) (Nat.le_of_ble_eq_true rfl) ?_
      rintro v M2 ⟨rfl, hD2, hs2⟩
      have hG2 := hG.fr hs2 (by omega)
      rw [listF] at hr
      generalize drawF (how, gv, z) (cs, ns, il, x, lm) 1 2 = q at hD2 hr ⊢
      obtain ⟨rv, cs2, ns2, il2, x2, lm2⟩ := q
      refine mg_iconst (v := 1) d_LO_give_16 (by decide) ?_
      refine mg_icmp_ne (tgt := 34) d_LO_give_17 (by decide) (fun c_17 => ?_) (fun c_17 => ?_)
      · rw [if_neg c_17] at hr
        subst hr
        exact mg_return d_LO_give_34 rfl (Nat.le_of_ble_eq_true rfl) (Nat.le_of_ble_eq_true rfl) ⟨rfl, hD2, hs.tr hs2⟩
      · rw [if_pos c_17] at hr
        first | refine mg_aload_n d_LO_give_20 rfl rfl ?_ | refine mg_aload_nN d_LO_give_20 rfl rfl ?_
        refine mg_getfield fl_LO_11 d_LO_give_21 ((hs2 (100 + i) (by omega)).trans (hOf M hG)) rfl ?_
        first | refine mg_aload_n d_LO_give_24 rfl rfl ?_ | refine mg_aload_nN d_LO_give_24 rfl rfl ?_
        refine mg_callG gv_LO d_LO_give_25 hG2 hga hka (ca d _ _ (by omega) hG2 hD2) rfl (by rw [hR]; constructor <;> simp only [rmG, mg_nl] <;> omega) (by rw [hR]; exact ⟨Nat.le_of_ble_eq_true rfl, Nat.le_of_ble_eq_true rfl⟩) (Nat.le_of_ble_eq_true rfl) ?_
        rintro v M3 ⟨rfl, hD3, hs3⟩
        refine mg_iinc (v := nI (m + 1)) d_LO_give_28 rfl (nI_1 _) (Nat.le_of_ble_eq_true rfl) rfl ?_
        refine mg_goto (tgt := 2) d_LO_give_31 (by decide) ?_
        exact ih (m + 1) _ _ (by omega) (hG2.fr hs3 (by omega)) hD3 ((hs.tr hs2).tr hs3) hr

set_option maxHeartbeats 4000000 in
set_option maxRecDepth 100000 in
theorem c_LO_give {gs : List gN} {md : dM} {i : Nat} {a b : Int32} {dp : Nat} (hg : gs[i]? = some (1, a, b, dp)) (hdp : 1 ≤ dp) {ja : Nat} {ga : gN} (ea : a = nI ja) (la : ja < 20) (hga : gs[ja]? = some ga) (hka : ga.1 ≤ 5) (hda : ga.2.2.2 < dp) (ca : gvC gs md ja ga) {mm : Nat} (eb : b = nI mm) (hmm : mm ≤ 9) : gvC gs md i (1, a, b, dp) := by
  intro d M σ hd hG hD
  replace hd : dp ≤ d := hd
  obtain ⟨d, rfl⟩ : ∃ e, d = e + 1 := ⟨d - 1, by omega⟩
  obtain ⟨how, gv, z⟩ := md
  subst ea; subst eb
  have hOf : ∀ M, isG M gs → M (100 + i) = some (.inr (4, [.int (nI dp), .ref (100 + ja), .int (nI mm)])) := fun M hG => by
    have hO := hG i _ hg
    simp only [genE] at hO
    rw [nI_clamp (by omega : ja < 2 ^ 31)] at hO
    exact hO
  have hgF : giveF gs (how, gv, z) (d + 1) i σ = listF (giveF gs (how, gv, z) d ja) (how, gv, z) mm σ := by simp only [giveF, hg, nI_clamp (by omega : ja < 2 ^ 31), nI_clamp (by omega : mm < 2 ^ 31)]
  show mg_Ct Y_LO_give (rmG dp) _ M _
  refine mg_met [some (.ref (100 + i)), some (.ref 12), none] (by decide +kernel) rfl (Nat.le_of_ble_eq_true rfl) ?_
  intro X hR _
  replace hR : mg_R X = rmG dp := hR
  refine mg_iconst (v := 0) d_LO_give_0 (by decide) ?_
  refine mg_istore_n d_LO_give_1 rfl (Nat.le_of_ble_eq_true rfl) rfl ?_
  exact lp_LO (b := 0) (M0 := M) hdp hR hmm hOf hga hka hda hd ca mm 0 M σ (by omega) hG hD sm.rf hgF.symm

set_option maxHeartbeats 4000000 in
set_option maxRecDepth 100000 in
theorem lp_KO {X : mg_X} {M0 : mg_M} {r : dS} {st : Nat} {gs : List gN} {how z : Int32} {gv : List Int32} {i : Nat} {b : Int32} {dp d ja : Nat} {ga : gN} (hdp : 1 ≤ dp) (hR : mg_R X = rmG dp) (hst : st ≤ 60) (hOf : ∀ M, isG M gs → M (100 + i) = some (.inr (7, [.int (nI dp), .ref (100 + ja), .int b]))) (hga : gs[ja]? = some ga) (hka : ga.1 ≤ 5) (hda : ga.2.2.2 < dp) (hdd : dp ≤ d + 1) (ca : gvC gs (how, gv, z) ja ga) : ∀ (n t : Nat) (M : mg_M) (σ : dS), t + n = 3 → isG M gs → isD M 12 (how, gv, z) σ → sm 12 20 M0 M → keepF (giveF gs (how, gv, z) d ja) st b n σ = r → mg_G X Y_KO_give (mg_Q X (fun v M' => v = none ∧ isD M' 12 (how, gv, z) r ∧ sm 12 20 M0 M') (rmG dp)) M 0 0 10 [some (.ref (100 + i)), some (.ref 12), some (.int (nI st)), some (.int (nI t))] [] := by
  intro n
  induction n with
  | zero =>
    intro t M σ ht hG hD hs hr
    obtain ⟨cs, ns, il, x, lm⟩ := σ
    rw [keepF] at hr
    subst hr
    refine mg_iload_n d_KO_give_10 rfl rfl ?_
    refine mg_iconst (v := 3) d_KO_give_11 (by decide) ?_
    refine mg_icmp_ge (tgt := 64) d_KO_give_12 (by decide) (fun c_12 => ?_) (fun c_12 => absurd (nI_le (a := 3) (b := t) (by omega) (by omega)) c_12)
    refine mg_aload_n d_KO_give_64 rfl rfl ?_
    refine mg_iconst (v := 1) d_KO_give_65 (by decide) ?_
    refine mg_putfield (fw_KO_34 _) d_KO_give_66 hD.1 (Nat.le_of_ble_eq_true rfl) (fun _ => ⟨rfl, rfl⟩) ?_
    exact mg_return d_KO_give_69 rfl (Nat.le_of_ble_eq_true rfl) (Nat.le_of_ble_eq_true rfl) ⟨rfl, hD.obj (il' := true) (x' := x) (md' := (how, gv, z)) rfl, hs.up (by omega) (by omega)⟩
  | succ n ih =>
    intro t M σ ht hG hD hs hr
    obtain ⟨cs, ns, il, x, lm⟩ := σ
    refine mg_iload_n d_KO_give_10 rfl rfl ?_
    refine mg_iconst (v := 3) d_KO_give_11 (by decide) ?_
    refine mg_icmp_ge (tgt := 64) d_KO_give_12 (by decide) (fun c_12 => ?_) (fun c_12 => ?_)
    · exact absurd c_12 (nI_ge (a := t) (b := 3) (by omega) (by omega))
    · first | refine mg_aload_n d_KO_give_15 rfl rfl ?_ | refine mg_aload_nN d_KO_give_15 rfl rfl ?_
      refine mg_getfield fl_KO_34 d_KO_give_16 (by first | exact hOf _ hG | exact hD.1) rfl ?_
      refine mg_if_ne (tgt := 64) d_KO_give_19 (by decide) (fun c_19 => ?_) (fun c_19 => ?_)
      · obtain rfl := bI_t c_19
        rw [keepF, if_pos rfl] at hr
        subst hr
        refine mg_aload_n d_KO_give_64 rfl rfl ?_
        refine mg_iconst (v := 1) d_KO_give_65 (by decide) ?_
        refine mg_putfield (fw_KO_34 _) d_KO_give_66 hD.1 (Nat.le_of_ble_eq_true rfl) (fun _ => ⟨rfl, rfl⟩) ?_
        exact mg_return d_KO_give_69 rfl (Nat.le_of_ble_eq_true rfl) (Nat.le_of_ble_eq_true rfl) ⟨rfl, hD.obj (il' := true) (x' := x) (md' := (how, gv, z)) rfl, hs.up (by omega) (by omega)⟩
      · obtain rfl := bI_f c_19
        rw [keepF, if_neg (show ¬ ((cs, ns, false, x, lm) : dS).2.2.1 = true from fun h => by cases h)] at hr
        first | refine mg_aload_n d_KO_give_22 rfl rfl ?_ | refine mg_aload_nN d_KO_give_22 rfl rfl ?_
        refine mg_getfield fl_KO_22 d_KO_give_23 (by first | exact hOf _ hG | exact hD.1) rfl ?_
        refine mg_iload_n d_KO_give_26 rfl rfl ?_
        refine mg_callV (vl_KO_38 rfl) d_KO_give_27 (by obtain ⟨_, e1, -⟩ := hD.2.2.1; exact e1) rfl rfl (c_In_cutTo (xs := ns) hD.2.2.1) rfl rfl (by rw [hR]; constructor <;> simp only [rmG, mg_nl] <;> omega) (by rw [hR]; exact ⟨Nat.le_of_ble_eq_true rfl, Nat.le_of_ble_eq_true rfl⟩) (Nat.le_of_ble_eq_true rfl) ?_
        rintro v M2 ⟨rfl, hI2, hs2⟩
        rw [nI_clampN hst] at hI2
        replace hD := hD.ns hI2 hs2
        replace hs := hs.tr (hs2.wd (by omega) (by omega))
        replace hG := hG.fr hs2 (by omega)
        clear hI2 hs2
        first | refine mg_aload_n d_KO_give_30 rfl rfl ?_ | refine mg_aload_nN d_KO_give_30 rfl rfl ?_
        refine mg_getfield fl_KO_13 d_KO_give_31 (by first | exact hOf _ hG | exact hD.1) rfl ?_
        first | refine mg_aload_n d_KO_give_34 rfl rfl ?_ | refine mg_aload_nN d_KO_give_34 rfl rfl ?_
        refine mg_callG gv_KO d_KO_give_35 hG hga hka (ca d _ _ (by omega) hG hD) rfl (by rw [hR]; constructor <;> simp only [rmG, mg_nl] <;> omega) (by rw [hR]; exact ⟨Nat.le_of_ble_eq_true rfl, Nat.le_of_ble_eq_true rfl⟩) (Nat.le_of_ble_eq_true rfl) ?_
        rintro v M3 ⟨rfl, hD3, hs3⟩
        replace hs := hs.tr hs3
        replace hG := hG.fr hs3 (by omega)
        rw [show cutF (cs, ns, false, x, lm) st = (cs, ns.take st, false, x, lm) from rfl] at hr
        generalize giveF gs (how, gv, z) d ja (cs, ns.take st, false, x, lm) = σ3 at hD3 hr
        obtain ⟨cs3, ns3, il3, x3, lm3⟩ := σ3
        replace hD := hD3
        clear hD3 hs3
        first | refine mg_aload_n d_KO_give_38 rfl rfl ?_ | refine mg_aload_nN d_KO_give_38 rfl rfl ?_
        refine mg_getfield fl_KO_22 d_KO_give_39 (by first | exact hOf _ hG | exact hD.1) rfl ?_
        refine mg_iload_n d_KO_give_42 rfl rfl ?_
        refine mg_callV (vl_KO_45 rfl) d_KO_give_43 (by obtain ⟨_, e1, -⟩ := hD.2.2.1; exact e1) rfl rfl (c_In_totalFrom (xs := ns3) (a := st) hD.2.2.1 (by omega)) rfl rfl (by rw [hR]; constructor <;> simp only [rmG, mg_nl] <;> omega) (by rw [hR]; exact ⟨Nat.le_of_ble_eq_true rfl, Nat.le_of_ble_eq_true rfl⟩) (Nat.le_of_ble_eq_true rfl) ?_
        rintro v M4 ⟨rfl, rfl⟩
        refine mg_lconst (v := 1) d_KO_give_46 (by decide) ?_
        refine mg_land d_KO_give_47 ?_
        first | refine mg_aload_n d_KO_give_48 rfl rfl ?_ | refine mg_aload_nN d_KO_give_48 rfl rfl ?_
        refine mg_getfield fl_KO_19 d_KO_give_49 (by first | exact hOf _ hG | exact hD.1) rfl ?_
        refine mg_i2l d_KO_give_52 ?_
        refine mg_lcmp d_KO_give_53 ?_
        refine mg_if_ne (tgt := 58) d_KO_give_54 (by decide) (fun c_54 => ?_) (fun c_54 => ?_)
        · rw [if_neg (fun h => c_54 (cmp_eq.mpr h))] at hr
          refine mg_iinc (v := nI (t + 1)) d_KO_give_58 rfl (nI_1 _) (Nat.le_of_ble_eq_true rfl) rfl ?_
          refine mg_goto (tgt := 10) d_KO_give_61 (by decide) ?_
          exact ih (t + 1) _ _ (by omega) hG hD hs hr
        · rw [if_pos (cmp_eq.mp c_54)] at hr
          subst hr
          exact mg_return d_KO_give_57 rfl (Nat.le_of_ble_eq_true rfl) (Nat.le_of_ble_eq_true rfl) ⟨rfl, hD, hs⟩

set_option maxHeartbeats 4000000 in
set_option maxRecDepth 100000 in
theorem c_KO_give {gs : List gN} {md : dM} {i : Nat} {a b : Int32} {dp : Nat} (hg : gs[i]? = some (4, a, b, dp)) (hdp : 1 ≤ dp) {ja : Nat} {ga : gN} (ea : a = nI ja) (la : ja < 20) (hga : gs[ja]? = some ga) (hka : ga.1 ≤ 5) (hda : ga.2.2.2 < dp) (ca : gvC gs md ja ga) : gvC gs md i (4, a, b, dp) := by
  intro d M σ hd hG hD
  replace hd : dp ≤ d := hd
  obtain ⟨d, rfl⟩ : ∃ e, d = e + 1 := ⟨d - 1, by omega⟩
  obtain ⟨how, gv, z⟩ := md
  obtain ⟨cs, ns, il, x, lm⟩ := σ
  subst ea
  have hOf : ∀ M, isG M gs → M (100 + i) = some (.inr (7, [.int (nI dp), .ref (100 + ja), .int b])) := fun M hG => by
    have hO := hG i _ hg
    simp only [genE] at hO
    rw [nI_clamp (by omega : ja < 2 ^ 31)] at hO
    exact hO
  have hgF : giveF gs (how, gv, z) (d + 1) i (cs, ns, il, x, lm) = keepF (giveF gs (how, gv, z) d ja) ns.length b 3 (cs, ns, il, x, lm) := by simp only [giveF, hg, nI_clamp (by omega : ja < 2 ^ 31)]
  show mg_Ct Y_KO_give (rmG dp) _ M _
  refine mg_met [some (.ref (100 + i)), some (.ref 12), none, none] (by decide +kernel) rfl (Nat.le_of_ble_eq_true rfl) ?_
  intro X hR _
  replace hR : mg_R X = rmG dp := hR
  refine mg_aload_n d_KO_give_0 rfl rfl ?_
  refine mg_getfield fl_KO_22 d_KO_give_1 hD.1 rfl ?_
  refine mg_callV (vl_KO_28 rfl) d_KO_give_4 (by obtain ⟨_, e1, -⟩ := hD.2.2.1; exact e1) rfl rfl (c_In_length (xs := ns) hD.2.2.1) rfl rfl (by rw [hR]; constructor <;> simp only [rmG, mg_nl] <;> omega) (by rw [hR]; exact ⟨Nat.le_of_ble_eq_true rfl, Nat.le_of_ble_eq_true rfl⟩) (Nat.le_of_ble_eq_true rfl) ?_
  rintro v M1 ⟨rfl, rfl⟩
  refine mg_istore_n d_KO_give_7 rfl (Nat.le_of_ble_eq_true rfl) rfl ?_
  refine mg_iconst (v := 0) d_KO_give_8 (by decide) ?_
  refine mg_istore_n d_KO_give_9 rfl (Nat.le_of_ble_eq_true rfl) rfl ?_
  exact lp_KO (M0 := M1) hdp hR hD.2.2.1.le hOf hga hka hda hd ca 3 0 M1 _ (by omega) hG hD sm.rf hgF.symm

/-- every generator keeps its contract -/
theorem c_give {gs : List gN} (hw : wfG gs) (md : dM) : ∀ (D i : Nat) (g : gN), gs[i]? = some g → g.2.2.2 ≤ D → gvC gs md i g := by
  intro D
  induction D with
  | zero =>
    rintro i ⟨k, a, b, dp⟩ hg hD
    have := (hw.2 i k a b dp hg).2.1
    exact absurd hD (by show ¬ dp ≤ 0; omega)
  | succ D ih =>
    rintro i ⟨k, a, b, dp⟩ hg hD
    replace hD : dp ≤ D + 1 := hD
    obtain ⟨hk, hdp, hdp8, -, hpa, hpb, h1, h4⟩ := hw.2 i k a b dp hg
    have get : ∀ q : Int32, gP gs dp q → ∃ (j : Nat) (g : gN), q = nI j ∧ j < 20 ∧ gs[j]? = some g ∧ g.1 ≤ 5 ∧ g.2.2.2 < dp ∧ gvC gs md j g := by
      rintro q ⟨j, g, e, l, hj, hd⟩
      obtain ⟨k', a', b', dp'⟩ := g
      exact ⟨j, _, e, l, hj, (hw.2 j k' a' b' dp' hj).1, hd, ih j _ hj (by show dp' ≤ D; replace hd : dp' < dp := hd; omega)⟩
    match k, hk, hg, hpa, hpb, h1, h4 with
    | 0, _, hg, _, _, _, _ => exact c_IR_give hg hdp
    | 1, _, hg, hpa, _, h1, _ =>
      obtain ⟨ja, ga, e1, e2, e3, e4, e5, e6⟩ := get a (hpa (by decide))
      obtain ⟨m, hm, hb⟩ := h1 rfl
      exact c_LO_give hg hdp e1 e2 e3 e4 e5 e6 hb hm
    | 2, _, hg, hpa, hpb, _, _ =>
      obtain ⟨ja, ga, e1, e2, e3, e4, e5, e6⟩ := get a (hpa (by decide))
      obtain ⟨jb, gb, f1, f2, f3, f4, f5, f6⟩ := get b (hpb (Or.inl rfl))
      exact c_PO_give hg hdp e1 e2 e3 e4 e5 e6 f1 f2 f3 f4 f5 f6
    | 3, _, hg, hpa, hpb, _, _ =>
      obtain ⟨ja, ga, e1, e2, e3, e4, e5, e6⟩ := get a (hpa (by decide))
      obtain ⟨jb, gb, f1, f2, f3, f4, f5, f6⟩ := get b (hpb (Or.inr rfl))
      exact c_OO_give hg hdp e1 e2 e3 e4 e5 e6 f1 f2 f3 f4 f5 f6
    | 4, _, hg, hpa, _, _, _ =>
      obtain ⟨ja, ga, e1, e2, e3, e4, e5, e6⟩ := get a (hpa (by decide))
      exact c_KO_give hg hdp e1 e2 e3 e4 e5 e6
    | 5, _, hg, hpa, _, _, _ =>
      obtain ⟨ja, ga, e1, e2, e3, e4, e5, e6⟩ := get a (hpa (by decide))
      exact c_AT_give hg hdp e1 e2 e3 e4 e5 e6
    | k + 6, hk, _, _, _, _, _ => exact absurd hk (by omega)
end
section
/-! CONSTRUCTORS of generators, properties, kept rows; and what a property says -/
def mg_DL (own : String) (ix : Nat) : Prop := mg_FL own ix 3 0 ∧ mg_FL own ix 4 0 ∧ mg_FL own ix 5 0 ∧ mg_FL own ix 6 0 ∧ mg_FL own ix 7 0 ∧ mg_FL own ix 8 0
theorem mg_getDeep {X : mg_X} {Y : mg_Y} {Q : State → Prop} {M : mg_M} {k j pc ix a : Nat} {lv : List (Option Value)} {rest : List Value} {g : gN} (L : mg_DL (mg_own Y) ix) (hd : decode (mg_cc Y) pc = .ok (.getfield ix, 3)) (hM : M a = some (genE g)) (kk : mg_G X Y Q M k j (pc + 3) lv (.int (nI g.2.2.2) :: rest)) : mg_G X Y Q M k j pc lv (.ref a :: rest) := by
  obtain ⟨kd, ga, gb, dp⟩ := g
  match kd, hM with
  | 0, hM => exact mg_getfield L.1 hd hM rfl kk
  | 1, hM => exact mg_getfield L.2.1 hd hM rfl kk
  | 2, hM => exact mg_getfield L.2.2.1 hd hM rfl kk
  | 3, hM => exact mg_getfield L.2.2.2.1 hd hM rfl kk
  | 4, hM => exact mg_getfield L.2.2.2.2.1 hd hM rfl kk
  | n + 5, hM => exact mg_getfield L.2.2.2.2.2 hd hM rfl kk

theorem dl_LO : mg_DL "PropertyShrink$ListOf" 1 := ⟨fl_LO_1_IR, fl_LO_1_LO, fl_LO_1_PO, fl_LO_1_OO, fl_LO_1_KO, fl_LO_1_AT⟩
theorem dl_KO : mg_DL "PropertyShrink$KeepOf" 3 := ⟨fl_KO_3_IR, fl_KO_3_LO, fl_KO_3_PO, fl_KO_3_OO, fl_KO_3_KO, fl_KO_3_AT⟩
theorem dl_AT : mg_DL "PropertyShrink$AddTo" 1 := ⟨fl_AT_1_IR, fl_AT_1_LO, fl_AT_1_PO, fl_AT_1_OO, fl_AT_1_KO, fl_AT_1_AT⟩
theorem dl_PO : mg_DL "PropertyShrink$PairOf" 1 := ⟨fl_PO_1_IR, fl_PO_1_LO, fl_PO_1_PO, fl_PO_1_OO, fl_PO_1_KO, fl_PO_1_AT⟩
theorem dl_OO : mg_DL "PropertyShrink$OneOf" 1 := ⟨fl_OO_1_IR, fl_OO_1_LO, fl_OO_1_PO, fl_OO_1_OO, fl_OO_1_KO, fl_OO_1_AT⟩
theorem dl_PS : mg_DL "PropertyShrink" 52 := ⟨fl_PS_52_IR, fl_PS_52_LO, fl_PS_52_PO, fl_PS_52_OO, fl_PS_52_KO, fl_PS_52_AT⟩
set_option maxHeartbeats 4000000 in
set_option maxRecDepth 100000 in
theorem c_Ge_init_IR {M : mg_M} {h : Nat} {w a b : Value} {n : Int32} (h0 : M h = some (.inr (3, [w, a, b]))) : mg_Ct Y_Ge_init { frames := 1, cells := 0, slots := 0, locals := 12 } [.ref h, .int n] M (fun v M' => v = none ∧ M' = mg_up M h (.inr (3, [.int n, a, b]))) := by
  refine mg_met [some (.ref h), some (.int n)] (by decide +kernel) rfl (Nat.le_of_ble_eq_true rfl) ?_
  intro X hR _
  first | refine mg_aload_n d_Ge_init_0 rfl rfl ?_ | refine mg_aload_nN d_Ge_init_0 rfl rfl ?_
  refine mg_objInit ol_Ge_1 oi_inst oi_code d_Ge_init_1 (by rw [hR]; decide) (by rw [hR]; exact Nat.le_of_ble_eq_true rfl) ?_
  first | refine mg_aload_n d_Ge_init_4 rfl rfl ?_ | refine mg_aload_nN d_Ge_init_4 rfl rfl ?_
  refine mg_iload_n d_Ge_init_5 rfl rfl ?_
  refine mg_putfield fw_Ge_7_IR d_Ge_init_6 h0 (Nat.le_of_ble_eq_true rfl) (fun _ => ⟨rfl, rfl⟩) ?_
  exact mg_return d_Ge_init_9 rfl (Nat.le_of_ble_eq_true rfl) (Nat.le_of_ble_eq_true rfl) ⟨rfl, rfl⟩

set_option maxHeartbeats 4000000 in
set_option maxRecDepth 100000 in
theorem c_Ge_init_LO {M : mg_M} {h : Nat} {w a b : Value} {n : Int32} (h0 : M h = some (.inr (4, [w, a, b]))) : mg_Ct Y_Ge_init { frames := 1, cells := 0, slots := 0, locals := 12 } [.ref h, .int n] M (fun v M' => v = none ∧ M' = mg_up M h (.inr (4, [.int n, a, b]))) := by
  refine mg_met [some (.ref h), some (.int n)] (by decide +kernel) rfl (Nat.le_of_ble_eq_true rfl) ?_
  intro X hR _
  first | refine mg_aload_n d_Ge_init_0 rfl rfl ?_ | refine mg_aload_nN d_Ge_init_0 rfl rfl ?_
  refine mg_objInit ol_Ge_1 oi_inst oi_code d_Ge_init_1 (by rw [hR]; decide) (by rw [hR]; exact Nat.le_of_ble_eq_true rfl) ?_
  first | refine mg_aload_n d_Ge_init_4 rfl rfl ?_ | refine mg_aload_nN d_Ge_init_4 rfl rfl ?_
  refine mg_iload_n d_Ge_init_5 rfl rfl ?_
  refine mg_putfield fw_Ge_7_LO d_Ge_init_6 h0 (Nat.le_of_ble_eq_true rfl) (fun _ => ⟨rfl, rfl⟩) ?_
  exact mg_return d_Ge_init_9 rfl (Nat.le_of_ble_eq_true rfl) (Nat.le_of_ble_eq_true rfl) ⟨rfl, rfl⟩

set_option maxHeartbeats 4000000 in
set_option maxRecDepth 100000 in
theorem c_Ge_init_PO {M : mg_M} {h : Nat} {w a b : Value} {n : Int32} (h0 : M h = some (.inr (5, [w, a, b]))) : mg_Ct Y_Ge_init { frames := 1, cells := 0, slots := 0, locals := 12 } [.ref h, .int n] M (fun v M' => v = none ∧ M' = mg_up M h (.inr (5, [.int n, a, b]))) := by
  refine mg_met [some (.ref h), some (.int n)] (by decide +kernel) rfl (Nat.le_of_ble_eq_true rfl) ?_
  intro X hR _
  first | refine mg_aload_n d_Ge_init_0 rfl rfl ?_ | refine mg_aload_nN d_Ge_init_0 rfl rfl ?_
  refine mg_objInit ol_Ge_1 oi_inst oi_code d_Ge_init_1 (by rw [hR]; decide) (by rw [hR]; exact Nat.le_of_ble_eq_true rfl) ?_
  first | refine mg_aload_n d_Ge_init_4 rfl rfl ?_ | refine mg_aload_nN d_Ge_init_4 rfl rfl ?_
  refine mg_iload_n d_Ge_init_5 rfl rfl ?_
  refine mg_putfield fw_Ge_7_PO d_Ge_init_6 h0 (Nat.le_of_ble_eq_true rfl) (fun _ => ⟨rfl, rfl⟩) ?_
  exact mg_return d_Ge_init_9 rfl (Nat.le_of_ble_eq_true rfl) (Nat.le_of_ble_eq_true rfl) ⟨rfl, rfl⟩

set_option maxHeartbeats 4000000 in
set_option maxRecDepth 100000 in
theorem c_Ge_init_OO {M : mg_M} {h : Nat} {w a b : Value} {n : Int32} (h0 : M h = some (.inr (6, [w, a, b]))) : mg_Ct Y_Ge_init { frames := 1, cells := 0, slots := 0, locals := 12 } [.ref h, .int n] M (fun v M' => v = none ∧ M' = mg_up M h (.inr (6, [.int n, a, b]))) := by
  refine mg_met [some (.ref h), some (.int n)] (by decide +kernel) rfl (Nat.le_of_ble_eq_true rfl) ?_
  intro X hR _
  first | refine mg_aload_n d_Ge_init_0 rfl rfl ?_ | refine mg_aload_nN d_Ge_init_0 rfl rfl ?_
  refine mg_objInit ol_Ge_1 oi_inst oi_code d_Ge_init_1 (by rw [hR]; decide) (by rw [hR]; exact Nat.le_of_ble_eq_true rfl) ?_
  first | refine mg_aload_n d_Ge_init_4 rfl rfl ?_ | refine mg_aload_nN d_Ge_init_4 rfl rfl ?_
  refine mg_iload_n d_Ge_init_5 rfl rfl ?_
  refine mg_putfield fw_Ge_7_OO d_Ge_init_6 h0 (Nat.le_of_ble_eq_true rfl) (fun _ => ⟨rfl, rfl⟩) ?_
  exact mg_return d_Ge_init_9 rfl (Nat.le_of_ble_eq_true rfl) (Nat.le_of_ble_eq_true rfl) ⟨rfl, rfl⟩

set_option maxHeartbeats 4000000 in
set_option maxRecDepth 100000 in
theorem c_Ge_init_KO {M : mg_M} {h : Nat} {w a b : Value} {n : Int32} (h0 : M h = some (.inr (7, [w, a, b]))) : mg_Ct Y_Ge_init { frames := 1, cells := 0, slots := 0, locals := 12 } [.ref h, .int n] M (fun v M' => v = none ∧ M' = mg_up M h (.inr (7, [.int n, a, b]))) := by
  refine mg_met [some (.ref h), some (.int n)] (by decide +kernel) rfl (Nat.le_of_ble_eq_true rfl) ?_
  intro X hR _
  first | refine mg_aload_n d_Ge_init_0 rfl rfl ?_ | refine mg_aload_nN d_Ge_init_0 rfl rfl ?_
  refine mg_objInit ol_Ge_1 oi_inst oi_code d_Ge_init_1 (by rw [hR]; decide) (by rw [hR]; exact Nat.le_of_ble_eq_true rfl) ?_
  first | refine mg_aload_n d_Ge_init_4 rfl rfl ?_ | refine mg_aload_nN d_Ge_init_4 rfl rfl ?_
  refine mg_iload_n d_Ge_init_5 rfl rfl ?_
  refine mg_putfield fw_Ge_7_KO d_Ge_init_6 h0 (Nat.le_of_ble_eq_true rfl) (fun _ => ⟨rfl, rfl⟩) ?_
  exact mg_return d_Ge_init_9 rfl (Nat.le_of_ble_eq_true rfl) (Nat.le_of_ble_eq_true rfl) ⟨rfl, rfl⟩

set_option maxHeartbeats 4000000 in
set_option maxRecDepth 100000 in
theorem c_Ge_init_AT {M : mg_M} {h : Nat} {w a b : Value} {n : Int32} (h0 : M h = some (.inr (8, [w, a, b]))) : mg_Ct Y_Ge_init { frames := 1, cells := 0, slots := 0, locals := 12 } [.ref h, .int n] M (fun v M' => v = none ∧ M' = mg_up M h (.inr (8, [.int n, a, b]))) := by
  refine mg_met [some (.ref h), some (.int n)] (by decide +kernel) rfl (Nat.le_of_ble_eq_true rfl) ?_
  intro X hR _
  first | refine mg_aload_n d_Ge_init_0 rfl rfl ?_ | refine mg_aload_nN d_Ge_init_0 rfl rfl ?_
  refine mg_objInit ol_Ge_1 oi_inst oi_code d_Ge_init_1 (by rw [hR]; decide) (by rw [hR]; exact Nat.le_of_ble_eq_true rfl) ?_
  first | refine mg_aload_n d_Ge_init_4 rfl rfl ?_ | refine mg_aload_nN d_Ge_init_4 rfl rfl ?_
  refine mg_iload_n d_Ge_init_5 rfl rfl ?_
  refine mg_putfield fw_Ge_7_AT d_Ge_init_6 h0 (Nat.le_of_ble_eq_true rfl) (fun _ => ⟨rfl, rfl⟩) ?_
  exact mg_return d_Ge_init_9 rfl (Nat.le_of_ble_eq_true rfl) (Nat.le_of_ble_eq_true rfl) ⟨rfl, rfl⟩

set_option maxHeartbeats 4000000 in
set_option maxRecDepth 100000 in
theorem c_IR_init {M : mg_M} {h : Nat} {a b : Int32} (h0 : M h = some (.inr (3, [.int 0, .int 0, .int 0]))) : mg_Ct Y_IR_init { frames := 2, cells := 0, slots := 0, locals := 33 } [.ref h, .int a, .int b] M (fun v M' => v = none ∧ M' = mg_up M h (genE (0, a, b, 1))) := by
  refine mg_met [some (.ref h), some (.int a), some (.int b)] (by decide +kernel) rfl (Nat.le_of_ble_eq_true rfl) ?_
  intro X hR _
  first | refine mg_aload_n d_IR_init_0 rfl rfl ?_ | refine mg_aload_nN d_IR_init_0 rfl rfl ?_
  refine mg_iconst (v := 1) d_IR_init_1 (by decide) ?_
  refine mg_callI (il_IR_1 rfl) d_IR_init_2 (c_Ge_init_IR h0) rfl rfl (by rw [hR]; decide) (by rw [hR]; decide) (Nat.le_of_ble_eq_true rfl) ?_
  rintro v M1 ⟨rfl, rfl⟩
  first | refine mg_aload_n d_IR_init_5 rfl rfl ?_ | refine mg_aload_nN d_IR_init_5 rfl rfl ?_
  refine mg_iload_n d_IR_init_6 rfl rfl ?_
  refine mg_putfield fw_IR_7 d_IR_init_7 (mg_up_s _ _ _) (Nat.le_of_ble_eq_true rfl) (fun _ => ⟨rfl, rfl⟩) ?_
  rw [mg_up_up]
  first | refine mg_aload_n d_IR_init_10 rfl rfl ?_ | refine mg_aload_nN d_IR_init_10 rfl rfl ?_
  refine mg_iload_n d_IR_init_11 rfl rfl ?_
  refine mg_putfield fw_IR_13 d_IR_init_12 (mg_up_s _ _ _) (Nat.le_of_ble_eq_true rfl) (fun _ => ⟨rfl, rfl⟩) ?_
  rw [mg_up_up]
  exact mg_return d_IR_init_15 rfl (Nat.le_of_ble_eq_true rfl) (Nat.le_of_ble_eq_true rfl) ⟨rfl, rfl⟩

set_option maxHeartbeats 4000000 in
set_option maxRecDepth 100000 in
theorem c_LO_init {M : mg_M} {h p : Nat} {b : Int32} {g : gN} (h0 : M h = some (.inr (4, [.int 0, .null, .int 0]))) (hp : M p = some (genE g)) : mg_Ct Y_LO_init { frames := 2, cells := 0, slots := 0, locals := 33 } [.ref h, .ref p, .int b] M (fun v M' => v = none ∧ M' = mg_up M h (.inr (4, [.int (nI (g.2.2.2 + 1)), .ref p, .int b]))) := by
  refine mg_met [some (.ref h), some (.ref p), some (.int b)] (by decide +kernel) rfl (Nat.le_of_ble_eq_true rfl) ?_
  intro X hR _
  first | refine mg_aload_n d_LO_init_0 rfl rfl ?_ | refine mg_aload_nN d_LO_init_0 rfl rfl ?_
  first | refine mg_aload_n d_LO_init_1 rfl rfl ?_ | refine mg_aload_nN d_LO_init_1 rfl rfl ?_
  refine mg_getDeep dl_LO d_LO_init_2 hp ?_
  refine mg_iconst (v := 1) d_LO_init_5 (by decide) ?_
  refine mg_iadd d_LO_init_6 ?_
  refine mg_callI (il_LO_7 rfl) d_LO_init_7 (c_Ge_init_LO h0) rfl rfl (by rw [hR]; decide) (by rw [hR]; decide) (Nat.le_of_ble_eq_true rfl) ?_
  rintro v M1 ⟨rfl, rfl⟩
  rw [nI_1]
  first | refine mg_aload_n d_LO_init_10 rfl rfl ?_ | refine mg_aload_nN d_LO_init_10 rfl rfl ?_
  first | refine mg_aload_n d_LO_init_11 rfl rfl ?_ | refine mg_aload_nN d_LO_init_11 rfl rfl ?_
  refine mg_putfield fw_LO_11 d_LO_init_12 (mg_up_s _ _ _) (Nat.le_of_ble_eq_true rfl) (fun _ => ⟨rfl, rfl⟩) ?_
  rw [mg_up_up]
  first | refine mg_aload_n d_LO_init_15 rfl rfl ?_ | refine mg_aload_nN d_LO_init_15 rfl rfl ?_
  refine mg_iload_n d_LO_init_16 rfl rfl ?_
  refine mg_putfield fw_LO_17 d_LO_init_17 (mg_up_s _ _ _) (Nat.le_of_ble_eq_true rfl) (fun _ => ⟨rfl, rfl⟩) ?_
  rw [mg_up_up]
  exact mg_return d_LO_init_20 rfl (Nat.le_of_ble_eq_true rfl) (Nat.le_of_ble_eq_true rfl) ⟨rfl, rfl⟩

set_option maxHeartbeats 4000000 in
set_option maxRecDepth 100000 in
theorem c_KO_init {M : mg_M} {h p : Nat} {b : Int32} {g : gN} (h0 : M h = some (.inr (7, [.int 0, .null, .int 0]))) (hp : M p = some (genE g)) : mg_Ct Y_KO_init { frames := 2, cells := 0, slots := 0, locals := 33 } [.ref h, .ref p, .int b] M (fun v M' => v = none ∧ M' = mg_up M h (.inr (7, [.int (nI (g.2.2.2 + 1)), .ref p, .int b]))) := by
  refine mg_met [some (.ref h), some (.ref p), some (.int b)] (by decide +kernel) rfl (Nat.le_of_ble_eq_true rfl) ?_
  intro X hR _
  first | refine mg_aload_n d_KO_init_0 rfl rfl ?_ | refine mg_aload_nN d_KO_init_0 rfl rfl ?_
  first | refine mg_aload_n d_KO_init_1 rfl rfl ?_ | refine mg_aload_nN d_KO_init_1 rfl rfl ?_
  refine mg_getDeep dl_KO d_KO_init_2 hp ?_
  refine mg_iconst (v := 1) d_KO_init_5 (by decide) ?_
  refine mg_iadd d_KO_init_6 ?_
  refine mg_callI (il_KO_9 rfl) d_KO_init_7 (c_Ge_init_KO h0) rfl rfl (by rw [hR]; decide) (by rw [hR]; decide) (Nat.le_of_ble_eq_true rfl) ?_
  rintro v M1 ⟨rfl, rfl⟩
  rw [nI_1]
  first | refine mg_aload_n d_KO_init_10 rfl rfl ?_ | refine mg_aload_nN d_KO_init_10 rfl rfl ?_
  first | refine mg_aload_n d_KO_init_11 rfl rfl ?_ | refine mg_aload_nN d_KO_init_11 rfl rfl ?_
  refine mg_putfield fw_KO_13 d_KO_init_12 (mg_up_s _ _ _) (Nat.le_of_ble_eq_true rfl) (fun _ => ⟨rfl, rfl⟩) ?_
  rw [mg_up_up]
  first | refine mg_aload_n d_KO_init_15 rfl rfl ?_ | refine mg_aload_nN d_KO_init_15 rfl rfl ?_
  refine mg_iload_n d_KO_init_16 rfl rfl ?_
  refine mg_putfield fw_KO_19 d_KO_init_17 (mg_up_s _ _ _) (Nat.le_of_ble_eq_true rfl) (fun _ => ⟨rfl, rfl⟩) ?_
  rw [mg_up_up]
  exact mg_return d_KO_init_20 rfl (Nat.le_of_ble_eq_true rfl) (Nat.le_of_ble_eq_true rfl) ⟨rfl, rfl⟩

set_option maxHeartbeats 4000000 in
set_option maxRecDepth 100000 in
theorem c_AT_init {M : mg_M} {h p : Nat} {b : Int32} {g : gN} (h0 : M h = some (.inr (8, [.int 0, .null, .int 0]))) (hp : M p = some (genE g)) : mg_Ct Y_AT_init { frames := 2, cells := 0, slots := 0, locals := 33 } [.ref h, .ref p, .int b] M (fun v M' => v = none ∧ M' = mg_up M h (.inr (8, [.int (nI (g.2.2.2 + 1)), .ref p, .int b]))) := by
  refine mg_met [some (.ref h), some (.ref p), some (.int b)] (by decide +kernel) rfl (Nat.le_of_ble_eq_true rfl) ?_
  intro X hR _
  first | refine mg_aload_n d_AT_init_0 rfl rfl ?_ | refine mg_aload_nN d_AT_init_0 rfl rfl ?_
  first | refine mg_aload_n d_AT_init_1 rfl rfl ?_ | refine mg_aload_nN d_AT_init_1 rfl rfl ?_
  refine mg_getDeep dl_AT d_AT_init_2 hp ?_
  refine mg_iconst (v := 1) d_AT_init_5 (by decide) ?_
  refine mg_iadd d_AT_init_6 ?_
  refine mg_callI (il_AT_7 rfl) d_AT_init_7 (c_Ge_init_AT h0) rfl rfl (by rw [hR]; decide) (by rw [hR]; decide) (Nat.le_of_ble_eq_true rfl) ?_
  rintro v M1 ⟨rfl, rfl⟩
  rw [nI_1]
  first | refine mg_aload_n d_AT_init_10 rfl rfl ?_ | refine mg_aload_nN d_AT_init_10 rfl rfl ?_
  first | refine mg_aload_n d_AT_init_11 rfl rfl ?_ | refine mg_aload_nN d_AT_init_11 rfl rfl ?_
  refine mg_putfield fw_AT_11 d_AT_init_12 (mg_up_s _ _ _) (Nat.le_of_ble_eq_true rfl) (fun _ => ⟨rfl, rfl⟩) ?_
  rw [mg_up_up]
  first | refine mg_aload_n d_AT_init_15 rfl rfl ?_ | refine mg_aload_nN d_AT_init_15 rfl rfl ?_
  refine mg_iload_n d_AT_init_16 rfl rfl ?_
  refine mg_putfield fw_AT_17 d_AT_init_17 (mg_up_s _ _ _) (Nat.le_of_ble_eq_true rfl) (fun _ => ⟨rfl, rfl⟩) ?_
  rw [mg_up_up]
  exact mg_return d_AT_init_20 rfl (Nat.le_of_ble_eq_true rfl) (Nat.le_of_ble_eq_true rfl) ⟨rfl, rfl⟩

theorem max_nI {a b : Nat} (ha : a ≤ 8) (hb : b ≤ 8) : (if nI a < nI b then nI b else nI a) + 1 = nI (max a b + 1) := by
  by_cases h : a < b
  · rw [if_pos (nI_lt h (by omega)), nI_1, Nat.max_eq_right (by omega)]
  · rw [if_neg (nI_nlt (by omega) (by omega)), nI_1, Nat.max_eq_left (by omega)]
set_option maxHeartbeats 4000000 in
set_option maxRecDepth 100000 in
theorem c_PO_init {M : mg_M} {h p q : Nat} {g g2 : gN} (h0 : M h = some (.inr (5, [.int 0, .null, .null]))) (hp : M p = some (genE g)) (hq : M q = some (genE g2)) (l1 : g.2.2.2 ≤ 8) (l2 : g2.2.2.2 ≤ 8) : mg_Ct Y_PO_init { frames := 2, cells := 0, slots := 0, locals := 33 } [.ref h, .ref p, .ref q] M (fun v M' => v = none ∧ M' = mg_up M h (.inr (5, [.int (nI (max g.2.2.2 g2.2.2.2 + 1)), .ref p, .ref q]))) := by
  refine mg_met [some (.ref h), some (.ref p), some (.ref q)] (by decide +kernel) rfl (Nat.le_of_ble_eq_true rfl) ?_
  intro X hR _
  first | refine mg_aload_n d_PO_init_0 rfl rfl ?_ | refine mg_aload_nN d_PO_init_0 rfl rfl ?_
  first | refine mg_aload_n d_PO_init_1 rfl rfl ?_ | refine mg_aload_nN d_PO_init_1 rfl rfl ?_
  refine mg_getDeep dl_PO d_PO_init_2 hp ?_
  first | refine mg_aload_n d_PO_init_5 rfl rfl ?_ | refine mg_aload_nN d_PO_init_5 rfl rfl ?_
  refine mg_getDeep dl_PO d_PO_init_6 hq ?_
  refine mg_max ml_PO_7 mt_max_s mt_init mt_max_c d_PO_init_9 (by rw [hR]; decide) (by rw [hR]; exact Nat.le_of_ble_eq_true rfl) (by rw [hR]; exact Nat.le_of_ble_eq_true rfl) (by rw [hR]; exact Nat.le_of_ble_eq_true rfl) ?_
  refine mg_iconst (v := 1) d_PO_init_12 (by decide) ?_
  refine mg_iadd d_PO_init_13 ?_
  refine mg_callI (il_PO_13 rfl) d_PO_init_14 (c_Ge_init_PO h0) rfl rfl (by rw [hR]; decide) (by rw [hR]; decide) (Nat.le_of_ble_eq_true rfl) ?_
  rintro v M1 ⟨rfl, rfl⟩
  rw [max_nI l1 l2]
  first | refine mg_aload_n d_PO_init_17 rfl rfl ?_ | refine mg_aload_nN d_PO_init_17 rfl rfl ?_
  first | refine mg_aload_n d_PO_init_18 rfl rfl ?_ | refine mg_aload_nN d_PO_init_18 rfl rfl ?_
  refine mg_putfield fw_PO_17 d_PO_init_19 (mg_up_s _ _ _) (Nat.le_of_ble_eq_true rfl) (fun _ => ⟨rfl, rfl⟩) ?_
  rw [mg_up_up]
  first | refine mg_aload_n d_PO_init_22 rfl rfl ?_ | refine mg_aload_nN d_PO_init_22 rfl rfl ?_
  first | refine mg_aload_n d_PO_init_23 rfl rfl ?_ | refine mg_aload_nN d_PO_init_23 rfl rfl ?_
  refine mg_putfield fw_PO_23 d_PO_init_24 (mg_up_s _ _ _) (Nat.le_of_ble_eq_true rfl) (fun _ => ⟨rfl, rfl⟩) ?_
  rw [mg_up_up]
  exact mg_return d_PO_init_27 rfl (Nat.le_of_ble_eq_true rfl) (Nat.le_of_ble_eq_true rfl) ⟨rfl, rfl⟩

set_option maxHeartbeats 4000000 in
set_option maxRecDepth 100000 in
theorem c_OO_init {M : mg_M} {h p q : Nat} {g g2 : gN} (h0 : M h = some (.inr (6, [.int 0, .null, .null]))) (hp : M p = some (genE g)) (hq : M q = some (genE g2)) (l1 : g.2.2.2 ≤ 8) (l2 : g2.2.2.2 ≤ 8) : mg_Ct Y_OO_init { frames := 2, cells := 0, slots := 0, locals := 33 } [.ref h, .ref p, .ref q] M (fun v M' => v = none ∧ M' = mg_up M h (.inr (6, [.int (nI (max g.2.2.2 g2.2.2.2 + 1)), .ref p, .ref q]))) := by
  refine mg_met [some (.ref h), some (.ref p), some (.ref q)] (by decide +kernel) rfl (Nat.le_of_ble_eq_true rfl) ?_
  intro X hR _
  first | refine mg_aload_n d_OO_init_0 rfl rfl ?_ | refine mg_aload_nN d_OO_init_0 rfl rfl ?_
  first | refine mg_aload_n d_OO_init_1 rfl rfl ?_ | refine mg_aload_nN d_OO_init_1 rfl rfl ?_
  refine mg_getDeep dl_OO d_OO_init_2 hp ?_
  first | refine mg_aload_n d_OO_init_5 rfl rfl ?_ | refine mg_aload_nN d_OO_init_5 rfl rfl ?_
  refine mg_getDeep dl_OO d_OO_init_6 hq ?_
  refine mg_max ml_OO_7 mt_max_s mt_init mt_max_c d_OO_init_9 (by rw [hR]; decide) (by rw [hR]; exact Nat.le_of_ble_eq_true rfl) (by rw [hR]; exact Nat.le_of_ble_eq_true rfl) (by rw [hR]; exact Nat.le_of_ble_eq_true rfl) ?_
  refine mg_iconst (v := 1) d_OO_init_12 (by decide) ?_
  refine mg_iadd d_OO_init_13 ?_
  refine mg_callI (il_OO_13 rfl) d_OO_init_14 (c_Ge_init_OO h0) rfl rfl (by rw [hR]; decide) (by rw [hR]; decide) (Nat.le_of_ble_eq_true rfl) ?_
  rintro v M1 ⟨rfl, rfl⟩
  rw [max_nI l1 l2]
  first | refine mg_aload_n d_OO_init_17 rfl rfl ?_ | refine mg_aload_nN d_OO_init_17 rfl rfl ?_
  first | refine mg_aload_n d_OO_init_18 rfl rfl ?_ | refine mg_aload_nN d_OO_init_18 rfl rfl ?_
  refine mg_putfield fw_OO_17 d_OO_init_19 (mg_up_s _ _ _) (Nat.le_of_ble_eq_true rfl) (fun _ => ⟨rfl, rfl⟩) ?_
  rw [mg_up_up]
  first | refine mg_aload_n d_OO_init_22 rfl rfl ?_ | refine mg_aload_nN d_OO_init_22 rfl rfl ?_
  first | refine mg_aload_n d_OO_init_23 rfl rfl ?_ | refine mg_aload_nN d_OO_init_23 rfl rfl ?_
  refine mg_putfield fw_OO_23 d_OO_init_24 (mg_up_s _ _ _) (Nat.le_of_ble_eq_true rfl) (fun _ => ⟨rfl, rfl⟩) ?_
  rw [mg_up_up]
  exact mg_return d_OO_init_27 rfl (Nat.le_of_ble_eq_true rfl) (Nat.le_of_ble_eq_true rfl) ⟨rfl, rfl⟩

abbrev pN : Type := Int32 × Int32 × Int32
def prE (p : pN) : va_E := .inr (9, [.int p.1, .int p.2.1, .int p.2.2])
set_option maxHeartbeats 4000000 in
set_option maxRecDepth 100000 in
theorem c_Pr_init {M : mg_M} {h : Nat} {a b c : Int32} (h0 : M h = some (.inr (9, [.int 0, .int 0, .int 0]))) : mg_Ct Y_Pr_init { frames := 1, cells := 0, slots := 0, locals := 12 } [.ref h, .int a, .int b, .int c] M (fun v M' => v = none ∧ M' = mg_up M h (prE (a, b, c))) := by
  refine mg_met [some (.ref h), some (.int a), some (.int b), some (.int c)] (by decide +kernel) rfl (Nat.le_of_ble_eq_true rfl) ?_
  intro X hR _
  first | refine mg_aload_n d_Pr_init_0 rfl rfl ?_ | refine mg_aload_nN d_Pr_init_0 rfl rfl ?_
  refine mg_objInit ol_Pr_3 oi_inst oi_code d_Pr_init_1 (by rw [hR]; decide) (by rw [hR]; exact Nat.le_of_ble_eq_true rfl) ?_
  first | refine mg_aload_n d_Pr_init_4 rfl rfl ?_ | refine mg_aload_nN d_Pr_init_4 rfl rfl ?_
  refine mg_iload_n d_Pr_init_5 rfl rfl ?_
  refine mg_putfield fw_Pr_9 d_Pr_init_6 h0 (Nat.le_of_ble_eq_true rfl) (fun _ => ⟨rfl, rfl⟩) ?_
  first | refine mg_aload_n d_Pr_init_9 rfl rfl ?_ | refine mg_aload_nN d_Pr_init_9 rfl rfl ?_
  refine mg_iload_n d_Pr_init_10 rfl rfl ?_
  refine mg_putfield fw_Pr_15 d_Pr_init_11 (mg_up_s _ _ _) (Nat.le_of_ble_eq_true rfl) (fun _ => ⟨rfl, rfl⟩) ?_
  rw [mg_up_up]
  first | refine mg_aload_n d_Pr_init_14 rfl rfl ?_ | refine mg_aload_nN d_Pr_init_14 rfl rfl ?_
  refine mg_iload_n d_Pr_init_15 rfl rfl ?_
  refine mg_putfield fw_Pr_18 d_Pr_init_16 (mg_up_s _ _ _) (Nat.le_of_ble_eq_true rfl) (fun _ => ⟨rfl, rfl⟩) ?_
  rw [mg_up_up]
  exact mg_return d_Pr_init_19 rfl (Nat.le_of_ble_eq_true rfl) (Nat.le_of_ble_eq_true rfl) ⟨rfl, rfl⟩

theorem cmp_le {x y : Int64} : lg_cmp x y ≤ 0 ↔ ¬ y < x := by
  unfold lg_cmp
  by_cases h : y < x
  · rw [if_pos h]; exact ⟨fun e => absurd e (by decide), fun e => absurd h e⟩
  · rw [if_neg h]
    by_cases h2 : x = y
    · rw [if_pos h2]; exact ⟨fun _ => h, fun _ => by decide⟩
    · rw [if_neg h2]; exact ⟨fun _ => h, fun _ => by decide⟩
/-- what a property says of numbers -/
def vdF (p : pN) (ns : List Int32) : Int32 := if nI ns.length < p.2.2 then 3 else if p.1 = 0 then (if p.2.1.toInt64 < sumF 0 ns then 1 else 0) else if p.1 = 1 then bI (hasL ns p.2.1) else if p.1 = 2 then bI (fallL ns) else if p.1 = 3 then (if nI ns.length < p.2.1 then 0 else 1) else (if hasL ns p.2.1 = true then 2 else 0)
theorem vdF_3 {kd k c : Int32} {ns : List Int32} (h : nI ns.length < c) : vdF (kd, k, c) ns = 3 := by
  show (if nI ns.length < c then (3 : Int32) else _) = 3
  rw [if_pos h]
theorem vdF_k0 {k c : Int32} {ns : List Int32} (h : ¬ nI ns.length < c) : vdF (0, k, c) ns = if k.toInt64 < sumF 0 ns then 1 else 0 := by
  show (if nI ns.length < c then (3 : Int32) else if (0 : Int32) = 0 then _ else _) = _
  rw [if_neg h, if_pos rfl]
theorem vdF_k1 {k c : Int32} {ns : List Int32} (h : ¬ nI ns.length < c) : vdF (1, k, c) ns = bI (hasL ns k) := by
  show (if nI ns.length < c then (3 : Int32) else if (1 : Int32) = 0 then _ else if (1 : Int32) = 1 then _ else _) = _
  rw [if_neg h, if_neg (by decide), if_pos rfl]
theorem vdF_k2 {k c : Int32} {ns : List Int32} (h : ¬ nI ns.length < c) : vdF (2, k, c) ns = bI (fallL ns) := by
  show (if nI ns.length < c then (3 : Int32) else if (2 : Int32) = 0 then _ else if (2 : Int32) = 1 then _ else if (2 : Int32) = 2 then _ else _) = _
  rw [if_neg h, if_neg (by decide), if_neg (by decide), if_pos rfl]
theorem vdF_k3 {k c : Int32} {ns : List Int32} (h : ¬ nI ns.length < c) : vdF (3, k, c) ns = if nI ns.length < k then 0 else 1 := by
  show (if nI ns.length < c then (3 : Int32) else if (3 : Int32) = 0 then _ else if (3 : Int32) = 1 then _ else if (3 : Int32) = 2 then _ else if (3 : Int32) = 3 then _ else _) = _
  rw [if_neg h, if_neg (by decide), if_neg (by decide), if_neg (by decide), if_pos rfl]
theorem vdF_k4 {kd k c : Int32} {ns : List Int32} (h : ¬ nI ns.length < c) (h0 : ¬ kd = 0) (h1 : ¬ kd = 1) (h2 : ¬ kd = 2) (h3 : ¬ kd = 3) : vdF (kd, k, c) ns = if hasL ns k = true then 2 else 0 := by
  show (if nI ns.length < c then (3 : Int32) else if kd = 0 then _ else if kd = 1 then _ else if kd = 2 then _ else if kd = 3 then _ else _) = _
  rw [if_neg h, if_neg h0, if_neg h1, if_neg h2, if_neg h3]

set_option maxHeartbeats 4000000 in
set_option maxRecDepth 100000 in
theorem c_Pr_judge {M : mg_M} {h hn : Nat} {kd k c : Int32} {ns : List Int32} (hP : M h = some (prE (kd, k, c))) (hI : isI M hn ns) : mg_Ct Y_Pr_judge { frames := 2, cells := 0, slots := 0, locals := 46 } [.ref h, .ref hn] M (fun v M' => v = some (.int (vdF (kd, k, c) ns)) ∧ M' = M) := by
  replace hP : M h = some (.inr (9, [.int kd, .int k, .int c])) := hP
  refine mg_met [some (.ref h), some (.ref hn)] (by decide +kernel) rfl (Nat.le_of_ble_eq_true rfl) ?_
  intro X hR _
  first | refine mg_aload_n d_Pr_judge_0 rfl rfl ?_ | refine mg_aload_nN d_Pr_judge_0 rfl rfl ?_
  refine mg_callV (vl_Pr_21 rfl) d_Pr_judge_1 (by obtain ⟨_, e1, -⟩ := hI; exact e1) rfl rfl (c_In_length hI) rfl rfl (by rw [hR]; decide) (by rw [hR]; decide) (Nat.le_of_ble_eq_true rfl) ?_
  rintro v M1 ⟨rfl, rfl⟩
  first | refine mg_aload_n d_Pr_judge_4 rfl rfl ?_ | refine mg_aload_nN d_Pr_judge_4 rfl rfl ?_
  refine mg_getfield fl_Pr_18 d_Pr_judge_5 hP rfl ?_
  refine mg_icmp_ge (tgt := 13) d_Pr_judge_8 (by decide) (fun c_8 => ?_) (fun c_8 => ?_)
  · first | refine mg_aload_n d_Pr_judge_13 rfl rfl ?_ | refine mg_aload_nN d_Pr_judge_13 rfl rfl ?_
    refine mg_getfield fl_Pr_9 d_Pr_judge_14 hP rfl ?_
    have h3 : ¬ nI ns.length < c := Int32.not_lt.mpr c_8
    by_cases k0 : kd = 0
    · subst k0
      refine mg_tableIn (off := 31) (tgt := 48) d_Pr_judge_17 (by decide) (by decide) rfl (by decide) ?_
      first | refine mg_aload_n d_Pr_judge_48 rfl rfl ?_ | refine mg_aload_nN d_Pr_judge_48 rfl rfl ?_
      refine mg_iconst (v := 0) d_Pr_judge_49 (by decide) ?_
      refine mg_callV (vl_Pr_27 rfl) d_Pr_judge_50 (by obtain ⟨_, e1, -⟩ := hI; exact e1) rfl rfl (c_In_totalFrom (a := 0) hI (by decide)) rfl rfl (by rw [hR]; decide) (by rw [hR]; decide) (Nat.le_of_ble_eq_true rfl) ?_
      rintro v M2 ⟨rfl, rfl⟩
      rw [List.drop_zero]
      first | refine mg_aload_n d_Pr_judge_53 rfl rfl ?_ | refine mg_aload_nN d_Pr_judge_53 rfl rfl ?_
      refine mg_getfield fl_Pr_15 d_Pr_judge_54 hP rfl ?_
      refine mg_i2l d_Pr_judge_57 ?_
      refine mg_lcmp d_Pr_judge_58 ?_
      refine mg_if_le (tgt := 66) d_Pr_judge_59 (by decide) (fun c_59 => ?_) (fun c_59 => ?_)
      · refine mg_iconst (v := 0) d_Pr_judge_66 (by decide) ?_
        exact mg_ireturn d_Pr_judge_67 rfl rfl (Nat.le_of_ble_eq_true rfl) (Nat.le_of_ble_eq_true rfl) ⟨by rw [vdF_k0 h3, if_neg (cmp_le.mp c_59)], rfl⟩
      · refine mg_iconst (v := 1) d_Pr_judge_62 (by decide) ?_
        refine mg_goto (tgt := 67) d_Pr_judge_63 (by decide) ?_
        exact mg_ireturn d_Pr_judge_67 rfl rfl (Nat.le_of_ble_eq_true rfl) (Nat.le_of_ble_eq_true rfl) ⟨by rw [vdF_k0 h3, if_pos (Decidable.not_not.mp (fun h => c_59 (cmp_le.mpr h)))], rfl⟩
    · by_cases k1 : kd = 1
      · subst k1
        refine mg_tableIn (off := 51) (tgt := 68) d_Pr_judge_17 (by decide) (by decide) rfl (by decide) ?_
        first | refine mg_aload_n d_Pr_judge_68 rfl rfl ?_ | refine mg_aload_nN d_Pr_judge_68 rfl rfl ?_
        first | refine mg_aload_n d_Pr_judge_69 rfl rfl ?_ | refine mg_aload_nN d_Pr_judge_69 rfl rfl ?_
        refine mg_getfield fl_Pr_15 d_Pr_judge_70 hP rfl ?_
        refine mg_callV (vl_Pr_31 rfl) d_Pr_judge_73 (by obtain ⟨_, e1, -⟩ := hI; exact e1) rfl rfl (c_In_has hI) rfl rfl (by rw [hR]; decide) (by rw [hR]; decide) (Nat.le_of_ble_eq_true rfl) ?_
        rintro v M2 ⟨rfl, rfl⟩
        refine mg_if_eq (tgt := 83) d_Pr_judge_76 (by decide) (fun c_76 => ?_) (fun c_76 => ?_)
        · refine mg_iconst (v := 0) d_Pr_judge_83 (by decide) ?_
          exact mg_ireturn d_Pr_judge_84 rfl rfl (Nat.le_of_ble_eq_true rfl) (Nat.le_of_ble_eq_true rfl) ⟨by rw [vdF_k1 h3, bI_f c_76]; rfl, rfl⟩
        · refine mg_iconst (v := 1) d_Pr_judge_79 (by decide) ?_
          refine mg_goto (tgt := 84) d_Pr_judge_80 (by decide) ?_
          exact mg_ireturn d_Pr_judge_84 rfl rfl (Nat.le_of_ble_eq_true rfl) (Nat.le_of_ble_eq_true rfl) ⟨by rw [vdF_k1 h3, bI_t c_76]; rfl, rfl⟩
      · by_cases k2 : kd = 2
        · subst k2
          refine mg_tableIn (off := 68) (tgt := 85) d_Pr_judge_17 (by decide) (by decide) rfl (by decide) ?_
          first | refine mg_aload_n d_Pr_judge_85 rfl rfl ?_ | refine mg_aload_nN d_Pr_judge_85 rfl rfl ?_
          refine mg_callV (vl_Pr_35 rfl) d_Pr_judge_86 (by obtain ⟨_, e1, -⟩ := hI; exact e1) rfl rfl (c_In_falls hI) rfl rfl (by rw [hR]; decide) (by rw [hR]; decide) (Nat.le_of_ble_eq_true rfl) ?_
          rintro v M2 ⟨rfl, rfl⟩
          refine mg_if_eq (tgt := 96) d_Pr_judge_89 (by decide) (fun c_89 => ?_) (fun c_89 => ?_)
          · refine mg_iconst (v := 0) d_Pr_judge_96 (by decide) ?_
            exact mg_ireturn d_Pr_judge_97 rfl rfl (Nat.le_of_ble_eq_true rfl) (Nat.le_of_ble_eq_true rfl) ⟨by rw [vdF_k2 h3, bI_f c_89]; rfl, rfl⟩
          · refine mg_iconst (v := 1) d_Pr_judge_92 (by decide) ?_
            refine mg_goto (tgt := 97) d_Pr_judge_93 (by decide) ?_
            exact mg_ireturn d_Pr_judge_97 rfl rfl (Nat.le_of_ble_eq_true rfl) (Nat.le_of_ble_eq_true rfl) ⟨by rw [vdF_k2 h3, bI_t c_89]; rfl, rfl⟩
        · by_cases k3 : kd = 3
          · subst k3
            refine mg_tableIn (off := 81) (tgt := 98) d_Pr_judge_17 (by decide) (by decide) rfl (by decide) ?_
            first | refine mg_aload_n d_Pr_judge_98 rfl rfl ?_ | refine mg_aload_nN d_Pr_judge_98 rfl rfl ?_
            refine mg_callV (vl_Pr_21 rfl) d_Pr_judge_99 (by obtain ⟨_, e1, -⟩ := hI; exact e1) rfl rfl (c_In_length hI) rfl rfl (by rw [hR]; decide) (by rw [hR]; decide) (Nat.le_of_ble_eq_true rfl) ?_
            rintro v M2 ⟨rfl, rfl⟩
            first | refine mg_aload_n d_Pr_judge_102 rfl rfl ?_ | refine mg_aload_nN d_Pr_judge_102 rfl rfl ?_
            refine mg_getfield fl_Pr_15 d_Pr_judge_103 hP rfl ?_
            refine mg_icmp_lt (tgt := 113) d_Pr_judge_106 (by decide) (fun c_106 => ?_) (fun c_106 => ?_)
            · refine mg_iconst (v := 0) d_Pr_judge_113 (by decide) ?_
              exact mg_ireturn d_Pr_judge_114 rfl rfl (Nat.le_of_ble_eq_true rfl) (Nat.le_of_ble_eq_true rfl) ⟨by rw [vdF_k3 h3, if_pos c_106], rfl⟩
            · refine mg_iconst (v := 1) d_Pr_judge_109 (by decide) ?_
              refine mg_goto (tgt := 114) d_Pr_judge_110 (by decide) ?_
              exact mg_ireturn d_Pr_judge_114 rfl rfl (Nat.le_of_ble_eq_true rfl) (Nat.le_of_ble_eq_true rfl) ⟨by rw [vdF_k3 h3, if_neg c_106], rfl⟩
          · have hout : kd.toInt < 0 ∨ 3 < kd.toInt := by
              have a0 := lv_neT k0 (a := 0) (by decide)
              have a1 := lv_neT k1 (a := 1) (by decide)
              have a2 := lv_neT k2 (a := 2) (by decide)
              have a3 := lv_neT k3 (a := 3) (by decide)
              omega
            refine mg_tableOut (tgt := 115) d_Pr_judge_17 hout (by decide) ?_
            first | refine mg_aload_n d_Pr_judge_115 rfl rfl ?_ | refine mg_aload_nN d_Pr_judge_115 rfl rfl ?_
            first | refine mg_aload_n d_Pr_judge_116 rfl rfl ?_ | refine mg_aload_nN d_Pr_judge_116 rfl rfl ?_
            refine mg_getfield fl_Pr_15 d_Pr_judge_117 hP rfl ?_
            refine mg_callV (vl_Pr_31 rfl) d_Pr_judge_120 (by obtain ⟨_, e1, -⟩ := hI; exact e1) rfl rfl (c_In_has hI) rfl rfl (by rw [hR]; decide) (by rw [hR]; decide) (Nat.le_of_ble_eq_true rfl) ?_
            rintro v M2 ⟨rfl, rfl⟩
            refine mg_if_eq (tgt := 130) d_Pr_judge_123 (by decide) (fun c_123 => ?_) (fun c_123 => ?_)
            · refine mg_iconst (v := 0) d_Pr_judge_130 (by decide) ?_
              exact mg_ireturn d_Pr_judge_131 rfl rfl (Nat.le_of_ble_eq_true rfl) (Nat.le_of_ble_eq_true rfl) ⟨by rw [vdF_k4 h3 k0 k1 k2 k3, bI_f c_123, if_neg (by decide)], rfl⟩
            · refine mg_iconst (v := 2) d_Pr_judge_126 (by decide) ?_
              refine mg_goto (tgt := 131) d_Pr_judge_127 (by decide) ?_
              exact mg_ireturn d_Pr_judge_131 rfl rfl (Nat.le_of_ble_eq_true rfl) (Nat.le_of_ble_eq_true rfl) ⟨by rw [vdF_k4 h3 k0 k1 k2 k3, if_pos (bI_t c_123)], rfl⟩
  · refine mg_iconst (v := 3) d_Pr_judge_11 (by decide) ?_
    exact mg_ireturn d_Pr_judge_12 rfl rfl (Nat.le_of_ble_eq_true rfl) (Nat.le_of_ble_eq_true rfl) ⟨by rw [vdF_3 (Int32.not_le.mp c_8)], rfl⟩

set_option maxHeartbeats 4000000 in
set_option maxRecDepth 100000 in
theorem c_Kp_initN {M : mg_M} {h r : Nat} {g p : Int32} {ys : List Int32} (h0 : M h = some (.inr (10, [.int 0, .int 0, .null, .null]))) (e1 : M (h + 1) = none) (e2 : M (h + 2) = none) (hY : isI M r ys) (hr : r + 2 ≤ h) : mg_Ct Y_Kp_init { frames := 3, cells := 2, slots := 62, locals := 67 } [.ref h, .int g, .int p, .ref r, .null] M (fun v M' => v = none ∧ M' h = some (.inr (10, [.int g, .int p, .ref (h + 1), .null])) ∧ isI M' (h + 1) ys ∧ sm h (h + 3) M M') := by
  refine mg_met [some (.ref h), some (.int g), some (.int p), some (.ref r), some .null] (by decide +kernel) rfl (Nat.le_of_ble_eq_true rfl) ?_
  intro X hR _
  first | refine mg_aload_n d_Kp_init_0 rfl rfl ?_ | refine mg_aload_nN d_Kp_init_0 rfl rfl ?_
  refine mg_objInit ol_Kp_1 oi_inst oi_code d_Kp_init_1 (by rw [hR]; decide) (by rw [hR]; exact Nat.le_of_ble_eq_true rfl) ?_
  first | refine mg_aload_n d_Kp_init_4 rfl rfl ?_ | refine mg_aload_nN d_Kp_init_4 rfl rfl ?_
  refine mg_new (h := h + 1) nl_Kp_7 d_Kp_init_5 (by omega) e1 (fun v hv => by simp at hv; rcases hv with rfl | rfl <;> trivial) (by rw [hR]; exact Nat.le_of_ble_eq_true rfl) (by rw [hR]; exact Nat.le_of_ble_eq_true rfl) ?_
  refine mg_dup d_Kp_init_8 rfl ?_
  refine mg_callI (il_Kp_9 rfl) d_Kp_init_9 (c_In_init (h := h + 1) (mg_up_s _ _ _) (by rw [mg_up_n _ _ (by omega)]; exact e2)) rfl rfl (by rw [hR]; decide) (by rw [hR]; decide) (Nat.le_of_ble_eq_true rfl) ?_
  rintro v M1 ⟨rfl, hA, s1⟩
  have k1 : ∀ q, (q < h + 1 ∨ h + 3 ≤ q) → M1 q = M q := fun q hq => by rw [s1 q (by omega), mg_up_n _ _ (by omega)]
  have hY1 : isI M1 r ys := hY.sm (lo := h + 1) (hi := h + 3) k1 (by omega)
  clear s1
  refine mg_putfield fw_Kp_10 d_Kp_init_12 (by rw [k1 h (by omega)]; exact h0) (Nat.le_of_ble_eq_true rfl) (fun _ => ⟨rfl, rfl⟩) ?_
  first | refine mg_aload_n d_Kp_init_15 rfl rfl ?_ | refine mg_aload_nN d_Kp_init_15 rfl rfl ?_
  refine mg_iload_n d_Kp_init_16 rfl rfl ?_
  refine mg_putfield fw_Kp_16 d_Kp_init_17 (mg_up_s _ _ _) (Nat.le_of_ble_eq_true rfl) (fun _ => ⟨rfl, rfl⟩) ?_
  rw [mg_up_up]
  first | refine mg_aload_n d_Kp_init_20 rfl rfl ?_ | refine mg_aload_nN d_Kp_init_20 rfl rfl ?_
  refine mg_iload_n d_Kp_init_21 rfl rfl ?_
  refine mg_putfield fw_Kp_20 d_Kp_init_22 (mg_up_s _ _ _) (Nat.le_of_ble_eq_true rfl) (fun _ => ⟨rfl, rfl⟩) ?_
  rw [mg_up_up]
  first | refine mg_aload_n d_Kp_init_25 rfl rfl ?_ | refine mg_aload_nN d_Kp_init_25 rfl rfl ?_
  first | refine mg_aload d_Kp_init_26 rfl ?_ | refine mg_aloadN d_Kp_init_26 rfl ?_
  refine mg_putfield fw_Kp_23 d_Kp_init_28 (mg_up_s _ _ _) (Nat.le_of_ble_eq_true rfl) (fun _ => ⟨rfl, rfl⟩) ?_
  rw [mg_up_up]
  first | refine mg_aload_n d_Kp_init_31 rfl rfl ?_ | refine mg_aload_nN d_Kp_init_31 rfl rfl ?_
  refine mg_getfield fl_Kp_10 d_Kp_init_32 (mg_up_s _ _ _) rfl ?_
  first | refine mg_aload_n d_Kp_init_35 rfl rfl ?_ | refine mg_aload_nN d_Kp_init_35 rfl rfl ?_
  refine mg_callV (vl_Kp_27 rfl) d_Kp_init_36 (by obtain ⟨_, e9, -⟩ := hA; rw [mg_up_n _ _ (by omega)]; exact e9) rfl rfl (c_In_copyFrom (hA.up (by omega) (by omega)) (hY1.up (by omega) (by omega)) (by omega)) rfl rfl (by rw [hR]; decide) (by rw [hR]; decide) (Nat.le_of_ble_eq_true rfl) ?_
  rintro v M2 ⟨rfl, hI2, hs2⟩
  refine mg_return d_Kp_init_39 rfl (Nat.le_of_ble_eq_true rfl) (Nat.le_of_ble_eq_true rfl) ⟨rfl, ?_, hI2, fun q hq => ?_⟩
  · rw [hs2 h (by omega), mg_up_s]; rfl
  · rw [hs2 q (by omega), mg_up_n _ _ (by omega), k1 q (by omega)]

set_option maxHeartbeats 4000000 in
set_option maxRecDepth 100000 in
theorem c_Kp_initR {M : mg_M} {h r ev : Nat} {g p : Int32} {ys : List Int32} (h0 : M h = some (.inr (10, [.int 0, .int 0, .null, .null]))) (e1 : M (h + 1) = none) (e2 : M (h + 2) = none) (hY : isI M r ys) (hr : r + 2 ≤ h) : mg_Ct Y_Kp_init { frames := 3, cells := 2, slots := 62, locals := 67 } [.ref h, .int g, .int p, .ref r, (.ref ev)] M (fun v M' => v = none ∧ M' h = some (.inr (10, [.int g, .int p, .ref (h + 1), (.ref ev)])) ∧ isI M' (h + 1) ys ∧ sm h (h + 3) M M') := by
  refine mg_met [some (.ref h), some (.int g), some (.int p), some (.ref r), some (.ref ev)] (by decide +kernel) rfl (Nat.le_of_ble_eq_true rfl) ?_
  intro X hR _
  first | refine mg_aload_n d_Kp_init_0 rfl rfl ?_ | refine mg_aload_nN d_Kp_init_0 rfl rfl ?_
  refine mg_objInit ol_Kp_1 oi_inst oi_code d_Kp_init_1 (by rw [hR]; decide) (by rw [hR]; exact Nat.le_of_ble_eq_true rfl) ?_
  first | refine mg_aload_n d_Kp_init_4 rfl rfl ?_ | refine mg_aload_nN d_Kp_init_4 rfl rfl ?_
  refine mg_new (h := h + 1) nl_Kp_7 d_Kp_init_5 (by omega) e1 (fun v hv => by simp at hv; rcases hv with rfl | rfl <;> trivial) (by rw [hR]; exact Nat.le_of_ble_eq_true rfl) (by rw [hR]; exact Nat.le_of_ble_eq_true rfl) ?_
  refine mg_dup d_Kp_init_8 rfl ?_
  refine mg_callI (il_Kp_9 rfl) d_Kp_init_9 (c_In_init (h := h + 1) (mg_up_s _ _ _) (by rw [mg_up_n _ _ (by omega)]; exact e2)) rfl rfl (by rw [hR]; decide) (by rw [hR]; decide) (Nat.le_of_ble_eq_true rfl) ?_
  rintro v M1 ⟨rfl, hA, s1⟩
  have k1 : ∀ q, (q < h + 1 ∨ h + 3 ≤ q) → M1 q = M q := fun q hq => by rw [s1 q (by omega), mg_up_n _ _ (by omega)]
  have hY1 : isI M1 r ys := hY.sm (lo := h + 1) (hi := h + 3) k1 (by omega)
  clear s1
  refine mg_putfield fw_Kp_10 d_Kp_init_12 (by rw [k1 h (by omega)]; exact h0) (Nat.le_of_ble_eq_true rfl) (fun _ => ⟨rfl, rfl⟩) ?_
  first | refine mg_aload_n d_Kp_init_15 rfl rfl ?_ | refine mg_aload_nN d_Kp_init_15 rfl rfl ?_
  refine mg_iload_n d_Kp_init_16 rfl rfl ?_
  refine mg_putfield fw_Kp_16 d_Kp_init_17 (mg_up_s _ _ _) (Nat.le_of_ble_eq_true rfl) (fun _ => ⟨rfl, rfl⟩) ?_
  rw [mg_up_up]
  first | refine mg_aload_n d_Kp_init_20 rfl rfl ?_ | refine mg_aload_nN d_Kp_init_20 rfl rfl ?_
  refine mg_iload_n d_Kp_init_21 rfl rfl ?_
  refine mg_putfield fw_Kp_20 d_Kp_init_22 (mg_up_s _ _ _) (Nat.le_of_ble_eq_true rfl) (fun _ => ⟨rfl, rfl⟩) ?_
  rw [mg_up_up]
  first | refine mg_aload_n d_Kp_init_25 rfl rfl ?_ | refine mg_aload_nN d_Kp_init_25 rfl rfl ?_
  first | refine mg_aload d_Kp_init_26 rfl ?_ | refine mg_aloadN d_Kp_init_26 rfl ?_
  refine mg_putfield fw_Kp_23 d_Kp_init_28 (mg_up_s _ _ _) (Nat.le_of_ble_eq_true rfl) (fun _ => ⟨rfl, rfl⟩) ?_
  rw [mg_up_up]
  first | refine mg_aload_n d_Kp_init_31 rfl rfl ?_ | refine mg_aload_nN d_Kp_init_31 rfl rfl ?_
  refine mg_getfield fl_Kp_10 d_Kp_init_32 (mg_up_s _ _ _) rfl ?_
  first | refine mg_aload_n d_Kp_init_35 rfl rfl ?_ | refine mg_aload_nN d_Kp_init_35 rfl rfl ?_
  refine mg_callV (vl_Kp_27 rfl) d_Kp_init_36 (by obtain ⟨_, e9, -⟩ := hA; rw [mg_up_n _ _ (by omega)]; exact e9) rfl rfl (c_In_copyFrom (hA.up (by omega) (by omega)) (hY1.up (by omega) (by omega)) (by omega)) rfl rfl (by rw [hR]; decide) (by rw [hR]; decide) (Nat.le_of_ble_eq_true rfl) ?_
  rintro v M2 ⟨rfl, hI2, hs2⟩
  refine mg_return d_Kp_init_39 rfl (Nat.le_of_ble_eq_true rfl) (Nat.le_of_ble_eq_true rfl) ⟨rfl, ?_, hI2, fun q hq => ?_⟩
  · rw [hs2 h (by omega), mg_up_s]; rfl
  · rw [hs2 q (by omega), mg_up_n _ _ (by omega), k1 q (by omega)]
end
section
/-! THE CLASS's object, at 1; its arrays at 2 and 3; row 4, numbers 6, puts 8, step 10, draws 12; generators from 100, properties from 150, kept rows from 200 on, three handles each -/
theorem mg_eqv {X : mg_X} {Y : mg_Y} {Q : State → Prop} {M : mg_M} {k j pc : Nat} {lv : List (Option Value)} {rest : List Value} {x y : Value} (e : x = y) (kk : mg_G X Y Q M k j pc lv (y :: rest)) : mg_G X Y Q M k j pc lv (x :: rest) := e ▸ kk
abbrev psF (ng np : Nat) (lk : Value) (nk : Nat) (wa : Int32) (fg fp : Value) (fv : Int32) (le : Bool) (sm : Int64) : va_E := .inr (0, [.ref 2, .int (nI ng), .ref 3, .int (nI np), lk, .int (nI nk), .int wa, fg, fp, .int fv, .int (bI le), .ref 4, .ref 6, .ref 8, .ref 10, .ref 12, .long sm])
def gA (b n : Nat) : Nat → Option Nat := fun i => if i < n then some (b + i) else none
abbrev arE (t n : Nat) (f : Nat → Option Nat) : va_E := .inl (t, n, .inr (.inr (.inr (.inr f))))
theorem gA_in {b n j : Nat} (h : j < n) (hj : j < 2 ^ 31) : va_rf (gA b n (nI j).toNatClampNeg) = .ref (b + j) := by
  rw [nI_clamp hj]; simp [gA, h, va_rf]
def isBd (v : Int32) : Bool := decide (v = 1) || decide (v = 2)
def isNr (v : Int32) : Bool := decide (¬ v < -1000) && decide (¬ 1000 < v)

set_option maxHeartbeats 4000000 in
set_option maxRecDepth 100000 in
theorem c_PS_isBad {M : mg_M} {v0 : Int32} : mg_Ct Y_PS_isBad { frames := 0, cells := 0, slots := 0, locals := 0 } [.int v0] M (fun v M' => v = some (.int (bI (isBd v0))) ∧ M' = M) := by
  refine mg_met [some (.int v0)] (by decide +kernel) rfl (Nat.le_of_ble_eq_true rfl) ?_
  intro X hR _
  refine mg_iload_n d_PS_isBad_0 rfl rfl ?_
  refine mg_iconst (v := 1) d_PS_isBad_1 (by decide) ?_
  refine mg_icmp_eq (tgt := 10) d_PS_isBad_2 (by decide) (fun c_2 => ?_) (fun c_2 => ?_)
  · subst c_2
    refine mg_iconst (v := 1) d_PS_isBad_10 (by decide) ?_
    refine mg_goto (tgt := 15) d_PS_isBad_11 (by decide) ?_
    exact mg_ireturn d_PS_isBad_15 rfl rfl (Nat.le_of_ble_eq_true rfl) (Nat.le_of_ble_eq_true rfl) ⟨rfl, rfl⟩
  · refine mg_iload_n d_PS_isBad_5 rfl rfl ?_
    refine mg_iconst (v := 2) d_PS_isBad_6 (by decide) ?_
    refine mg_icmp_ne (tgt := 14) d_PS_isBad_7 (by decide) (fun c_7 => ?_) (fun c_7 => ?_)
    · refine mg_iconst (v := 0) d_PS_isBad_14 (by decide) ?_
      exact mg_ireturn d_PS_isBad_15 rfl rfl (Nat.le_of_ble_eq_true rfl) (Nat.le_of_ble_eq_true rfl) ⟨by simp [isBd, c_2, c_7, bI], rfl⟩
    · subst c_7
      refine mg_iconst (v := 1) d_PS_isBad_10 (by decide) ?_
      refine mg_goto (tgt := 15) d_PS_isBad_11 (by decide) ?_
      exact mg_ireturn d_PS_isBad_15 rfl rfl (Nat.le_of_ble_eq_true rfl) (Nat.le_of_ble_eq_true rfl) ⟨rfl, rfl⟩

set_option maxHeartbeats 4000000 in
set_option maxRecDepth 100000 in
theorem c_PS_isNear {M : mg_M} {v0 : Int32} : mg_Ct Y_PS_isNear { frames := 0, cells := 0, slots := 0, locals := 0 } [.int v0] M (fun v M' => v = some (.int (bI (isNr v0))) ∧ M' = M) := by
  refine mg_met [some (.int v0)] (by decide +kernel) rfl (Nat.le_of_ble_eq_true rfl) ?_
  intro X hR _
  refine mg_iload_n d_PS_isNear_0 rfl rfl ?_
  refine mg_sipush (v := -1000) d_PS_isNear_1 (by decide) ?_
  refine mg_icmp_lt (tgt := 18) d_PS_isNear_4 (by decide) (fun c_4 => ?_) (fun c_4 => ?_)
  · refine mg_iconst (v := 0) d_PS_isNear_18 (by decide) ?_
    exact mg_ireturn d_PS_isNear_19 rfl rfl (Nat.le_of_ble_eq_true rfl) (Nat.le_of_ble_eq_true rfl) ⟨by simp only [isNr, c_4, not_true_eq_false, decide_false, Bool.false_and]; rfl, rfl⟩
  · refine mg_iload_n d_PS_isNear_7 rfl rfl ?_
    refine mg_sipush (v := 1000) d_PS_isNear_8 (by decide) ?_
    refine mg_icmp_gt (tgt := 18) d_PS_isNear_11 (by decide) (fun c_11 => ?_) (fun c_11 => ?_)
    · refine mg_iconst (v := 0) d_PS_isNear_18 (by decide) ?_
      exact mg_ireturn d_PS_isNear_19 rfl rfl (Nat.le_of_ble_eq_true rfl) (Nat.le_of_ble_eq_true rfl) ⟨by simp only [isNr, c_11, not_true_eq_false, decide_false, Bool.and_false]; rfl, rfl⟩
    · refine mg_iconst (v := 1) d_PS_isNear_14 (by decide) ?_
      refine mg_goto (tgt := 19) d_PS_isNear_15 (by decide) ?_
      exact mg_ireturn d_PS_isNear_19 rfl rfl (Nat.le_of_ble_eq_true rfl) (Nat.le_of_ble_eq_true rfl) ⟨by simp only [isNr, c_4, c_11, not_false_eq_true, decide_true, Bool.and_true]; rfl, rfl⟩

set_option maxHeartbeats 4000000 in
set_option maxRecDepth 100000 in
theorem c_PS_generatorAt_in {M : mg_M} {ng np nk : Nat} {lk fg fp : Value} {wa fv : Int32} {le : Bool} {sm0 : Int64} {j : Nat} (hO : M 1 = some (psF ng np lk nk wa fg fp fv le sm0)) (hA : M 2 = some (arE 1 20 (gA 100 ng))) (hj : j < ng) (hn : ng ≤ 20) : mg_Ct Y_PS_generatorAt { frames := 0, cells := 0, slots := 0, locals := 0 } [.ref 1, .int (nI j)] M (fun v M' => v = some (.ref (100 + j)) ∧ M' = M) := by
  refine mg_met [some (.ref 1), some (.int (nI j))] (by decide +kernel) rfl (Nat.le_of_ble_eq_true rfl) ?_
  intro X hR _
  refine mg_iload_n d_PS_generatorAt_0 rfl rfl ?_
  refine mg_if_lt (tgt := 30) d_PS_generatorAt_1 (by decide) (fun c_1 => ?_) (fun c_1 => ?_)
  · exact absurd c_1 (nI_pos (by omega))
  · refine mg_iload_n d_PS_generatorAt_4 rfl rfl ?_
    first | refine mg_aload_n d_PS_generatorAt_5 rfl rfl ?_ | refine mg_aload_nN d_PS_generatorAt_5 rfl rfl ?_
    refine mg_getfield fl_PS_44 d_PS_generatorAt_6 (by first | exact hO | exact hA) rfl ?_
    refine mg_icmp_ge (tgt := 30) d_PS_generatorAt_9 (by decide) (fun c_9 => ?_) (fun c_9 => ?_)
    · exact absurd c_9 (nI_ge hj (by omega))
    · refine mg_iload_n d_PS_generatorAt_12 rfl rfl ?_
      first | refine mg_aload_n d_PS_generatorAt_13 rfl rfl ?_ | refine mg_aload_nN d_PS_generatorAt_13 rfl rfl ?_
      refine mg_getfield fl_PS_11 d_PS_generatorAt_14 (by first | exact hO | exact hA) rfl ?_
      refine mg_arrlen (v := nI 20) rfl d_PS_generatorAt_17 (by first | exact hO | exact hA) rfl ?_
      refine mg_icmp_ge (tgt := 30) d_PS_generatorAt_18 (by decide) (fun c_18 => ?_) (fun c_18 => ?_)
      · exact absurd c_18 (nI_ge (by omega : j < 20) (by decide))
      · have hin : vp_in (nI j) 20 := vp_in_nI (by omega) (by decide)
        first | refine mg_aload_n d_PS_generatorAt_21 rfl rfl ?_ | refine mg_aload_nN d_PS_generatorAt_21 rfl rfl ?_
        refine mg_getfield fl_PS_11 d_PS_generatorAt_22 (by first | exact hO | exact hA) rfl ?_
        refine mg_iload_n d_PS_generatorAt_25 rfl rfl ?_
        refine mg_aaload rfl d_PS_generatorAt_26 hA hin ?_
        refine mg_eqv (gA_in hj (by omega)) ?_
        refine mg_goto (tgt := 31) d_PS_generatorAt_27 (by decide) ?_
        exact mg_areturn d_PS_generatorAt_31 rfl (Or.inr ⟨_, rfl⟩) (Nat.le_of_ble_eq_true rfl) (Nat.le_of_ble_eq_true rfl) ⟨rfl, rfl⟩

set_option maxHeartbeats 4000000 in
set_option maxRecDepth 100000 in
theorem c_PS_generatorAt_out {M : mg_M} {ng np nk : Nat} {lk fg fp : Value} {wa fv : Int32} {le : Bool} {sm0 : Int64} {i : Int32} (hO : M 1 = some (psF ng np lk nk wa fg fp fv le sm0)) (hi : i < 0 ∨ nI ng ≤ i) : mg_Ct Y_PS_generatorAt { frames := 0, cells := 0, slots := 0, locals := 0 } [.ref 1, .int i] M (fun v M' => v = some .null ∧ M' = M) := by
  refine mg_met [some (.ref 1), some (.int i)] (by decide +kernel) rfl (Nat.le_of_ble_eq_true rfl) ?_
  intro X hR _
  refine mg_iload_n d_PS_generatorAt_0 rfl rfl ?_
  refine mg_if_lt (tgt := 30) d_PS_generatorAt_1 (by decide) (fun c_1 => ?_) (fun c_1 => ?_)
  · refine mg_aconst_null d_PS_generatorAt_30 ?_
    exact mg_areturn d_PS_generatorAt_31 rfl (Or.inl rfl) (Nat.le_of_ble_eq_true rfl) (Nat.le_of_ble_eq_true rfl) ⟨rfl, rfl⟩
  · refine mg_iload_n d_PS_generatorAt_4 rfl rfl ?_
    first | refine mg_aload_n d_PS_generatorAt_5 rfl rfl ?_ | refine mg_aload_nN d_PS_generatorAt_5 rfl rfl ?_
    refine mg_getfield fl_PS_44 d_PS_generatorAt_6 hO rfl ?_
    refine mg_icmp_ge (tgt := 30) d_PS_generatorAt_9 (by decide) (fun c_9 => ?_) (fun c_9 => ?_)
    · refine mg_aconst_null d_PS_generatorAt_30 ?_
      exact mg_areturn d_PS_generatorAt_31 rfl (Or.inl rfl) (Nat.le_of_ble_eq_true rfl) (Nat.le_of_ble_eq_true rfl) ⟨rfl, rfl⟩
    · exact absurd hi (fun h => h.elim c_1 c_9)

set_option maxHeartbeats 4000000 in
set_option maxRecDepth 100000 in
theorem c_PS_propertyAt_in {M : mg_M} {ng np nk : Nat} {lk fg fp : Value} {wa fv : Int32} {le : Bool} {sm0 : Int64} {j : Nat} (hO : M 1 = some (psF ng np lk nk wa fg fp fv le sm0)) (hA : M 3 = some (arE 2 10 (gA 150 np))) (hj : j < np) (hn : np ≤ 10) : mg_Ct Y_PS_propertyAt { frames := 0, cells := 0, slots := 0, locals := 0 } [.ref 1, .int (nI j)] M (fun v M' => v = some (.ref (150 + j)) ∧ M' = M) := by
  refine mg_met [some (.ref 1), some (.int (nI j))] (by decide +kernel) rfl (Nat.le_of_ble_eq_true rfl) ?_
  intro X hR _
  refine mg_iload_n d_PS_propertyAt_0 rfl rfl ?_
  refine mg_if_lt (tgt := 30) d_PS_propertyAt_1 (by decide) (fun c_1 => ?_) (fun c_1 => ?_)
  · exact absurd c_1 (nI_pos (by omega))
  · refine mg_iload_n d_PS_propertyAt_4 rfl rfl ?_
    first | refine mg_aload_n d_PS_propertyAt_5 rfl rfl ?_ | refine mg_aload_nN d_PS_propertyAt_5 rfl rfl ?_
    refine mg_getfield fl_PS_55 d_PS_propertyAt_6 (by first | exact hO | exact hA) rfl ?_
    refine mg_icmp_ge (tgt := 30) d_PS_propertyAt_9 (by decide) (fun c_9 => ?_) (fun c_9 => ?_)
    · exact absurd c_9 (nI_ge hj (by omega))
    · refine mg_iload_n d_PS_propertyAt_12 rfl rfl ?_
      first | refine mg_aload_n d_PS_propertyAt_13 rfl rfl ?_ | refine mg_aload_nN d_PS_propertyAt_13 rfl rfl ?_
      refine mg_getfield fl_PS_17 d_PS_propertyAt_14 (by first | exact hO | exact hA) rfl ?_
      refine mg_arrlen (v := nI 10) rfl d_PS_propertyAt_17 (by first | exact hO | exact hA) rfl ?_
      refine mg_icmp_ge (tgt := 30) d_PS_propertyAt_18 (by decide) (fun c_18 => ?_) (fun c_18 => ?_)
      · exact absurd c_18 (nI_ge (by omega : j < 10) (by decide))
      · have hin : vp_in (nI j) 10 := vp_in_nI (by omega) (by decide)
        first | refine mg_aload_n d_PS_propertyAt_21 rfl rfl ?_ | refine mg_aload_nN d_PS_propertyAt_21 rfl rfl ?_
        refine mg_getfield fl_PS_17 d_PS_propertyAt_22 (by first | exact hO | exact hA) rfl ?_
        refine mg_iload_n d_PS_propertyAt_25 rfl rfl ?_
        refine mg_aaload rfl d_PS_propertyAt_26 hA hin ?_
        refine mg_eqv (gA_in hj (by omega)) ?_
        refine mg_goto (tgt := 31) d_PS_propertyAt_27 (by decide) ?_
        exact mg_areturn d_PS_propertyAt_31 rfl (Or.inr ⟨_, rfl⟩) (Nat.le_of_ble_eq_true rfl) (Nat.le_of_ble_eq_true rfl) ⟨rfl, rfl⟩

set_option maxHeartbeats 4000000 in
set_option maxRecDepth 100000 in
theorem c_PS_propertyAt_out {M : mg_M} {ng np nk : Nat} {lk fg fp : Value} {wa fv : Int32} {le : Bool} {sm0 : Int64} {i : Int32} (hO : M 1 = some (psF ng np lk nk wa fg fp fv le sm0)) (hi : i < 0 ∨ nI np ≤ i) : mg_Ct Y_PS_propertyAt { frames := 0, cells := 0, slots := 0, locals := 0 } [.ref 1, .int i] M (fun v M' => v = some .null ∧ M' = M) := by
  refine mg_met [some (.ref 1), some (.int i)] (by decide +kernel) rfl (Nat.le_of_ble_eq_true rfl) ?_
  intro X hR _
  refine mg_iload_n d_PS_propertyAt_0 rfl rfl ?_
  refine mg_if_lt (tgt := 30) d_PS_propertyAt_1 (by decide) (fun c_1 => ?_) (fun c_1 => ?_)
  · refine mg_aconst_null d_PS_propertyAt_30 ?_
    exact mg_areturn d_PS_propertyAt_31 rfl (Or.inl rfl) (Nat.le_of_ble_eq_true rfl) (Nat.le_of_ble_eq_true rfl) ⟨rfl, rfl⟩
  · refine mg_iload_n d_PS_propertyAt_4 rfl rfl ?_
    first | refine mg_aload_n d_PS_propertyAt_5 rfl rfl ?_ | refine mg_aload_nN d_PS_propertyAt_5 rfl rfl ?_
    refine mg_getfield fl_PS_55 d_PS_propertyAt_6 hO rfl ?_
    refine mg_icmp_ge (tgt := 30) d_PS_propertyAt_9 (by decide) (fun c_9 => ?_) (fun c_9 => ?_)
    · refine mg_aconst_null d_PS_propertyAt_30 ?_
      exact mg_areturn d_PS_propertyAt_31 rfl (Or.inl rfl) (Nat.le_of_ble_eq_true rfl) (Nat.le_of_ble_eq_true rfl) ⟨rfl, rfl⟩
    · exact absurd hi (fun h => h.elim c_1 c_9)

def vdS (p : pN) (σ : dS) : Int32 := if σ.2.2.1 = true then 4 else vdF p σ.2.1
def runR (gs : List gN) (ys : List Int32) (z : Int32) (i : Nat) (x : Int64) (lm : Nat → Int32) : dS := giveF gs (0, ys, z) 8 i ([], [], false, x, lm)
set_option maxHeartbeats 4000000 in
set_option maxRecDepth 100000 in
theorem c_PS_verdict {M : mg_M} {ng np nk : Nat} {lk fg fp : Value} {wa fv : Int32} {le : Bool} {sm0 : Int64} {hp : Nat} {p : pN} {md : dM} {σ : dS} (hO : M 1 = some (psF ng np lk nk wa fg fp fv le sm0)) (hD : isD M 12 md σ) (hP : M hp = some (prE p)) : mg_Ct Y_PS_verdictOfDraws { frames := 3, cells := 0, slots := 0, locals := 67 } [.ref 1, .ref hp] M (fun v M' => v = some (.int (vdS p σ)) ∧ M' = M) := by
  obtain ⟨cs, ns, il, x, lm⟩ := σ
  obtain ⟨kd, kk, kc⟩ := p
  refine mg_met [some (.ref 1), some (.ref hp)] (by decide +kernel) rfl (Nat.le_of_ble_eq_true rfl) ?_
  intro X hR _
  first | refine mg_aload_n d_PS_verdictOfDraws_0 rfl rfl ?_ | refine mg_aload_nN d_PS_verdictOfDraws_0 rfl rfl ?_
  refine mg_getfield fl_PS_40 d_PS_verdictOfDraws_1 (by first | exact hO | exact hD.1) rfl ?_
  refine mg_getfield fl_PS_149 d_PS_verdictOfDraws_4 (by first | exact hO | exact hD.1) rfl ?_
  refine mg_if_eq (tgt := 14) d_PS_verdictOfDraws_7 (by decide) (fun c_7 => ?_) (fun c_7 => ?_)
  · obtain rfl := bI_f c_7
    first | refine mg_aload_n d_PS_verdictOfDraws_14 rfl rfl ?_ | refine mg_aload_nN d_PS_verdictOfDraws_14 rfl rfl ?_
    first | refine mg_aload_n d_PS_verdictOfDraws_15 rfl rfl ?_ | refine mg_aload_nN d_PS_verdictOfDraws_15 rfl rfl ?_
    refine mg_getfield fl_PS_40 d_PS_verdictOfDraws_16 (by first | exact hO | exact hD.1) rfl ?_
    refine mg_getfield fl_PS_122 d_PS_verdictOfDraws_19 (by first | exact hO | exact hD.1) rfl ?_
    refine mg_callV (vl_PS_197 rfl) d_PS_verdictOfDraws_22 hP rfl rfl (c_Pr_judge hP hD.2.2.1) rfl rfl (by rw [hR]; decide) (by rw [hR]; decide) (Nat.le_of_ble_eq_true rfl) ?_
    rintro v M2 ⟨rfl, rfl⟩
    exact mg_ireturn d_PS_verdictOfDraws_25 rfl rfl (Nat.le_of_ble_eq_true rfl) (Nat.le_of_ble_eq_true rfl) ⟨by simp only [vdS]; rfl, rfl⟩
  · obtain rfl := bI_t c_7
    refine mg_iconst (v := 4) d_PS_verdictOfDraws_10 (by decide) ?_
    refine mg_goto (tgt := 25) d_PS_verdictOfDraws_11 (by decide) ?_
    exact mg_ireturn d_PS_verdictOfDraws_25 rfl rfl (Nat.le_of_ble_eq_true rfl) (Nat.le_of_ble_eq_true rfl) ⟨by simp only [vdS, if_true], rfl⟩

theorem gv_PS {Y : mg_Y} (h : mg_own Y = "PropertyShrink") : mg_GV Y 145 := ⟨ul_PS_145_IR h, ul_PS_145_LO h, ul_PS_145_PO h, ul_PS_145_OO h, ul_PS_145_KO h, ul_PS_145_AT h⟩
theorem wf_dp {gs : List gN} (hw : wfG gs) {i : Nat} {g : gN} (hg : gs[i]? = some g) : g.1 ≤ 5 ∧ g.2.2.2 ≤ 8 := by
  obtain ⟨k, a, b, dp⟩ := g
  have h := hw.2 i k a b dp hg
  exact ⟨h.1, h.2.2.1⟩
set_option maxHeartbeats 4000000 in
set_option maxRecDepth 100000 in
theorem c_PS_replayRow {M : mg_M} {ng np nk : Nat} {lk fg fp : Value} {wa fv : Int32} {le : Bool} {sm0 : Int64} {gs : List gN} {i hp h : Nat} {g : gN} {p : pN} {how z : Int32} {gv cs ns ys : List Int32} {il : Bool} {x : Int64} {lm : Nat → Int32} (hw : wfG gs) (hg : gs[i]? = some g) (hO : M 1 = some (psF ng np lk nk wa fg fp fv le sm0)) (hG : isG M gs) (hD : isD M 12 (how, gv, z) (cs, ns, il, x, lm)) (hP : M hp = some (prE p)) (hp0 : 20 ≤ hp) (hY : isI M h ys) (hh : h + 2 ≤ 12 ∨ 20 ≤ h) : mg_Ct Y_PS_replayRow { frames := 11, cells := 0, slots := 0, locals := 259 } [.ref 1, .ref (100 + i), .ref hp, .ref h] M (fun v M' => v = some (.int (vdS p (runR gs ys z i x lm))) ∧ isD M' 12 (0, ys, z) (runR gs ys z i x lm) ∧ sm 12 20 M M') := by
  refine mg_met [some (.ref 1), some (.ref (100 + i)), some (.ref hp), some (.ref h)] (by decide +kernel) rfl (Nat.le_of_ble_eq_true rfl) ?_
  intro X hR _
  first | refine mg_aload_n d_PS_replayRow_0 rfl rfl ?_ | refine mg_aload_nN d_PS_replayRow_0 rfl rfl ?_
  refine mg_getfield fl_PS_40 d_PS_replayRow_1 hO rfl ?_
  first | refine mg_aload_n d_PS_replayRow_4 rfl rfl ?_ | refine mg_aload_nN d_PS_replayRow_4 rfl rfl ?_
  refine mg_callV (vl_PS_190 rfl) d_PS_replayRow_5 hD.1 rfl rfl (c_Dr_beginRow hD hY hh) rfl rfl (by rw [hR]; decide) (by rw [hR]; decide) (Nat.le_of_ble_eq_true rfl) ?_
  rintro v M2 ⟨rfl, hD2, hs2⟩
  have hO2 := (hs2 1 (by omega)).trans hO
  have hG2 := hG.fr hs2 (by omega)
  first | refine mg_aload_n d_PS_replayRow_8 rfl rfl ?_ | refine mg_aload_nN d_PS_replayRow_8 rfl rfl ?_
  first | refine mg_aload_n d_PS_replayRow_9 rfl rfl ?_ | refine mg_aload_nN d_PS_replayRow_9 rfl rfl ?_
  refine mg_getfield fl_PS_40 d_PS_replayRow_10 hO2 rfl ?_
  refine mg_callG (gv_PS rfl) d_PS_replayRow_13 hG2 hg (wf_dp hw hg).1 (c_give hw _ 8 i g hg (wf_dp hw hg).2 8 _ _ (wf_dp hw hg).2 hG2 hD2) rfl (by rw [hR]; have := (wf_dp hw hg).2; constructor <;> simp only [] <;> omega) (by rw [hR]; exact ⟨Nat.le_of_ble_eq_true rfl, Nat.le_of_ble_eq_true rfl⟩) (Nat.le_of_ble_eq_true rfl) ?_
  rintro v M3 ⟨rfl, hD3, hs3⟩
  have hO3 := (hs3 1 (by omega)).trans hO2
  have hP3 := (hs3 hp (by omega)).trans ((hs2 hp (by omega)).trans hP)
  first | refine mg_aload_n d_PS_replayRow_16 rfl rfl ?_ | refine mg_aload_nN d_PS_replayRow_16 rfl rfl ?_
  first | refine mg_aload_n d_PS_replayRow_17 rfl rfl ?_ | refine mg_aload_nN d_PS_replayRow_17 rfl rfl ?_
  refine mg_callV (vl_PS_193 rfl) d_PS_replayRow_18 hO3 rfl rfl (c_PS_verdict hO3 hD3 hP3) rfl rfl (by rw [hR]; decide) (by rw [hR]; decide) (Nat.le_of_ble_eq_true rfl) ?_
  rintro v M4 ⟨rfl, rfl⟩
  exact mg_ireturn d_PS_replayRow_21 rfl rfl (Nat.le_of_ble_eq_true rfl) (Nat.le_of_ble_eq_true rfl) ⟨rfl, hD3, hs2.tr hs3⟩

set_option maxHeartbeats 4000000 in
set_option maxRecDepth 100000 in
theorem c_PS_takeRow {M : mg_M} {ng np nk : Nat} {lk fg fp : Value} {wa fv : Int32} {le : Bool} {sm0 : Int64} {md : dM} {σ : dS} {rw0 nu : List Int32} (hO : M 1 = some (psF ng np lk nk wa fg fp fv le sm0)) (hD : isD M 12 md σ) (hI : isI M 4 rw0) (hN : isI M 6 nu) : mg_Ct Y_PS_takeRow { frames := 3, cells := 0, slots := 0, locals := 67 } [.ref 1] M (fun v M' => v = none ∧ isI M' 4 σ.1 ∧ isI M' 6 σ.2.1 ∧ sm 4 8 M M') := by
  refine mg_met [some (.ref 1)] (by decide +kernel) rfl (Nat.le_of_ble_eq_true rfl) ?_
  intro X hR _
  first | refine mg_aload_n d_PS_takeRow_0 rfl rfl ?_ | refine mg_aload_nN d_PS_takeRow_0 rfl rfl ?_
  refine mg_getfield fl_PS_24 d_PS_takeRow_1 (by first | exact hO | exact hD.1) rfl ?_
  first | refine mg_aload_n d_PS_takeRow_4 rfl rfl ?_ | refine mg_aload_nN d_PS_takeRow_4 rfl rfl ?_
  refine mg_getfield fl_PS_40 d_PS_takeRow_5 (by first | exact hO | exact hD.1) rfl ?_
  refine mg_getfield fl_PS_227 d_PS_takeRow_8 (by first | exact hO | exact hD.1) rfl ?_
  refine mg_callV (vl_PS_123 rfl) d_PS_takeRow_11 (by obtain ⟨_, e1, -⟩ := hI; exact e1) rfl rfl (c_In_copyFrom hI hD.2.1 (by omega)) rfl rfl (by rw [hR]; decide) (by rw [hR]; decide) (Nat.le_of_ble_eq_true rfl) ?_
  rintro v M2 ⟨rfl, hI2, hs2⟩
  have hO2 := (hs2 1 (by omega)).trans hO
  have hD2 := hD.fr hs2 (by omega)
  have hN2 := hN.sm hs2 (by omega)
  first | refine mg_aload_n d_PS_takeRow_14 rfl rfl ?_ | refine mg_aload_nN d_PS_takeRow_14 rfl rfl ?_
  refine mg_getfield fl_PS_28 d_PS_takeRow_15 hO2 rfl ?_
  first | refine mg_aload_n d_PS_takeRow_18 rfl rfl ?_ | refine mg_aload_nN d_PS_takeRow_18 rfl rfl ?_
  refine mg_getfield fl_PS_40 d_PS_takeRow_19 hO2 rfl ?_
  refine mg_getfield fl_PS_122 d_PS_takeRow_22 hD2.1 rfl ?_
  refine mg_callV (vl_PS_123 rfl) d_PS_takeRow_25 (by obtain ⟨_, e1, -⟩ := hN2; exact e1) rfl rfl (c_In_copyFrom hN2 hD2.2.2.1 (by omega)) rfl rfl (by rw [hR]; decide) (by rw [hR]; decide) (Nat.le_of_ble_eq_true rfl) ?_
  rintro v M3 ⟨rfl, hN3, hs3⟩
  exact mg_return d_PS_takeRow_28 rfl (Nat.le_of_ble_eq_true rfl) (Nat.le_of_ble_eq_true rfl) ⟨rfl, hI2.sm hs3 (by omega), hN3, (hs2.wd (by omega) (by omega)).tr (hs3.wd (by omega) (by omega))⟩

set_option maxHeartbeats 4000000 in
set_option maxRecDepth 100000 in
theorem c_PS_takeFound {M : mg_M} {ng np nk : Nat} {lk fg fp : Value} {wa fv : Int32} {le : Bool} {sm0 : Int64} {md : dM} {σ : dS} {rw0 nu : List Int32} {gg pp : Nat} {vv : Int32} (hO : M 1 = some (psF ng np lk nk wa fg fp fv le sm0)) (hD : isD M 12 md σ) (hI : isI M 4 rw0) (hN : isI M 6 nu) : mg_Ct Y_PS_takeFound { frames := 4, cells := 0, slots := 0, locals := 87 } [.ref 1, .ref gg, .ref pp, .int vv] M (fun v M' => v = none ∧ M' 1 = some (psF ng np lk nk wa (.ref gg) (.ref pp) vv false sm0) ∧ isI M' 4 σ.1 ∧ isI M' 6 σ.2.1 ∧ ∀ k, k ≠ 1 → (k < 4 ∨ 8 ≤ k) → M' k = M k) := by
  refine mg_met [some (.ref 1), some (.ref gg), some (.ref pp), some (.int vv)] (by decide +kernel) rfl (Nat.le_of_ble_eq_true rfl) ?_
  intro X hR _
  first | refine mg_aload_n d_PS_takeFound_0 rfl rfl ?_ | refine mg_aload_nN d_PS_takeFound_0 rfl rfl ?_
  first | refine mg_aload_n d_PS_takeFound_1 rfl rfl ?_ | refine mg_aload_nN d_PS_takeFound_1 rfl rfl ?_
  refine mg_putfield (fw_PS_92 _) d_PS_takeFound_2 hO (Nat.le_of_ble_eq_true rfl) (fun _ => ⟨rfl, rfl⟩) ?_
  first | refine mg_aload_n d_PS_takeFound_5 rfl rfl ?_ | refine mg_aload_nN d_PS_takeFound_5 rfl rfl ?_
  first | refine mg_aload_n d_PS_takeFound_6 rfl rfl ?_ | refine mg_aload_nN d_PS_takeFound_6 rfl rfl ?_
  refine mg_putfield (fw_PS_96 _) d_PS_takeFound_7 (mg_up_s _ _ _) (Nat.le_of_ble_eq_true rfl) (fun _ => ⟨rfl, rfl⟩) ?_
  rw [mg_up_up]
  first | refine mg_aload_n d_PS_takeFound_10 rfl rfl ?_ | refine mg_aload_nN d_PS_takeFound_10 rfl rfl ?_
  refine mg_iload_n d_PS_takeFound_11 rfl rfl ?_
  refine mg_putfield (fw_PS_115 _) d_PS_takeFound_12 (mg_up_s _ _ _) (Nat.le_of_ble_eq_true rfl) (fun _ => ⟨rfl, rfl⟩) ?_
  rw [mg_up_up]
  first | refine mg_aload_n d_PS_takeFound_15 rfl rfl ?_ | refine mg_aload_nN d_PS_takeFound_15 rfl rfl ?_
  refine mg_iconst (v := 0) d_PS_takeFound_16 (by decide) ?_
  refine mg_putfield (fw_PS_111 _) d_PS_takeFound_17 (mg_up_s _ _ _) (Nat.le_of_ble_eq_true rfl) (fun _ => ⟨rfl, rfl⟩) ?_
  rw [mg_up_up]
  refine mg_eqM (M' := mg_up M 1 (psF ng np lk nk wa (.ref gg) (.ref pp) vv false sm0)) rfl ?_
  first | refine mg_aload_n d_PS_takeFound_20 rfl rfl ?_ | refine mg_aload_nN d_PS_takeFound_20 rfl rfl ?_
  refine mg_callV (vl_PS_104 rfl) d_PS_takeFound_21 (mg_up_s _ _ _) rfl rfl (c_PS_takeRow (lk := lk) (nk := nk) (mg_up_s _ _ _) (hD.up (by omega)) (hI.up (by omega) (by omega)) (hN.up (by omega) (by omega))) rfl rfl (by rw [hR]; decide) (by rw [hR]; decide) (Nat.le_of_ble_eq_true rfl) ?_
  rintro v M2 ⟨rfl, hI2, hN2, hs2⟩
  exact mg_return d_PS_takeFound_24 rfl (Nat.le_of_ble_eq_true rfl) (Nat.le_of_ble_eq_true rfl) ⟨rfl, by rw [hs2 1 (by omega), mg_up_s], hI2, hN2, fun k h1 h2 => by rw [hs2 k (by omega), mg_up_n _ _ h1]⟩
end
section
/-! STEPS of a row -/
theorem pl_eq : ∀ l, l < 61 → ∀ N, N < 9 → (if (0 : Int32) < nI l - nI N + 1 then nI l - nI N + 1 else 0) = nI (l + 1 - N) := by decide +kernel
theorem hf_eq : ∀ N, N < 9 → nI N / 2 = nI (N / 2) := by decide +kernel
/-- made, or how far behind -/
abbrev sR : Type := List Int32 ⊕ Nat
def dropG (row : List Int32) : List Nat → Nat → sR
  | [], left => .inr left
  | N :: r, left => if left < row.length + 1 - N then .inl (cutL row left N) else dropG row r (left - (row.length + 1 - N))
def lowI (v : Int32) (way : Nat) : Int32 := if way = 0 then 0 else if way = 1 then v / 2 else v - 1
def waysN (v : Int32) : Nat := min v.toNatClampNeg 3
def lowG (row : List Int32) : Nat → Nat → Nat → sR
  | 0, _, left => .inr left
  | n + 1, i, left => if left < waysN (row.getD i 0) then .inl (row.set i (lowI (row.getD i 0) left)) else lowG row n (i + 1) (left - waysN (row.getD i 0))
def swapG (row : List Int32) : Nat → Nat → Nat → sR
  | 0, _, left => .inr left
  | n + 1, i, left => if row.getD (i + 1) 0 < row.getD i 0 then (if left = 0 then .inl ((row.set i (row.getD (i + 1) 0)).set (i + 1) (row.getD i 0)) else swapG row n (i + 1) (left - 1)) else swapG row n (i + 1) left
def stepF (row : List Int32) (w : Nat) : Option (List Int32) := match dropG row [8, 4, 2, 1] w with
  | .inl l => some l
  | .inr a => match lowG row row.length 0 a with
    | .inl l => some l
    | .inr b => match swapG row (row.length - 1) 0 b with
      | .inl l => some l
      | .inr _ => none
def sP (M : mg_M) (r : sR) : Option Value → mg_M → Prop := fun v M' => match r with
  | .inl l => v = some (.int (-1)) ∧ isI M' 10 l ∧ sm 10 12 M M'
  | .inr n => v = some (.int (nI n)) ∧ M' = M
def nnL (l : List Int32) : Prop := ∀ x ∈ l, ¬ x < 0
theorem nnL.at {l : List Int32} (h : nnL l) (i : Nat) : ¬ l.getD i 0 < 0 := by
  rcases Nat.lt_or_ge i l.length with q | q
  · have : l.getD i 0 ∈ l := by rw [List.getD_eq_getElem?_getD]; simp [q]
    exact h _ this
  · rw [List.getD_eq_getElem?_getD, List.getElem?_eq_none q]; decide
theorem min3 {v : Int32} (h : ¬ v < 0) : (if (3 : Int32) < v then 3 else v) = nI (waysN v) := by
  obtain ⟨j, hj, rfl⟩ := nI_of h
  unfold waysN
  rw [nI_clamp hj]
  by_cases h3 : 3 < j
  · rw [if_pos (show (3 : Int32) < nI j from nI_lt (a := 3) h3 hj), Nat.min_eq_right (by omega)]; rfl
  · rw [if_neg (show ¬ (3 : Int32) < nI j from nI_nlt (b := j) (a := 3) (by omega) (by decide)), Nat.min_eq_left (by omega)]

set_option maxHeartbeats 4000000 in
set_option maxRecDepth 100000 in
theorem c_PS_lowered {M : mg_M} {v0 : Int32} {way : Nat} (hw : way < 2 ^ 31) : mg_Ct Y_PS_lowered { frames := 0, cells := 0, slots := 0, locals := 0 } [.int v0, .int (nI way)] M (fun v M' => v = some (.int (lowI v0 way)) ∧ M' = M) := by
  refine mg_met [some (.int v0), some (.int (nI way))] (by decide +kernel) rfl (Nat.le_of_ble_eq_true rfl) ?_
  intro X hR _
  refine mg_iload_n d_PS_lowered_0 rfl rfl ?_
  by_cases h0 : way = 0
  · subst h0
    refine mg_lookup (off := 27) (tgt := 28) d_PS_lowered_1 (by decide) rfl (by decide) ?_
    refine mg_iconst (v := 0) d_PS_lowered_28 (by decide) ?_
    exact mg_ireturn d_PS_lowered_29 rfl rfl (Nat.le_of_ble_eq_true rfl) (Nat.le_of_ble_eq_true rfl) ⟨rfl, rfl⟩
  · have n0 : ¬ nI way = 0 := nI_ne0 (by omega) hw
    by_cases h1 : way = 1
    · subst h1
      refine mg_lookup (off := 29) (tgt := 30) d_PS_lowered_1 (by decide) rfl (by decide) ?_
      refine mg_iload_n d_PS_lowered_30 rfl rfl ?_
      refine mg_iconst (v := 2) d_PS_lowered_31 (by decide) ?_
      refine mg_idiv d_PS_lowered_32 (by first | assumption | decide) ?_
      exact mg_ireturn d_PS_lowered_33 rfl rfl (Nat.le_of_ble_eq_true rfl) (Nat.le_of_ble_eq_true rfl) ⟨rfl, rfl⟩
    · have n1 : ¬ nI way = 1 := fun h => h1 ((nI_eq (b := 1) hw (by decide)).mp h)
      refine mg_lookup (off := 33) (tgt := 34) d_PS_lowered_1 (by decide) ((lv_osw (k := 0) n0 (by decide)).trans (lv_osw (k := 1) n1 (by decide))) (by decide) ?_
      refine mg_iload_n d_PS_lowered_34 rfl rfl ?_
      refine mg_iconst (v := 1) d_PS_lowered_35 (by decide) ?_
      refine mg_isub d_PS_lowered_36 ?_
      exact mg_ireturn d_PS_lowered_37 rfl rfl (Nat.le_of_ble_eq_true rfl) (Nat.le_of_ble_eq_true rfl) ⟨by simp only [lowI, if_neg h0, if_neg h1], rfl⟩

set_option maxHeartbeats 4000000 in
set_option maxRecDepth 100000 in
theorem lp_drop {X : mg_X} {M : mg_M} {ng np nk : Nat} {lk fg fp : Value} {wa fv : Int32} {le : Bool} {sm0 : Int64} {row st : List Int32} {r : sR} {w : Int32} (hR : mg_R X = { frames := 2, cells := 0, slots := 0, locals := 46 }) (hO : M 1 = some (psF ng np lk nk wa fg fp fv le sm0)) (hI : isI M 4 row) (hS : isI M 10 st) {N : Nat} {rest : List Nat} (hN : 1 ≤ N) (hN8 : N ≤ 8) (kk : ∀ (left : Nat) (t : Option Value), left < 2 ^ 30 → dropG row rest left = r → mg_G X Y_PS_makeDrop (mg_Q X (sP M r) { frames := 2, cells := 0, slots := 0, locals := 46 }) M 0 0 5 [some (.ref 1), some (.int w), some (.int (nI left)), some (.int (nI (N / 2))), t] []) (left : Nat) (t : Option Value) (hl : left < 2 ^ 30) (hr : dropG row (N :: rest) left = r) : mg_G X Y_PS_makeDrop (mg_Q X (sP M r) { frames := 2, cells := 0, slots := 0, locals := 46 }) M 0 0 5 [some (.ref 1), some (.int w), some (.int (nI left)), some (.int (nI N)), t] [] := by
  refine mg_iload_n d_PS_makeDrop_5 rfl rfl ?_
  refine mg_iconst (v := 1) d_PS_makeDrop_6 (by decide) ?_
  refine mg_icmp_lt (tgt := 60) d_PS_makeDrop_7 (by decide) (fun c_7 => ?_) (fun c_7 => ?_)
  · exact absurd c_7 (nI_nlt (b := 1) (a := N) (by omega) (by omega))
  · refine mg_iconst (v := 0) d_PS_makeDrop_10 (by decide) ?_
    first | refine mg_aload_n d_PS_makeDrop_11 rfl rfl ?_ | refine mg_aload_nN d_PS_makeDrop_11 rfl rfl ?_
    refine mg_getfield fl_PS_24 d_PS_makeDrop_12 hO rfl ?_
    refine mg_callV (vl_PS_134 rfl) d_PS_makeDrop_15 (by obtain ⟨_, e1, -⟩ := hI; exact e1) rfl rfl (c_In_length hI) rfl rfl (by rw [hR]; decide) (by rw [hR]; decide) (Nat.le_of_ble_eq_true rfl) ?_
    rintro v M2 ⟨rfl, rfl⟩
    refine mg_iload_n d_PS_makeDrop_18 rfl rfl ?_
    refine mg_isub d_PS_makeDrop_19 ?_
    refine mg_iconst (v := 1) d_PS_makeDrop_20 (by decide) ?_
    refine mg_iadd d_PS_makeDrop_21 ?_
    refine mg_max ml_PS_238 mt_max_s mt_init mt_max_c d_PS_makeDrop_22 (by rw [hR]; decide) (by rw [hR]; exact Nat.le_of_ble_eq_true rfl) (by rw [hR]; exact Nat.le_of_ble_eq_true rfl) (by rw [hR]; exact Nat.le_of_ble_eq_true rfl) ?_
    refine mg_eqi (pl_eq row.length (by have := hI.le; omega) N (by omega)) ?_
    refine mg_istore d_PS_makeDrop_25 (Nat.le_of_ble_eq_true rfl) rfl ?_
    refine mg_iload_n d_PS_makeDrop_27 rfl rfl ?_
    refine mg_iload d_PS_makeDrop_28 rfl ?_
    refine mg_icmp_ge (tgt := 48) d_PS_makeDrop_30 (by decide) (fun c_30 => ?_) (fun c_30 => ?_)
    · have hge : ¬ left < row.length + 1 - N := fun h => absurd c_30 (nI_ge h (by have := hI.le; omega))
      rw [dropG, if_neg hge] at hr
      refine mg_iload_n d_PS_makeDrop_48 rfl rfl ?_
      refine mg_iload d_PS_makeDrop_49 rfl ?_
      refine mg_isub d_PS_makeDrop_51 ?_
      refine mg_eqi (pk_sub (by omega)) ?_
      refine mg_istore_n d_PS_makeDrop_52 rfl (Nat.le_of_ble_eq_true rfl) rfl ?_
      refine mg_iload_n d_PS_makeDrop_53 rfl rfl ?_
      refine mg_iconst (v := 2) d_PS_makeDrop_54 (by decide) ?_
      refine mg_idiv d_PS_makeDrop_55 (by decide) ?_
      refine mg_eqi (hf_eq N (by omega)) ?_
      refine mg_istore_n d_PS_makeDrop_56 rfl (Nat.le_of_ble_eq_true rfl) rfl ?_
      refine mg_goto (tgt := 5) d_PS_makeDrop_57 (by decide) ?_
      exact kk _ _ (by omega) hr
    · have hlt : left < row.length + 1 - N := by
        rcases Nat.lt_or_ge left (row.length + 1 - N) with q | q
        · exact q
        · exact absurd (nI_le q (by omega)) c_30
      rw [dropG, if_pos hlt] at hr
      subst hr
      first | refine mg_aload_n d_PS_makeDrop_33 rfl rfl ?_ | refine mg_aload_nN d_PS_makeDrop_33 rfl rfl ?_
      refine mg_getfield fl_PS_34 d_PS_makeDrop_34 hO rfl ?_
      first | refine mg_aload_n d_PS_makeDrop_37 rfl rfl ?_ | refine mg_aload_nN d_PS_makeDrop_37 rfl rfl ?_
      refine mg_getfield fl_PS_24 d_PS_makeDrop_38 hO rfl ?_
      refine mg_iload_n d_PS_makeDrop_41 rfl rfl ?_
      refine mg_iload_n d_PS_makeDrop_42 rfl rfl ?_
      refine mg_callV (vl_PS_243 rfl) d_PS_makeDrop_43 (by obtain ⟨_, e1, -⟩ := hS; exact e1) rfl rfl (c_In_copyWithout (a := left) (b := N) hS hI (by omega) (by have := hI.le; omega)) rfl rfl (by rw [hR]; decide) (by rw [hR]; decide) (Nat.le_of_ble_eq_true rfl) ?_
      rintro v M3 ⟨rfl, hI3, hs3⟩
      refine mg_iconst (v := -1) d_PS_makeDrop_46 (by decide) ?_
      exact mg_ireturn d_PS_makeDrop_47 rfl rfl (Nat.le_of_ble_eq_true rfl) (Nat.le_of_ble_eq_true rfl) ⟨rfl, hI3, hs3⟩

set_option maxHeartbeats 4000000 in
set_option maxRecDepth 100000 in
theorem c_PS_makeDrop {M : mg_M} {ng np nk : Nat} {lk fg fp : Value} {wa fv : Int32} {le : Bool} {sm0 : Int64} {row st : List Int32} {w : Nat} (hO : M 1 = some (psF ng np lk nk wa fg fp fv le sm0)) (hI : isI M 4 row) (hS : isI M 10 st) (hw : w < 2 ^ 30) : mg_Ct Y_PS_makeDrop { frames := 2, cells := 0, slots := 0, locals := 46 } [.ref 1, .int (nI w)] M (sP M (dropG row [8, 4, 2, 1] w)) := by
  refine mg_met [some (.ref 1), some (.int (nI w)), none, none, none] (by decide +kernel) rfl (Nat.le_of_ble_eq_true rfl) ?_
  intro X hR _
  refine mg_iload_n d_PS_makeDrop_0 rfl rfl ?_
  refine mg_istore_n d_PS_makeDrop_1 rfl (Nat.le_of_ble_eq_true rfl) rfl ?_
  refine mg_bipush (v := 8) d_PS_makeDrop_2 (by decide) ?_
  refine mg_istore_n d_PS_makeDrop_4 rfl (Nat.le_of_ble_eq_true rfl) rfl ?_
  refine lp_drop (N := 8) hR hO hI hS (by decide) (by decide) (fun l1 t1 b1 e1 => ?_) w none hw rfl
  refine lp_drop (N := 4) hR hO hI hS (by decide) (by decide) (fun l2 t2 b2 e2 => ?_) l1 t1 b1 e1
  refine lp_drop (N := 2) hR hO hI hS (by decide) (by decide) (fun l3 t3 b3 e3 => ?_) l2 t2 b2 e2
  refine lp_drop (N := 1) hR hO hI hS (by decide) (by decide) (fun l4 t4 b4 e4 => ?_) l3 t3 b3 e3
  rw [dropG] at e4
  rw [← e4]
  refine mg_iload_n d_PS_makeDrop_5 rfl rfl ?_
  refine mg_iconst (v := 1) d_PS_makeDrop_6 (by decide) ?_
  refine mg_icmp_lt (tgt := 60) d_PS_makeDrop_7 (by decide) (fun c_7 => ?_) (fun c_7 => absurd (by decide) c_7)
  refine mg_iload_n d_PS_makeDrop_60 rfl rfl ?_
  exact mg_ireturn d_PS_makeDrop_61 rfl rfl (Nat.le_of_ble_eq_true rfl) (Nat.le_of_ble_eq_true rfl) ⟨rfl, rfl⟩

set_option maxHeartbeats 4000000 in
set_option maxRecDepth 100000 in
theorem lp_low {X : mg_X} {M : mg_M} {ng np nk : Nat} {lk fg fp : Value} {wa fv : Int32} {le : Bool} {sm0 : Int64} {row st : List Int32} {r : sR} {w : Int32} (hR : mg_R X = { frames := 3, cells := 0, slots := 0, locals := 67 }) (hO : M 1 = some (psF ng np lk nk wa fg fp fv le sm0)) (hI : isI M 4 row) (hS : isI M 10 st) (hnn : nnL row) : ∀ (n i left : Nat) (t u : Option Value), i + n = row.length → left < 2 ^ 30 → lowG row n i left = r → mg_G X Y_PS_makeLowering (mg_Q X (sP M r) { frames := 3, cells := 0, slots := 0, locals := 67 }) M 0 0 4 [some (.ref 1), some (.int w), some (.int (nI left)), some (.int (nI i)), t, u] [] := by
  intro n
  induction n with
  | zero =>
    intro i left t u hi hl hr
    rw [lowG] at hr
    subst hr
    refine mg_iload_n d_PS_makeLowering_4 rfl rfl ?_
    refine mg_aload_n d_PS_makeLowering_5 rfl rfl ?_
    refine mg_getfield fl_PS_24 d_PS_makeLowering_6 hO rfl ?_
    refine mg_callV (vl_PS_134 rfl) d_PS_makeLowering_9 (by obtain ⟨_, e1, -⟩ := hI; exact e1) rfl rfl (c_In_length hI) rfl rfl (by rw [hR]; decide) (by rw [hR]; decide) (Nat.le_of_ble_eq_true rfl) ?_
    rintro v M2 ⟨rfl, rfl⟩
    refine mg_icmp_ge (tgt := 78) d_PS_makeLowering_12 (by decide) (fun c_12 => ?_) (fun c_12 => absurd (nI_le (by omega) (by have := hI.le; omega)) c_12)
    refine mg_iload_n d_PS_makeLowering_78 rfl rfl ?_
    exact mg_ireturn d_PS_makeLowering_79 rfl rfl (Nat.le_of_ble_eq_true rfl) (Nat.le_of_ble_eq_true rfl) ⟨rfl, rfl⟩
  | succ n ih =>
    intro i left t u hi hl hr
    refine mg_iload_n d_PS_makeLowering_4 rfl rfl ?_
    first | refine mg_aload_n d_PS_makeLowering_5 rfl rfl ?_ | refine mg_aload_nN d_PS_makeLowering_5 rfl rfl ?_
    refine mg_getfield fl_PS_24 d_PS_makeLowering_6 hO rfl ?_
    refine mg_callV (vl_PS_134 rfl) d_PS_makeLowering_9 (by obtain ⟨_, e1, -⟩ := hI; exact e1) rfl rfl (c_In_length hI) rfl rfl (by rw [hR]; decide) (by rw [hR]; decide) (Nat.le_of_ble_eq_true rfl) ?_
    rintro v M2 ⟨rfl, rfl⟩
    refine mg_icmp_ge (tgt := 78) d_PS_makeLowering_12 (by decide) (fun c_12 => ?_) (fun c_12 => ?_)
    · exact absurd c_12 (nI_ge (by omega : i < row.length) (by have := hI.le; omega))
    · first | refine mg_aload_n d_PS_makeLowering_15 rfl rfl ?_ | refine mg_aload_nN d_PS_makeLowering_15 rfl rfl ?_
      refine mg_getfield fl_PS_24 d_PS_makeLowering_16 hO rfl ?_
      refine mg_iload_n d_PS_makeLowering_19 rfl rfl ?_
      refine mg_iconst (v := 0) d_PS_makeLowering_20 (by decide) ?_
      refine mg_callV (vl_PS_130 rfl) d_PS_makeLowering_21 (by obtain ⟨_, e1, -⟩ := hI; exact e1) rfl rfl (c_In_at hI) rfl rfl (by rw [hR]; decide) (by rw [hR]; decide) (Nat.le_of_ble_eq_true rfl) ?_
      rintro v M2 ⟨rfl, rfl⟩
      refine mg_eqi (atI_in hI.le (by omega : i < row.length)) ?_
      refine mg_istore d_PS_makeLowering_24 (Nat.le_of_ble_eq_true rfl) rfl ?_
      refine mg_iload d_PS_makeLowering_26 rfl ?_
      refine mg_iconst (v := 3) d_PS_makeLowering_28 (by decide) ?_
      refine mg_min ml_PS_247 mt_min_s mt_init mt_min_c d_PS_makeLowering_29 (by rw [hR]; decide) (by rw [hR]; exact Nat.le_of_ble_eq_true rfl) (by rw [hR]; exact Nat.le_of_ble_eq_true rfl) (by rw [hR]; exact Nat.le_of_ble_eq_true rfl) ?_
      refine mg_eqi (min3 (hnn.at i)) ?_
      refine mg_istore d_PS_makeLowering_32 (Nat.le_of_ble_eq_true rfl) rfl ?_
      refine mg_iload_n d_PS_makeLowering_34 rfl rfl ?_
      refine mg_iload d_PS_makeLowering_35 rfl ?_
      refine mg_icmp_ge (tgt := 67) d_PS_makeLowering_37 (by decide) (fun c_37 => ?_) (fun c_37 => ?_)
      · have hge : ¬ left < waysN (row.getD i 0) := fun h => absurd c_37 (nI_ge h (by have : waysN (row.getD i 0) ≤ 3 := Nat.min_le_right _ _; omega))
        rw [lowG, if_neg hge] at hr
        refine mg_iload_n d_PS_makeLowering_67 rfl rfl ?_
        refine mg_iload d_PS_makeLowering_68 rfl ?_
        refine mg_isub d_PS_makeLowering_70 ?_
        refine mg_eqi (pk_sub (by omega)) ?_
        refine mg_istore_n d_PS_makeLowering_71 rfl (Nat.le_of_ble_eq_true rfl) rfl ?_
        refine mg_iinc (v := nI (i + 1)) d_PS_makeLowering_72 rfl (nI_1 _) (Nat.le_of_ble_eq_true rfl) rfl ?_
        refine mg_goto (tgt := 4) d_PS_makeLowering_75 (by decide) ?_
        exact ih (i + 1) _ _ _ (by omega) (by omega) hr
      · have hlt : left < waysN (row.getD i 0) := by
          rcases Nat.lt_or_ge left (waysN (row.getD i 0)) with q | q
          · exact q
          · exact absurd (nI_le q (by omega)) c_37
        rw [lowG, if_pos hlt] at hr
        subst hr
        first | refine mg_aload_n d_PS_makeLowering_40 rfl rfl ?_ | refine mg_aload_nN d_PS_makeLowering_40 rfl rfl ?_
        refine mg_getfield fl_PS_34 d_PS_makeLowering_41 hO rfl ?_
        first | refine mg_aload_n d_PS_makeLowering_44 rfl rfl ?_ | refine mg_aload_nN d_PS_makeLowering_44 rfl rfl ?_
        refine mg_getfield fl_PS_24 d_PS_makeLowering_45 hO rfl ?_
        refine mg_callV (vl_PS_123 rfl) d_PS_makeLowering_48 (by obtain ⟨_, e1, -⟩ := hS; exact e1) rfl rfl (c_In_copyFrom hS hI (by omega)) rfl rfl (by rw [hR]; decide) (by rw [hR]; decide) (Nat.le_of_ble_eq_true rfl) ?_
        rintro v M3 ⟨rfl, hS3, hs3⟩
        have hO3 := (hs3 1 (by omega)).trans hO
        first | refine mg_aload_n d_PS_makeLowering_51 rfl rfl ?_ | refine mg_aload_nN d_PS_makeLowering_51 rfl rfl ?_
        refine mg_getfield fl_PS_34 d_PS_makeLowering_52 hO3 rfl ?_
        refine mg_iload_n d_PS_makeLowering_55 rfl rfl ?_
        refine mg_iload d_PS_makeLowering_56 rfl ?_
        refine mg_iload_n d_PS_makeLowering_58 rfl rfl ?_
        refine mg_callS (sl_PS_250 rfl) d_PS_makeLowering_59 (c_PS_lowered (way := left) (by omega)) rfl rfl (by rw [hR]; decide) (by rw [hR]; decide) (Nat.le_of_ble_eq_true rfl) ?_
        rintro v M4 ⟨rfl, rfl⟩
        refine mg_callV (vl_PS_253 rfl) d_PS_makeLowering_62 (by obtain ⟨_, e1, -⟩ := hS3; exact e1) rfl rfl (c_In_set hS3) rfl rfl (by rw [hR]; decide) (by rw [hR]; decide) (Nat.le_of_ble_eq_true rfl) ?_
        rintro v M5 ⟨rfl, hI5, hs5⟩
        rw [setI_in hI.le (by omega : i < row.length)] at hI5
        refine mg_iconst (v := -1) d_PS_makeLowering_65 (by decide) ?_
        exact mg_ireturn d_PS_makeLowering_66 rfl rfl (Nat.le_of_ble_eq_true rfl) (Nat.le_of_ble_eq_true rfl) ⟨rfl, hI5, hs3.tr hs5⟩

set_option maxHeartbeats 4000000 in
set_option maxRecDepth 100000 in
theorem c_PS_makeLowering {M : mg_M} {ng np nk : Nat} {lk fg fp : Value} {wa fv : Int32} {le : Bool} {sm0 : Int64} {row st : List Int32} {w : Nat} (hO : M 1 = some (psF ng np lk nk wa fg fp fv le sm0)) (hI : isI M 4 row) (hS : isI M 10 st) (hnn : nnL row) (hw : w < 2 ^ 30) : mg_Ct Y_PS_makeLowering { frames := 3, cells := 0, slots := 0, locals := 67 } [.ref 1, .int (nI w)] M (sP M (lowG row row.length 0 w)) := by
  refine mg_met [some (.ref 1), some (.int (nI w)), none, none, none, none] (by decide +kernel) rfl (Nat.le_of_ble_eq_true rfl) ?_
  intro X hR _
  refine mg_iload_n d_PS_makeLowering_0 rfl rfl ?_
  refine mg_istore_n d_PS_makeLowering_1 rfl (Nat.le_of_ble_eq_true rfl) rfl ?_
  refine mg_iconst (v := 0) d_PS_makeLowering_2 (by decide) ?_
  refine mg_istore_n d_PS_makeLowering_3 rfl (Nat.le_of_ble_eq_true rfl) rfl ?_
  exact lp_low hR hO hI hS hnn row.length 0 w none none (by omega) hw rfl

set_option maxHeartbeats 4000000 in
set_option maxRecDepth 100000 in
theorem lp_swap {X : mg_X} {M : mg_M} {ng np nk : Nat} {lk fg fp : Value} {wa fv : Int32} {le : Bool} {sm0 : Int64} {row st : List Int32} {r : sR} {w : Int32} (hR : mg_R X = { frames := 3, cells := 0, slots := 0, locals := 67 }) (hO : M 1 = some (psF ng np lk nk wa fg fp fv le sm0)) (hI : isI M 4 row) (hS : isI M 10 st) : ∀ (n i left : Nat) (t u : Option Value), (n = row.length - 1 - i ∧ (i = 0 ∨ i + 1 ≤ row.length)) → left < 2 ^ 30 → swapG row n i left = r → mg_G X Y_PS_makeSwap (mg_Q X (sP M r) { frames := 3, cells := 0, slots := 0, locals := 67 }) M 0 0 4 [some (.ref 1), some (.int w), some (.int (nI left)), some (.int (nI i)), t, u] [] := by
  intro n
  induction n with
  | zero =>
    intro i left t u hi hl hr
    rw [swapG] at hr
    subst hr
    refine mg_iload_n d_PS_makeSwap_4 rfl rfl ?_
    refine mg_iconst (v := 1) d_PS_makeSwap_5 (by decide) ?_
    refine mg_iadd d_PS_makeSwap_6 ?_
    refine mg_eqi (nI_1 i) ?_
    refine mg_aload_n d_PS_makeSwap_7 rfl rfl ?_
    refine mg_getfield fl_PS_24 d_PS_makeSwap_8 hO rfl ?_
    refine mg_callV (vl_PS_134 rfl) d_PS_makeSwap_11 (by obtain ⟨_, e1, -⟩ := hI; exact e1) rfl rfl (c_In_length hI) rfl rfl (by rw [hR]; decide) (by rw [hR]; decide) (Nat.le_of_ble_eq_true rfl) ?_
    rintro v M2 ⟨rfl, rfl⟩
    refine mg_icmp_ge (tgt := 96) d_PS_makeSwap_14 (by decide) (fun c_14 => ?_) (fun c_14 => absurd (nI_le (by omega) (by have := hI.le; omega)) c_14)
    refine mg_iload_n d_PS_makeSwap_96 rfl rfl ?_
    exact mg_ireturn d_PS_makeSwap_97 rfl rfl (Nat.le_of_ble_eq_true rfl) (Nat.le_of_ble_eq_true rfl) ⟨rfl, rfl⟩
  | succ n ih =>
    intro i left t u hi hl hr
    refine mg_iload_n d_PS_makeSwap_4 rfl rfl ?_
    refine mg_iconst (v := 1) d_PS_makeSwap_5 (by decide) ?_
    refine mg_iadd d_PS_makeSwap_6 ?_
    refine mg_eqi (nI_1 i) ?_
    first | refine mg_aload_n d_PS_makeSwap_7 rfl rfl ?_ | refine mg_aload_nN d_PS_makeSwap_7 rfl rfl ?_
    refine mg_getfield fl_PS_24 d_PS_makeSwap_8 hO rfl ?_
    refine mg_callV (vl_PS_134 rfl) d_PS_makeSwap_11 (by obtain ⟨_, e1, -⟩ := hI; exact e1) rfl rfl (c_In_length hI) rfl rfl (by rw [hR]; decide) (by rw [hR]; decide) (Nat.le_of_ble_eq_true rfl) ?_
    rintro v M2 ⟨rfl, rfl⟩
    refine mg_icmp_ge (tgt := 96) d_PS_makeSwap_14 (by decide) (fun c_14 => ?_) (fun c_14 => ?_)
    · exact absurd c_14 (nI_ge (by omega : i + 1 < row.length) (by have := hI.le; omega))
    · first | refine mg_aload_n d_PS_makeSwap_17 rfl rfl ?_ | refine mg_aload_nN d_PS_makeSwap_17 rfl rfl ?_
      refine mg_getfield fl_PS_24 d_PS_makeSwap_18 hO rfl ?_
      refine mg_iload_n d_PS_makeSwap_21 rfl rfl ?_
      refine mg_iconst (v := 0) d_PS_makeSwap_22 (by decide) ?_
      refine mg_callV (vl_PS_130 rfl) d_PS_makeSwap_23 (by obtain ⟨_, e1, -⟩ := hI; exact e1) rfl rfl (c_In_at hI) rfl rfl (by rw [hR]; decide) (by rw [hR]; decide) (Nat.le_of_ble_eq_true rfl) ?_
      rintro v M2 ⟨rfl, rfl⟩
      refine mg_eqi (atI_in hI.le (by omega : i < row.length)) ?_
      refine mg_istore d_PS_makeSwap_26 (Nat.le_of_ble_eq_true rfl) rfl ?_
      first | refine mg_aload_n d_PS_makeSwap_28 rfl rfl ?_ | refine mg_aload_nN d_PS_makeSwap_28 rfl rfl ?_
      refine mg_getfield fl_PS_24 d_PS_makeSwap_29 hO rfl ?_
      refine mg_iload_n d_PS_makeSwap_32 rfl rfl ?_
      refine mg_iconst (v := 1) d_PS_makeSwap_33 (by decide) ?_
      refine mg_iadd d_PS_makeSwap_34 ?_
      refine mg_eqi (nI_1 i) ?_
      refine mg_iconst (v := 0) d_PS_makeSwap_35 (by decide) ?_
      refine mg_callV (vl_PS_130 rfl) d_PS_makeSwap_36 (by obtain ⟨_, e1, -⟩ := hI; exact e1) rfl rfl (c_In_at hI) rfl rfl (by rw [hR]; decide) (by rw [hR]; decide) (Nat.le_of_ble_eq_true rfl) ?_
      rintro v M2 ⟨rfl, rfl⟩
      refine mg_eqi (atI_in hI.le (by omega : i + 1 < row.length)) ?_
      refine mg_istore d_PS_makeSwap_39 (Nat.le_of_ble_eq_true rfl) rfl ?_
      refine mg_iload d_PS_makeSwap_41 rfl ?_
      refine mg_iload d_PS_makeSwap_43 rfl ?_
      refine mg_icmp_le (tgt := 90) d_PS_makeSwap_45 (by decide) (fun c_45 => ?_) (fun c_45 => ?_)
      · rw [swapG, if_neg (Int32.not_lt.mpr c_45)] at hr
        refine mg_iinc (v := nI (i + 1)) d_PS_makeSwap_90 rfl (nI_1 _) (Nat.le_of_ble_eq_true rfl) rfl ?_
        refine mg_goto (tgt := 4) d_PS_makeSwap_93 (by decide) ?_
        exact ih (i + 1) _ _ _ (by omega) (by omega) hr
      · rw [swapG, if_pos (Int32.not_le.mp c_45)] at hr
        refine mg_iload_n d_PS_makeSwap_48 rfl rfl ?_
        refine mg_if_ne (tgt := 87) d_PS_makeSwap_49 (by decide) (fun c_49 => ?_) (fun c_49 => ?_)
        · have hne : ¬ left = 0 := fun h => by subst h; exact c_49 nI_0
          rw [if_neg hne] at hr
          obtain ⟨left, rfl⟩ : ∃ e, left = e + 1 := ⟨left - 1, by omega⟩
          refine mg_iinc (v := nI left) d_PS_makeSwap_87 rfl (nI_m1 left) (Nat.le_of_ble_eq_true rfl) rfl ?_
          refine mg_iinc (v := nI (i + 1)) d_PS_makeSwap_90 rfl (nI_1 _) (Nat.le_of_ble_eq_true rfl) rfl ?_
          refine mg_goto (tgt := 4) d_PS_makeSwap_93 (by decide) ?_
          exact ih (i + 1) _ _ _ (by omega) (by omega) hr
        · have hz : left = 0 := (nI_eq (b := 0) (by omega) (by decide)).mp (c_49.trans nI_0.symm)
          rw [if_pos hz] at hr
          subst hr
          first | refine mg_aload_n d_PS_makeSwap_52 rfl rfl ?_ | refine mg_aload_nN d_PS_makeSwap_52 rfl rfl ?_
          refine mg_getfield fl_PS_34 d_PS_makeSwap_53 hO rfl ?_
          first | refine mg_aload_n d_PS_makeSwap_56 rfl rfl ?_ | refine mg_aload_nN d_PS_makeSwap_56 rfl rfl ?_
          refine mg_getfield fl_PS_24 d_PS_makeSwap_57 hO rfl ?_
          refine mg_callV (vl_PS_123 rfl) d_PS_makeSwap_60 (by obtain ⟨_, e1, -⟩ := hS; exact e1) rfl rfl (c_In_copyFrom hS hI (by omega)) rfl rfl (by rw [hR]; decide) (by rw [hR]; decide) (Nat.le_of_ble_eq_true rfl) ?_
          rintro v M3 ⟨rfl, hS3, hs3⟩
          have hO3 := (hs3 1 (by omega)).trans hO
          first | refine mg_aload_n d_PS_makeSwap_63 rfl rfl ?_ | refine mg_aload_nN d_PS_makeSwap_63 rfl rfl ?_
          refine mg_getfield fl_PS_34 d_PS_makeSwap_64 hO3 rfl ?_
          refine mg_iload_n d_PS_makeSwap_67 rfl rfl ?_
          refine mg_iload d_PS_makeSwap_68 rfl ?_
          refine mg_callV (vl_PS_253 rfl) d_PS_makeSwap_70 (by obtain ⟨_, e1, -⟩ := hS3; exact e1) rfl rfl (c_In_set hS3) rfl rfl (by rw [hR]; decide) (by rw [hR]; decide) (Nat.le_of_ble_eq_true rfl) ?_
          rintro v M5 ⟨rfl, hI5, hs5⟩
          rw [setI_in hI.le (by omega : i < row.length)] at hI5
          have hO5 := (hs5 1 (by omega)).trans hO3
          first | refine mg_aload_n d_PS_makeSwap_73 rfl rfl ?_ | refine mg_aload_nN d_PS_makeSwap_73 rfl rfl ?_
          refine mg_getfield fl_PS_34 d_PS_makeSwap_74 hO5 rfl ?_
          refine mg_iload_n d_PS_makeSwap_77 rfl rfl ?_
          refine mg_iconst (v := 1) d_PS_makeSwap_78 (by decide) ?_
          refine mg_iadd d_PS_makeSwap_79 ?_
          refine mg_eqi (nI_1 i) ?_
          refine mg_iload d_PS_makeSwap_80 rfl ?_
          refine mg_callV (vl_PS_253 rfl) d_PS_makeSwap_82 (by obtain ⟨_, e1, -⟩ := hI5; exact e1) rfl rfl (c_In_set hI5) rfl rfl (by rw [hR]; decide) (by rw [hR]; decide) (Nat.le_of_ble_eq_true rfl) ?_
          rintro v M6 ⟨rfl, hI6, hs6⟩
          rw [setI_in hI5.le (by rw [List.length_set]; omega : i + 1 < (row.set i (row.getD (i + 1) 0)).length)] at hI6
          refine mg_iconst (v := -1) d_PS_makeSwap_85 (by decide) ?_
          exact mg_ireturn d_PS_makeSwap_86 rfl rfl (Nat.le_of_ble_eq_true rfl) (Nat.le_of_ble_eq_true rfl) ⟨rfl, hI6, (hs3.tr hs5).tr hs6⟩

set_option maxHeartbeats 4000000 in
set_option maxRecDepth 100000 in
theorem c_PS_makeSwap {M : mg_M} {ng np nk : Nat} {lk fg fp : Value} {wa fv : Int32} {le : Bool} {sm0 : Int64} {row st : List Int32} {w : Nat} (hO : M 1 = some (psF ng np lk nk wa fg fp fv le sm0)) (hI : isI M 4 row) (hS : isI M 10 st) (hw : w < 2 ^ 30) : mg_Ct Y_PS_makeSwap { frames := 3, cells := 0, slots := 0, locals := 67 } [.ref 1, .int (nI w)] M (sP M (swapG row (row.length - 1) 0 w)) := by
  refine mg_met [some (.ref 1), some (.int (nI w)), none, none, none, none] (by decide +kernel) rfl (Nat.le_of_ble_eq_true rfl) ?_
  intro X hR _
  refine mg_iload_n d_PS_makeSwap_0 rfl rfl ?_
  refine mg_istore_n d_PS_makeSwap_1 rfl (Nat.le_of_ble_eq_true rfl) rfl ?_
  refine mg_iconst (v := 0) d_PS_makeSwap_2 (by decide) ?_
  refine mg_istore_n d_PS_makeSwap_3 rfl (Nat.le_of_ble_eq_true rfl) rfl ?_
  exact lp_swap hR hO hI hS (row.length - 1) 0 w none none ⟨by omega, Or.inl rfl⟩ hw rfl
end
section
/-! makeStep, the sum of rows, the kept rows -/
theorem ne_m1 {a : Nat} (h : a < 2 ^ 31) : ¬ nI a = -1 := fun e => nI_pos h (by rw [e]; decide)
theorem dropG_le {row : List Int32} : ∀ {l : List Nat} {w a : Nat}, dropG row l w = .inr a → a ≤ w
  | [], w, a, h => by
    rw [dropG] at h
    have := Sum.inr.inj h
    omega
  | N :: r, w, a, h => by
    rw [dropG] at h
    split at h
    · cases h
    · have := dropG_le h
      omega
theorem lowG_le {row : List Int32} : ∀ {n i w a : Nat}, lowG row n i w = .inr a → a ≤ w
  | 0, i, w, a, h => by
    rw [lowG] at h
    have := Sum.inr.inj h
    omega
  | n + 1, i, w, a, h => by
    rw [lowG] at h
    split at h
    · cases h
    · have := lowG_le h
      omega
def stP (M : mg_M) (r : Option (List Int32)) : Option Value → mg_M → Prop := fun v M' => match r with
  | some l => v = some (.int 1) ∧ isI M' 10 l ∧ sm 10 12 M M'
  | none => v = some (.int 0) ∧ M' = M

theorem swapG_le {row : List Int32} : ∀ {n i w a : Nat}, swapG row n i w = .inr a → a ≤ w
  | 0, i, w, a, h => by
    rw [swapG] at h
    have := Sum.inr.inj h
    omega
  | n + 1, i, w, a, h => by
    rw [swapG] at h
    split at h
    · split at h
      · cases h
      · have := swapG_le h
        omega
    · exact swapG_le h
set_option maxHeartbeats 4000000 in
set_option maxRecDepth 100000 in
theorem c_PS_makeStep {M : mg_M} {ng np nk : Nat} {lk fg fp : Value} {wa fv : Int32} {le : Bool} {sm0 : Int64} {row st : List Int32} {w : Nat} (hO : M 1 = some (psF ng np lk nk wa fg fp fv le sm0)) (hI : isI M 4 row) (hS : isI M 10 st) (hnn : nnL row) (hw : w < 2 ^ 30) : mg_Ct Y_PS_makeStep { frames := 4, cells := 0, slots := 0, locals := 92 } [.ref 1, .int (nI w)] M (stP M (stepF row w)) := by
  refine mg_met [some (.ref 1), some (.int (nI w)), none] (by decide +kernel) rfl (Nat.le_of_ble_eq_true rfl) ?_
  intro X hR _
  unfold stepF
  refine mg_aload_n d_PS_makeStep_0 rfl rfl ?_
  refine mg_iload_n d_PS_makeStep_1 rfl rfl ?_
  refine mg_callV (vl_PS_228 rfl) d_PS_makeStep_2 hO rfl rfl (c_PS_makeDrop hO hI hS hw) rfl rfl (by rw [hR]; decide) (by rw [hR]; decide) (Nat.le_of_ble_eq_true rfl) ?_
  intro v M2 hp
  generalize hd : dropG row [8, 4, 2, 1] w = r1 at hp ⊢
  cases r1 with
  | inl l =>
    obtain ⟨rfl, hI2, hs2⟩ := hp
    refine mg_istore_n d_PS_makeStep_5 rfl (Nat.le_of_ble_eq_true rfl) rfl ?_
    refine mg_iload_n d_PS_makeStep_6 rfl rfl ?_
    refine mg_iconst (v := -1) d_PS_makeStep_7 (by decide) ?_
    refine mg_icmp_eq (tgt := 17) d_PS_makeStep_8 (by decide) (fun _ => ?_) (fun c => absurd rfl c)
    refine mg_iload_n d_PS_makeStep_17 rfl rfl ?_
    refine mg_iconst (v := -1) d_PS_makeStep_18 (by decide) ?_
    refine mg_icmp_eq (tgt := 28) d_PS_makeStep_19 (by decide) (fun _ => ?_) (fun c => absurd rfl c)
    refine mg_iload_n d_PS_makeStep_28 rfl rfl ?_
    refine mg_iconst (v := -1) d_PS_makeStep_29 (by decide) ?_
    refine mg_icmp_ne (tgt := 37) d_PS_makeStep_30 (by decide) (fun c => absurd rfl c) (fun _ => ?_)
    refine mg_iconst (v := 1) d_PS_makeStep_33 (by decide) ?_
    refine mg_goto (tgt := 38) d_PS_makeStep_34 (by decide) ?_
    exact mg_ireturn d_PS_makeStep_38 rfl rfl (Nat.le_of_ble_eq_true rfl) (Nat.le_of_ble_eq_true rfl) ⟨rfl, hI2, hs2⟩
  | inr a1 =>
    obtain ⟨rfl, rfl⟩ := hp
    have l1 := dropG_le hd
    dsimp only
    refine mg_istore_n d_PS_makeStep_5 rfl (Nat.le_of_ble_eq_true rfl) rfl ?_
    refine mg_iload_n d_PS_makeStep_6 rfl rfl ?_
    refine mg_iconst (v := -1) d_PS_makeStep_7 (by decide) ?_
    refine mg_icmp_eq (tgt := 17) d_PS_makeStep_8 (by decide) (fun c => absurd c (ne_m1 (by omega))) (fun _ => ?_)
    refine mg_aload_n d_PS_makeStep_11 rfl rfl ?_
    refine mg_iload_n d_PS_makeStep_12 rfl rfl ?_
    refine mg_callV (vl_PS_232 rfl) d_PS_makeStep_13 hO rfl rfl (c_PS_makeLowering (w := a1) hO hI hS hnn (by omega)) rfl rfl (by rw [hR]; decide) (by rw [hR]; decide) (Nat.le_of_ble_eq_true rfl) ?_
    intro v M3 hp
    generalize hd2 : lowG row row.length 0 a1 = r2 at hp ⊢
    cases r2 with
    | inl l =>
      obtain ⟨rfl, hI2, hs2⟩ := hp
      refine mg_istore_n d_PS_makeStep_16 rfl (Nat.le_of_ble_eq_true rfl) rfl ?_
      refine mg_iload_n d_PS_makeStep_17 rfl rfl ?_
      refine mg_iconst (v := -1) d_PS_makeStep_18 (by decide) ?_
      refine mg_icmp_eq (tgt := 28) d_PS_makeStep_19 (by decide) (fun _ => ?_) (fun c => absurd rfl c)
      refine mg_iload_n d_PS_makeStep_28 rfl rfl ?_
      refine mg_iconst (v := -1) d_PS_makeStep_29 (by decide) ?_
      refine mg_icmp_ne (tgt := 37) d_PS_makeStep_30 (by decide) (fun c => absurd rfl c) (fun _ => ?_)
      refine mg_iconst (v := 1) d_PS_makeStep_33 (by decide) ?_
      refine mg_goto (tgt := 38) d_PS_makeStep_34 (by decide) ?_
      exact mg_ireturn d_PS_makeStep_38 rfl rfl (Nat.le_of_ble_eq_true rfl) (Nat.le_of_ble_eq_true rfl) ⟨rfl, hI2, hs2⟩
    | inr a2 =>
      obtain ⟨rfl, rfl⟩ := hp
      have l2 := lowG_le hd2
      dsimp only
      refine mg_istore_n d_PS_makeStep_16 rfl (Nat.le_of_ble_eq_true rfl) rfl ?_
      refine mg_iload_n d_PS_makeStep_17 rfl rfl ?_
      refine mg_iconst (v := -1) d_PS_makeStep_18 (by decide) ?_
      refine mg_icmp_eq (tgt := 28) d_PS_makeStep_19 (by decide) (fun c => absurd c (ne_m1 (by omega))) (fun _ => ?_)
      refine mg_aload_n d_PS_makeStep_22 rfl rfl ?_
      refine mg_iload_n d_PS_makeStep_23 rfl rfl ?_
      refine mg_callV (vl_PS_235 rfl) d_PS_makeStep_24 hO rfl rfl (c_PS_makeSwap (w := a2) hO hI hS (by omega)) rfl rfl (by rw [hR]; decide) (by rw [hR]; decide) (Nat.le_of_ble_eq_true rfl) ?_
      intro v M4 hp
      generalize hd3 : swapG row (row.length - 1) 0 a2 = r3 at hp ⊢
      cases r3 with
      | inl l =>
        obtain ⟨rfl, hI2, hs2⟩ := hp
        refine mg_istore_n d_PS_makeStep_27 rfl (Nat.le_of_ble_eq_true rfl) rfl ?_
        refine mg_iload_n d_PS_makeStep_28 rfl rfl ?_
        refine mg_iconst (v := -1) d_PS_makeStep_29 (by decide) ?_
        refine mg_icmp_ne (tgt := 37) d_PS_makeStep_30 (by decide) (fun c => absurd rfl c) (fun _ => ?_)
        refine mg_iconst (v := 1) d_PS_makeStep_33 (by decide) ?_
        refine mg_goto (tgt := 38) d_PS_makeStep_34 (by decide) ?_
        exact mg_ireturn d_PS_makeStep_38 rfl rfl (Nat.le_of_ble_eq_true rfl) (Nat.le_of_ble_eq_true rfl) ⟨rfl, hI2, hs2⟩
      | inr a3 =>
        obtain ⟨rfl, rfl⟩ := hp
        have l3 := swapG_le hd3
        refine mg_istore_n d_PS_makeStep_27 rfl (Nat.le_of_ble_eq_true rfl) rfl ?_
        refine mg_iload_n d_PS_makeStep_28 rfl rfl ?_
        refine mg_iconst (v := -1) d_PS_makeStep_29 (by decide) ?_
        refine mg_icmp_ne (tgt := 37) d_PS_makeStep_30 (by decide) (fun _ => ?_) (fun c => absurd c (ne_m1 (by omega)))
        refine mg_iconst (v := 0) d_PS_makeStep_37 (by decide) ?_
        exact mg_ireturn d_PS_makeStep_38 rfl rfl (Nat.le_of_ble_eq_true rfl) (Nat.le_of_ble_eq_true rfl) ⟨rfl, rfl⟩

def addS (s : Int64) (xs : List Int32) : Int64 := 31 * (xs.foldl (fun s x => 31 * s + x.toInt64) s) + 7
set_option maxHeartbeats 4000000 in
set_option maxRecDepth 100000 in
theorem lp_addS {X : mg_X} {M0 : mg_M} {ng np nk : Nat} {lk fg fp : Value} {wa fv : Int32} {le : Bool} {sm0 : Int64} {h : Nat} {xs : List Int32} {r : Int64} (hR : mg_R X = { frames := 1, cells := 0, slots := 0, locals := 22 }) (hh : 2 ≤ h) : ∀ (n i : Nat) (M : mg_M) (s : Int64), xs.length - i < n → i ≤ xs.length → M 1 = some (psF ng np lk nk wa fg fp fv le s) → isI M h xs → sm 1 2 M0 M → (xs.drop i).foldl (fun s x => 31 * s + x.toInt64) s = r → mg_G X Y_PS_addToRowsSum (mg_Q X (fun v M' => v = none ∧ M' 1 = some (psF ng np lk nk wa fg fp fv le (31 * r + 7)) ∧ sm 1 2 M0 M') { frames := 1, cells := 0, slots := 0, locals := 22 }) M 0 0 2 [some (.ref 1), some (.ref h), some (.int (nI i))] [] := by
  intro n
  induction n with
  | zero =>
    intro i M s hn
    exact absurd hn (by omega)
  | succ n ih =>
    intro i M s hn hil hO hI hs hr
    refine mg_iload_n d_PS_addToRowsSum_2 rfl rfl ?_
    first | refine mg_aload_n d_PS_addToRowsSum_3 rfl rfl ?_ | refine mg_aload_nN d_PS_addToRowsSum_3 rfl rfl ?_
    refine mg_callV (vl_PS_134 rfl) d_PS_addToRowsSum_4 (by obtain ⟨_, e1, -⟩ := hI; exact e1) rfl rfl (c_In_length hI) rfl rfl (by rw [hR]; decide) (by rw [hR]; decide) (Nat.le_of_ble_eq_true rfl) ?_
    rintro v M2 ⟨rfl, rfl⟩
    refine mg_icmp_ge (tgt := 36) d_PS_addToRowsSum_7 (by decide) (fun c_7 => ?_) (fun c_7 => ?_)
    · have hge : xs.length ≤ i := by
        rcases Nat.lt_or_ge i xs.length with q | q
        · exact absurd c_7 (nI_ge q (by have := hI.le; omega))
        · exact q
      rw [List.drop_of_length_le hge] at hr
      refine mg_aload_n d_PS_addToRowsSum_36 rfl rfl ?_
      refine mg_ldc2 d_PS_addToRowsSum_37 kl_PS_256 ?_
      refine mg_aload_n d_PS_addToRowsSum_40 rfl rfl ?_
      refine mg_getfield fl_PS_138 d_PS_addToRowsSum_41 hO rfl ?_
      refine mg_lmul d_PS_addToRowsSum_44 ?_
      refine mg_ldc2 d_PS_addToRowsSum_45 kl_PS_258 ?_
      refine mg_ladd d_PS_addToRowsSum_48 ?_
      refine mg_putfield (fw_PS_138 _) d_PS_addToRowsSum_49 hO (Nat.le_of_ble_eq_true rfl) (fun _ => ⟨rfl, rfl⟩) ?_
      refine mg_return d_PS_addToRowsSum_52 rfl (Nat.le_of_ble_eq_true rfl) (Nat.le_of_ble_eq_true rfl) ⟨rfl, ?_, hs.up (by omega) (by omega)⟩
      rw [mg_up_s, ← hr]; rfl
    · have hi2 : i < xs.length := by
        rcases Nat.lt_or_ge i xs.length with q | q
        · exact q
        · exact absurd (nI_le q (by have := hI.le; omega)) c_7
      rw [drop_cons hi2, List.foldl_cons] at hr
      first | refine mg_aload_n d_PS_addToRowsSum_10 rfl rfl ?_ | refine mg_aload_nN d_PS_addToRowsSum_10 rfl rfl ?_
      refine mg_ldc2 d_PS_addToRowsSum_11 kl_PS_256 ?_
      first | refine mg_aload_n d_PS_addToRowsSum_14 rfl rfl ?_ | refine mg_aload_nN d_PS_addToRowsSum_14 rfl rfl ?_
      refine mg_getfield fl_PS_138 d_PS_addToRowsSum_15 hO rfl ?_
      refine mg_lmul d_PS_addToRowsSum_18 ?_
      first | refine mg_aload_n d_PS_addToRowsSum_19 rfl rfl ?_ | refine mg_aload_nN d_PS_addToRowsSum_19 rfl rfl ?_
      refine mg_iload_n d_PS_addToRowsSum_20 rfl rfl ?_
      refine mg_iconst (v := 0) d_PS_addToRowsSum_21 (by decide) ?_
      refine mg_callV (vl_PS_130 rfl) d_PS_addToRowsSum_22 (by obtain ⟨_, e1, -⟩ := hI; exact e1) rfl rfl (c_In_at hI) rfl rfl (by rw [hR]; decide) (by rw [hR]; decide) (Nat.le_of_ble_eq_true rfl) ?_
      rintro v M2 ⟨rfl, rfl⟩
      refine mg_eqi (atI_in hI.le hi2) ?_
      refine mg_i2l d_PS_addToRowsSum_25 ?_
      refine mg_ladd d_PS_addToRowsSum_26 ?_
      refine mg_putfield (fw_PS_138 _) d_PS_addToRowsSum_27 hO (Nat.le_of_ble_eq_true rfl) (fun _ => ⟨rfl, rfl⟩) ?_
      refine mg_iinc (v := nI (i + 1)) d_PS_addToRowsSum_30 rfl (nI_1 _) (Nat.le_of_ble_eq_true rfl) rfl ?_
      refine mg_goto (tgt := 2) d_PS_addToRowsSum_33 (by decide) ?_
      exact ih (i + 1) _ _ (by omega) (by omega) (mg_up_s _ _ _) (hI.up (by omega) (by omega)) (hs.up (by omega) (by omega)) hr

set_option maxHeartbeats 4000000 in
set_option maxRecDepth 100000 in
theorem c_PS_addToRowsSum {M : mg_M} {ng np nk : Nat} {lk fg fp : Value} {wa fv : Int32} {le : Bool} {sm0 : Int64} {h : Nat} {xs : List Int32} (hO : M 1 = some (psF ng np lk nk wa fg fp fv le sm0)) (hI : isI M h xs) (hh : 2 ≤ h) : mg_Ct Y_PS_addToRowsSum { frames := 1, cells := 0, slots := 0, locals := 22 } [.ref 1, .ref h] M (fun v M' => v = none ∧ M' 1 = some (psF ng np lk nk wa fg fp fv le (addS sm0 xs)) ∧ sm 1 2 M M') := by
  refine mg_met [some (.ref 1), some (.ref h), none] (by decide +kernel) rfl (Nat.le_of_ble_eq_true rfl) ?_
  intro X hR _
  refine mg_iconst (v := 0) d_PS_addToRowsSum_0 (by decide) ?_
  refine mg_istore_n d_PS_addToRowsSum_1 rfl (Nat.le_of_ble_eq_true rfl) rfl ?_
  exact lp_addS (sm0 := 0) (M0 := M) hR hh (xs.length + 1) 0 M sm0 (by omega) (by omega) hO hI sm.rf rfl

abbrev kN : Type := Int32 × Int32 × List Int32
def kpV : Nat → Value
  | 0 => .null
  | n + 1 => .ref (200 + 3 * n)
def isK (M : mg_M) (ks : List kN) : Prop := ∀ (i : Nat) (k : kN), ks[i]? = some k → M (200 + 3 * i) = some (.inr (10, [.int k.1, .int k.2.1, .ref (200 + 3 * i + 1), kpV i])) ∧ isI M (200 + 3 * i + 1) k.2.2
theorem isK.fr {M M' : mg_M} {ks : List kN} {lo hi : Nat} (h : isK M ks) (hs : sm lo hi M M') (hd : hi ≤ 200 ∨ 200 + 3 * ks.length ≤ lo) : isK M' ks := fun i k hk => by
  have hl := (List.getElem?_eq_some_iff.mp hk).1
  obtain ⟨h1, h2⟩ := h i k hk
  exact ⟨by rw [hs _ (by omega)]; exact h1, h2.sm hs (by omega)⟩
/-- the latest of the first n kept rows of this pair that fails: the verdict, and the draws behind the search -/
def findKF (gs : List gN) (p : pN) (i : Nat) (gi pi : Int32) (ks : List kN) : Nat → dM → dS → Option Int32 × dM × dS
  | 0, md, σ => (none, md, σ)
  | n + 1, md, σ => match ks[n]? with
    | none => (none, md, σ)
    | some (a, b, ys) => if a = gi ∧ b = pi then
        (if isBd (vdS p (runR gs ys md.2.2 i σ.2.2.2.1 σ.2.2.2.2)) = true then (some (vdS p (runR gs ys md.2.2 i σ.2.2.2.1 σ.2.2.2.2)), (0, ys, md.2.2), runR gs ys md.2.2 i σ.2.2.2.1 σ.2.2.2.2)
          else findKF gs p i gi pi ks n (0, ys, md.2.2) (runR gs ys md.2.2 i σ.2.2.2.1 σ.2.2.2.2))
      else findKF gs p i gi pi ks n md σ

def fkP (M : mg_M) (i j : Nat) (o : va_E) (o2 : Int32 → va_E) (r : Option Int32 × dM × dS) : Option Value → mg_M → Prop := fun v M' => match r with
  | (none, md, σ) => v = some (.int 0) ∧ isD M' 12 md σ ∧ sm 12 20 M M'
  | (some w, md, σ) => v = some (.int 1) ∧ M' 1 = some (o2 w) ∧ isI M' 4 σ.1 ∧ isI M' 6 σ.2.1 ∧ isD M' 12 md σ ∧ ∀ k, k ≠ 1 → (k < 4 ∨ 8 ≤ k) → (k < 12 ∨ 20 ≤ k) → M' k = M k
set_option maxHeartbeats 4000000 in
set_option maxRecDepth 100000 in
theorem lp_findKept {X : mg_X} {M0 : mg_M} {ng np nk : Nat} {lk fg fp : Value} {wa fv : Int32} {le : Bool} {sm0 : Int64} {gs : List gN} {i j : Nat} {g : gN} {p : pN} {gi pi : Int32} {ks : List kN} {r : Option Int32 × dM × dS} {rw0 nu : List Int32} (hR : mg_R X = { frames := 12, cells := 0, slots := 0, locals := 282 }) (hw : wfG gs) (hg : gs[i]? = some g) : ∀ (n : Nat) (M : mg_M) (md : dM) (σ : dS) (t : Option Value), M 1 = some (psF ng np lk nk wa fg fp fv le sm0) → isG M gs → isD M 12 md σ → M (150 + j) = some (prE p) → isK M ks → isI M 4 rw0 → isI M 6 nu → sm 12 20 M0 M → n ≤ ks.length → findKF gs p i gi pi ks n md σ = r → mg_G X Y_PS_findAmongKept (mg_Q X (fkP M0 i j (psF ng np lk nk wa fg fp fv le sm0) (fun vv => psF ng np lk nk wa (.ref (100 + i)) (.ref (150 + j)) vv false sm0) r) { frames := 12, cells := 0, slots := 0, locals := 282 }) M 0 0 30 [some (.ref 1), some (.int gi), some (.int pi), some (.ref (100 + i)), some (.ref (150 + j)), some (kpV n), t] [] := by
  intro n
  induction n with
  | zero =>
    intro M md σ t hO hG hD hP hK hI hN hs hn hr
    rw [findKF] at hr
    subst hr
    refine mg_aloadN d_PS_findAmongKept_30 rfl ?_
    refine mg_ifnullN (tgt := 96) d_PS_findAmongKept_32 (by decide) ?_
    refine mg_iconst (v := 0) d_PS_findAmongKept_96 (by decide) ?_
    exact mg_ireturn d_PS_findAmongKept_97 rfl rfl (Nat.le_of_ble_eq_true rfl) (Nat.le_of_ble_eq_true rfl) ⟨rfl, hD, hs⟩
  | succ n ih =>
    intro M md σ t hO hG hD hP hK hI hN hs hn hr
    obtain ⟨how, gv, z⟩ := md
    obtain ⟨cs, ns, il, x, lm⟩ := σ
    obtain ⟨⟨ka, kb, ys⟩, hk⟩ : ∃ k, ks[n]? = some k := ⟨_, List.getElem?_eq_getElem (by omega)⟩
    obtain ⟨hK1, hK2⟩ := hK n _ hk
    rw [findKF, hk] at hr
    dsimp only at hr hK1 hK2
    first | refine mg_aload d_PS_findAmongKept_30 rfl ?_ | refine mg_aloadN d_PS_findAmongKept_30 rfl ?_
    refine mg_ifnull d_PS_findAmongKept_32 ?_
    first | refine mg_aload d_PS_findAmongKept_35 rfl ?_ | refine mg_aloadN d_PS_findAmongKept_35 rfl ?_
    refine mg_getfield fl_PS_201 d_PS_findAmongKept_37 hK1 rfl ?_
    refine mg_iload_n d_PS_findAmongKept_40 rfl rfl ?_
    refine mg_icmp_ne (tgt := 86) d_PS_findAmongKept_41 (by decide) (fun c_41 => ?_) (fun c_41 => ?_)
    · rw [if_neg (fun h => c_41 h.1)] at hr
      refine mg_aload d_PS_findAmongKept_86 rfl ?_
      refine mg_getfield fl_PS_217 d_PS_findAmongKept_88 hK1 rfl ?_
      cases n with
      | zero =>
        refine mg_astoreN d_PS_findAmongKept_91 (Nat.le_of_ble_eq_true rfl) rfl ?_
        refine mg_goto (tgt := 30) d_PS_findAmongKept_93 (by decide) ?_
        exact ih _ _ _ _ hO hG hD hP hK hI hN hs (by omega) hr
      | succ n =>
        refine mg_astore d_PS_findAmongKept_91 (Nat.le_of_ble_eq_true rfl) rfl ?_
        refine mg_goto (tgt := 30) d_PS_findAmongKept_93 (by decide) ?_
        exact ih _ _ _ _ hO hG hD hP hK hI hN hs (by omega) hr
    · first | refine mg_aload d_PS_findAmongKept_44 rfl ?_ | refine mg_aloadN d_PS_findAmongKept_44 rfl ?_
      refine mg_getfield fl_PS_204 d_PS_findAmongKept_46 hK1 rfl ?_
      refine mg_iload_n d_PS_findAmongKept_49 rfl rfl ?_
      refine mg_icmp_ne (tgt := 86) d_PS_findAmongKept_50 (by decide) (fun c_50 => ?_) (fun c_50 => ?_)
      · rw [if_neg (fun h => c_50 h.2)] at hr
        refine mg_aload d_PS_findAmongKept_86 rfl ?_
        refine mg_getfield fl_PS_217 d_PS_findAmongKept_88 hK1 rfl ?_
        cases n with
        | zero =>
          refine mg_astoreN d_PS_findAmongKept_91 (Nat.le_of_ble_eq_true rfl) rfl ?_
          refine mg_goto (tgt := 30) d_PS_findAmongKept_93 (by decide) ?_
          exact ih _ _ _ _ hO hG hD hP hK hI hN hs (by omega) hr
        | succ n =>
          refine mg_astore d_PS_findAmongKept_91 (Nat.le_of_ble_eq_true rfl) rfl ?_
          refine mg_goto (tgt := 30) d_PS_findAmongKept_93 (by decide) ?_
          exact ih _ _ _ _ hO hG hD hP hK hI hN hs (by omega) hr
      · rw [if_pos ⟨c_41, c_50⟩] at hr
        first | refine mg_aload_n d_PS_findAmongKept_53 rfl rfl ?_ | refine mg_aload_nN d_PS_findAmongKept_53 rfl rfl ?_
        first | refine mg_aload_n d_PS_findAmongKept_54 rfl rfl ?_ | refine mg_aload_nN d_PS_findAmongKept_54 rfl rfl ?_
        first | refine mg_aload d_PS_findAmongKept_55 rfl ?_ | refine mg_aloadN d_PS_findAmongKept_55 rfl ?_
        first | refine mg_aload d_PS_findAmongKept_57 rfl ?_ | refine mg_aloadN d_PS_findAmongKept_57 rfl ?_
        refine mg_getfield fl_PS_207 d_PS_findAmongKept_59 hK1 rfl ?_
        refine mg_callV (vl_PS_100 rfl) d_PS_findAmongKept_62 hO rfl rfl (c_PS_replayRow hw hg hO hG hD hP (by omega) hK2 (by omega)) rfl rfl (by rw [hR]; decide) (by rw [hR]; decide) (Nat.le_of_ble_eq_true rfl) ?_
        rintro v M2 ⟨rfl, hD2, hs2⟩
        replace hO := (hs2 1 (by omega)).trans hO
        replace hG := hG.fr hs2 (by omega)
        replace hP := (hs2 (150 + j) (by omega)).trans hP
        replace hK := hK.fr hs2 (by omega)
        replace hK1 := (hs2 (200 + 3 * n) (by omega)).trans hK1
        replace hI := hI.sm hs2 (by omega)
        replace hN := hN.sm hs2 (by omega)
        replace hs := hs.tr hs2
        generalize runR gs ys z i x lm = σ2 at hD2 hr ⊢
        refine mg_istore d_PS_findAmongKept_65 (Nat.le_of_ble_eq_true rfl) rfl ?_
        refine mg_iload d_PS_findAmongKept_67 rfl ?_
        refine mg_callS (sl_PS_210 rfl) d_PS_findAmongKept_69 (c_PS_isBad) rfl rfl (by rw [hR]; decide) (by rw [hR]; decide) (Nat.le_of_ble_eq_true rfl) ?_
        rintro v M3 ⟨rfl, rfl⟩
        refine mg_if_eq (tgt := 86) d_PS_findAmongKept_72 (by decide) (fun c_72 => ?_) (fun c_72 => ?_)
        · rw [if_neg (by rw [bI_f c_72]; decide)] at hr
          refine mg_aload d_PS_findAmongKept_86 rfl ?_
          refine mg_getfield fl_PS_217 d_PS_findAmongKept_88 hK1 rfl ?_
          cases n with
          | zero =>
            refine mg_astoreN d_PS_findAmongKept_91 (Nat.le_of_ble_eq_true rfl) rfl ?_
            refine mg_goto (tgt := 30) d_PS_findAmongKept_93 (by decide) ?_
            exact ih _ _ _ _ hO hG hD2 hP hK hI hN hs (by omega) hr
          | succ n =>
            refine mg_astore d_PS_findAmongKept_91 (Nat.le_of_ble_eq_true rfl) rfl ?_
            refine mg_goto (tgt := 30) d_PS_findAmongKept_93 (by decide) ?_
            exact ih _ _ _ _ hO hG hD2 hP hK hI hN hs (by omega) hr
        · rw [if_pos (bI_t c_72)] at hr
          subst hr
          first | refine mg_aload_n d_PS_findAmongKept_75 rfl rfl ?_ | refine mg_aload_nN d_PS_findAmongKept_75 rfl rfl ?_
          first | refine mg_aload_n d_PS_findAmongKept_76 rfl rfl ?_ | refine mg_aload_nN d_PS_findAmongKept_76 rfl rfl ?_
          first | refine mg_aload d_PS_findAmongKept_77 rfl ?_ | refine mg_aloadN d_PS_findAmongKept_77 rfl ?_
          refine mg_iload d_PS_findAmongKept_79 rfl ?_
          refine mg_callV (vl_PS_213 rfl) d_PS_findAmongKept_81 hO rfl rfl (c_PS_takeFound hO hD2 hI hN) rfl rfl (by rw [hR]; decide) (by rw [hR]; decide) (Nat.le_of_ble_eq_true rfl) ?_
          rintro v M4 ⟨rfl, hO4, hI4, hN4, hs4⟩
          refine mg_iconst (v := 1) d_PS_findAmongKept_84 (by decide) ?_
          refine mg_ireturn d_PS_findAmongKept_85 rfl rfl (Nat.le_of_ble_eq_true rfl) (Nat.le_of_ble_eq_true rfl) ⟨rfl, hO4, hI4, hN4, hD2.fr (lo := 0) (hi := 8) (fun k hk => hs4 k (by omega) (by omega)) (by omega), fun k h1 h2 h3 => ?_⟩
          rw [hs4 k h1 h2]; exact hs k h3

set_option maxHeartbeats 4000000 in
set_option maxRecDepth 100000 in
theorem c_PS_findAmongKept {M : mg_M} {ng np nk : Nat} {lk fg fp : Value} {wa fv : Int32} {le : Bool} {sm0 : Int64} {gs : List gN} {i j : Nat} {g : gN} {p : pN} {ks : List kN} {md : dM} {σ : dS} {rw0 nu : List Int32} (hw : wfG gs) (hg : gs[i]? = some g) (hi : i < ng) (hj : j < np) (hng : ng ≤ 20) (hnp : np ≤ 10) (hlk : lk = kpV ks.length) (hO : M 1 = some (psF ng np lk nk wa fg fp fv le sm0)) (hA : M 2 = some (arE 1 20 (gA 100 ng))) (hB : M 3 = some (arE 2 10 (gA 150 np))) (hG : isG M gs) (hD : isD M 12 md σ) (hP : M (150 + j) = some (prE p)) (hK : isK M ks) (hI : isI M 4 rw0) (hN : isI M 6 nu) : mg_Ct Y_PS_findAmongKept { frames := 12, cells := 0, slots := 0, locals := 282 } [.ref 1, .int (nI i), .int (nI j)] M (fkP M i j (psF ng np lk nk wa fg fp fv le sm0) (fun vv => psF ng np lk nk wa (.ref (100 + i)) (.ref (150 + j)) vv false sm0) (findKF gs p i (nI i) (nI j) ks ks.length md σ)) := by
  refine mg_met [some (.ref 1), some (.int (nI i)), some (.int (nI j)), none, none, none, none] (by decide +kernel) rfl (Nat.le_of_ble_eq_true rfl) ?_
  intro X hR _
  refine mg_aload_n d_PS_findAmongKept_0 rfl rfl ?_
  refine mg_iload_n d_PS_findAmongKept_1 rfl rfl ?_
  refine mg_callV (vl_PS_61 rfl) d_PS_findAmongKept_2 hO rfl rfl (c_PS_generatorAt_in hO hA hi hng) rfl rfl (by rw [hR]; decide) (by rw [hR]; decide) (Nat.le_of_ble_eq_true rfl) ?_
  rintro v M2 ⟨rfl, rfl⟩
  refine mg_astore_n d_PS_findAmongKept_5 rfl (Nat.le_of_ble_eq_true rfl) rfl ?_
  refine mg_aload_n d_PS_findAmongKept_6 rfl rfl ?_
  refine mg_iload_n d_PS_findAmongKept_7 rfl rfl ?_
  refine mg_callV (vl_PS_65 rfl) d_PS_findAmongKept_8 hO rfl rfl (c_PS_propertyAt_in hO hB hj hnp) rfl rfl (by rw [hR]; decide) (by rw [hR]; decide) (Nat.le_of_ble_eq_true rfl) ?_
  rintro v M3 ⟨rfl, rfl⟩
  refine mg_astore d_PS_findAmongKept_11 (Nat.le_of_ble_eq_true rfl) rfl ?_
  refine mg_aload_n d_PS_findAmongKept_13 rfl rfl ?_
  refine mg_ifnull d_PS_findAmongKept_14 ?_
  refine mg_aload d_PS_findAmongKept_17 rfl ?_
  refine mg_ifnonnull (tgt := 24) d_PS_findAmongKept_19 (by decide) ?_
  refine mg_aload_n d_PS_findAmongKept_24 rfl rfl ?_
  refine mg_getfield fl_PS_82 d_PS_findAmongKept_25 hO rfl ?_
  have K := lp_findKept (X := X) (M0 := M3) (lk := lk) (gi := nI i) (pi := nI j) (ng := ng) (np := np) (nk := nk) (fg := fg) (fp := fp) (wa := wa) (fv := fv) (le := le) (sm0 := sm0) hR hw hg ks.length M3 md σ none hO hG hD hP hK hI hN sm.rf (Nat.le_refl _) rfl
  rw [hlk] at K ⊢
  generalize ks.length = n at K ⊢
  cases n with
  | zero =>
    refine mg_astoreN d_PS_findAmongKept_28 (Nat.le_of_ble_eq_true rfl) rfl ?_
    exact K
  | succ n =>
    refine mg_astore d_PS_findAmongKept_28 (Nat.le_of_ble_eq_true rfl) rfl ?_
    exact K
end
section
/-! TRIES by a seed -/
abbrev sdR : Type := Option Int32 × Int32 × Nat × dM × dS
def tryR (gs : List gN) (gv : List Int32) (z i : Nat) (x : Int64) (lm : Nat → Int32) : dS := giveF gs (1, gv, nI z) 8 i ([], [], false, x, lm)
/-- tries from size z on: passed, wasted so far; at most n more -/
def seedF (gs : List gN) (p : pN) (i runs : Nat) : Nat → Nat → Nat → Nat → dM → dS → sdR
  | 0, _, _, wa, md, σ => (none, nI runs, wa, md, σ)
  | n + 1, z, pa, wa, md, σ => if runs ≤ pa then (none, nI runs, wa, md, σ) else
    if isBd (vdS p (tryR gs md.2.1 z i σ.2.2.2.1 σ.2.2.2.2)) = true then (some (vdS p (tryR gs md.2.1 z i σ.2.2.2.1 σ.2.2.2.2)), -1, wa, (1, md.2.1, nI z), tryR gs md.2.1 z i σ.2.2.2.1 σ.2.2.2.2)
    else if runs < (if vdS p (tryR gs md.2.1 z i σ.2.2.2.1 σ.2.2.2.2) = 0 then wa else wa + 1) then (none, -2, (if vdS p (tryR gs md.2.1 z i σ.2.2.2.1 σ.2.2.2.2) = 0 then wa else wa + 1), (1, md.2.1, nI z), tryR gs md.2.1 z i σ.2.2.2.1 σ.2.2.2.2)
    else seedF gs p i runs n (z + 1) (if vdS p (tryR gs md.2.1 z i σ.2.2.2.1 σ.2.2.2.2) = 0 then pa + 1 else pa) (if vdS p (tryR gs md.2.1 z i σ.2.2.2.1 σ.2.2.2.2) = 0 then wa else wa + 1) (1, md.2.1, nI z) (tryR gs md.2.1 z i σ.2.2.2.1 σ.2.2.2.2)
def sdP (M : mg_M) (o1 : Nat → va_E) (o2 : Nat → Int32 → va_E) (r : sdR) : Option Value → mg_M → Prop := fun v M' => match r with
  | (none, c, wa, md, σ) => v = some (.int c) ∧ M' 1 = some (o1 wa) ∧ isD M' 12 md σ ∧ ∀ k, k ≠ 1 → (k < 12 ∨ 20 ≤ k) → M' k = M k
  | (some w, c, wa, md, σ) => v = some (.int c) ∧ M' 1 = some (o2 wa w) ∧ isI M' 4 σ.1 ∧ isI M' 6 σ.2.1 ∧ isD M' 12 md σ ∧ ∀ k, k ≠ 1 → (k < 4 ∨ 8 ≤ k) → (k < 12 ∨ 20 ≤ k) → M' k = M k

set_option maxHeartbeats 4000000 in
set_option maxRecDepth 100000 in
theorem lp_seed {X : mg_X} {M0 : mg_M} {ng np nk : Nat} {lk fg fp : Value} {fv : Int32} {le : Bool} {sm0 : Int64} {gs : List gN} {i j : Nat} {g : gN} {p : pN} {runs : Nat} {sd : Int64} {r : sdR} {rw0 nu : List Int32} (hR : mg_R X = { frames := 11, cells := 0, slots := 0, locals := 259 }) (hw : wfG gs) (hg : gs[i]? = some g) (hrn : runs ≤ 60) : ∀ (n z pa wa : Nat) (M : mg_M) (md : dM) (σ : dS) (t : Option Value), z + n = 121 → pa ≤ 200 → wa ≤ 200 + z → M 1 = some (psF ng np lk nk (nI wa) fg fp fv le sm0) → isG M gs → isD M 12 md σ → M (150 + j) = some (prE p) → isI M 4 rw0 → isI M 6 nu → (∀ k, k ≠ 1 → (k < 12 ∨ 20 ≤ k) → M k = M0 k) → seedF gs p i runs n z pa wa md σ = r → mg_G X Y_PS_findBySeed (mg_Q X (sdP M0 (fun wa => psF ng np lk nk (nI wa) fg fp fv le sm0) (fun wa vv => psF ng np lk nk (nI wa) (.ref (100 + i)) (.ref (150 + j)) vv false sm0) r) { frames := 11, cells := 0, slots := 0, locals := 259 }) M 0 0 14 [some (.ref 1), some (.ref (100 + i)), some (.ref (150 + j)), some (.long sd), none, some (.int (nI runs)), some (.int (nI pa)), some (.int (nI z)), t] [] := by
  intro n
  induction n with
  | zero =>
    intro z pa wa M md σ t hz hpa hwa hO hG hD hP hI hN hs hr
    rw [seedF] at hr
    subst hr
    refine mg_iload d_PS_findBySeed_14 rfl ?_
    refine mg_iload d_PS_findBySeed_16 rfl ?_
    refine mg_icmp_ge (tgt := 109) d_PS_findBySeed_18 (by decide) (fun c_18 => ?_) (fun c_18 => ?_)
    · refine mg_iload d_PS_findBySeed_109 rfl ?_
      exact mg_ireturn d_PS_findBySeed_111 rfl rfl (Nat.le_of_ble_eq_true rfl) (Nat.le_of_ble_eq_true rfl) ⟨rfl, hO, hD, hs⟩
    · refine mg_iload d_PS_findBySeed_21 rfl ?_
      refine mg_bipush (v := 120) d_PS_findBySeed_23 (by decide) ?_
      refine mg_icmp_gt (tgt := 109) d_PS_findBySeed_25 (by decide) (fun c_25 => ?_) (fun c_25 => absurd (nI_lt (a := 120) (b := z) (by omega) (by omega)) c_25)
      refine mg_iload d_PS_findBySeed_109 rfl ?_
      exact mg_ireturn d_PS_findBySeed_111 rfl rfl (Nat.le_of_ble_eq_true rfl) (Nat.le_of_ble_eq_true rfl) ⟨rfl, hO, hD, hs⟩
  | succ n ih =>
    intro z pa wa M md σ t hz hpa hwa hO hG hD hP hI hN hs hr
    obtain ⟨how, gv, zz⟩ := md
    obtain ⟨cs, ns, il, x, lm⟩ := σ
    rw [seedF] at hr
    dsimp only at hr
    refine mg_iload d_PS_findBySeed_14 rfl ?_
    refine mg_iload d_PS_findBySeed_16 rfl ?_
    refine mg_icmp_ge (tgt := 109) d_PS_findBySeed_18 (by decide) (fun c_18 => ?_) (fun c_18 => ?_)
    · have hge : runs ≤ pa := by
        rcases Nat.lt_or_ge pa runs with q | q
        · exact absurd c_18 (nI_ge q (by omega))
        · exact q
      rw [if_pos hge] at hr
      subst hr
      refine mg_iload d_PS_findBySeed_109 rfl ?_
      exact mg_ireturn d_PS_findBySeed_111 rfl rfl (Nat.le_of_ble_eq_true rfl) (Nat.le_of_ble_eq_true rfl) ⟨rfl, hO, hD, hs⟩
    · have hlt : ¬ runs ≤ pa := fun h => absurd (nI_le h (by omega)) c_18
      rw [if_neg hlt] at hr
      refine mg_iload d_PS_findBySeed_21 rfl ?_
      refine mg_bipush (v := 120) d_PS_findBySeed_23 (by decide) ?_
      refine mg_icmp_gt (tgt := 109) d_PS_findBySeed_25 (by decide) (fun c_25 => ?_) (fun c_25 => ?_)
      · exact absurd c_25 (nI_nlt (b := z) (a := 120) (by omega) (by decide))
      · first | refine mg_aload_n d_PS_findBySeed_28 rfl rfl ?_ | refine mg_aload_nN d_PS_findBySeed_28 rfl rfl ?_
        refine mg_getfield fl_PS_40 d_PS_findBySeed_29 hO rfl ?_
        refine mg_iload d_PS_findBySeed_32 rfl ?_
        refine mg_callV (vl_PS_224 rfl) d_PS_findBySeed_34 hD.1 rfl rfl (c_Dr_beginTry hD) rfl rfl (by rw [hR]; decide) (by rw [hR]; decide) (Nat.le_of_ble_eq_true rfl) ?_
        rintro v M2 ⟨rfl, hD2, hs2⟩
        replace hO := (hs2 1 (by omega)).trans hO
        replace hG := hG.fr hs2 (by omega)
        replace hP := (hs2 (150 + j) (by omega)).trans hP
        replace hI := hI.sm hs2 (by omega)
        replace hN := hN.sm hs2 (by omega)
        replace hs : ∀ k, k ≠ 1 → (k < 12 ∨ 20 ≤ k) → M2 k = M0 k := fun k h1 h2 => (hs2 k h2).trans (hs k h1 h2)
        clear hs2
        first | refine mg_aload_n d_PS_findBySeed_37 rfl rfl ?_ | refine mg_aload_nN d_PS_findBySeed_37 rfl rfl ?_
        first | refine mg_aload_n d_PS_findBySeed_38 rfl rfl ?_ | refine mg_aload_nN d_PS_findBySeed_38 rfl rfl ?_
        refine mg_getfield fl_PS_40 d_PS_findBySeed_39 hO rfl ?_
        refine mg_callG (gv_PS rfl) d_PS_findBySeed_42 hG hg (wf_dp hw hg).1 (c_give hw _ 8 i g hg (wf_dp hw hg).2 8 _ _ (wf_dp hw hg).2 hG hD2) rfl (by rw [hR]; have := (wf_dp hw hg).2; constructor <;> simp only [] <;> omega) (by rw [hR]; exact ⟨Nat.le_of_ble_eq_true rfl, Nat.le_of_ble_eq_true rfl⟩) (Nat.le_of_ble_eq_true rfl) ?_
        rintro v M3 ⟨rfl, hD3, hs3⟩
        replace hO := (hs3 1 (by omega)).trans hO
        replace hG := hG.fr hs3 (by omega)
        replace hP := (hs3 (150 + j) (by omega)).trans hP
        replace hI := hI.sm hs3 (by omega)
        replace hN := hN.sm hs3 (by omega)
        replace hs : ∀ k, k ≠ 1 → (k < 12 ∨ 20 ≤ k) → M3 k = M0 k := fun k h1 h2 => (hs3 k h2).trans (hs k h1 h2)
        clear hs3 hD
        rw [show giveF gs (1, gv, nI z) 8 i ([], [], false, x, lm) = tryR gs gv z i x lm from rfl] at hD3
        generalize tryR gs gv z i x lm = σ3 at hD3 hr
        have hD := hD3
        clear hD3 hD2
        first | refine mg_aload_n d_PS_findBySeed_45 rfl rfl ?_ | refine mg_aload_nN d_PS_findBySeed_45 rfl rfl ?_
        first | refine mg_aload_n d_PS_findBySeed_46 rfl rfl ?_ | refine mg_aload_nN d_PS_findBySeed_46 rfl rfl ?_
        refine mg_callV (vl_PS_193 rfl) d_PS_findBySeed_47 hO rfl rfl (c_PS_verdict hO hD hP) rfl rfl (by rw [hR]; decide) (by rw [hR]; decide) (Nat.le_of_ble_eq_true rfl) ?_
        rintro v M4 ⟨rfl, rfl⟩
        generalize vdS p σ3 = vv at hr ⊢
        refine mg_istore d_PS_findBySeed_50 (Nat.le_of_ble_eq_true rfl) rfl ?_
        refine mg_iload d_PS_findBySeed_52 rfl ?_
        refine mg_callS (sl_PS_210 rfl) d_PS_findBySeed_54 (c_PS_isBad) rfl rfl (by rw [hR]; decide) (by rw [hR]; decide) (Nat.le_of_ble_eq_true rfl) ?_
        rintro v M5 ⟨rfl, rfl⟩
        refine mg_if_eq (tgt := 70) d_PS_findBySeed_57 (by decide) (fun c_57 => ?_) (fun c_57 => ?_)
        · rw [if_neg (by rw [bI_f c_57]; decide)] at hr
          refine mg_iload d_PS_findBySeed_70 rfl ?_
          refine mg_if_ne (tgt := 81) d_PS_findBySeed_72 (by decide) (fun c_72 => ?_) (fun c_72 => ?_)
          · rw [if_neg c_72, if_neg c_72] at hr
            first | refine mg_aload_n d_PS_findBySeed_81 rfl rfl ?_ | refine mg_aload_nN d_PS_findBySeed_81 rfl rfl ?_
            refine mg_dup d_PS_findBySeed_82 rfl ?_
            refine mg_getfield fl_PS_69 d_PS_findBySeed_83 hO rfl ?_
            refine mg_iconst (v := 1) d_PS_findBySeed_86 (by decide) ?_
            refine mg_iadd d_PS_findBySeed_87 ?_
            refine mg_putfield (fw_PS_69 _) d_PS_findBySeed_88 hO (Nat.le_of_ble_eq_true rfl) (fun _ => ⟨rfl, rfl⟩) ?_
            refine mg_eqM (M' := mg_up M5 1 (psF ng np lk nk (nI (wa + 1)) fg fp fv le sm0)) (by rw [← nI_1]; rfl) ?_
            replace hs : ∀ k, k ≠ 1 → (k < 12 ∨ 20 ≤ k) → mg_up M5 1 (psF ng np lk nk (nI (wa + 1)) fg fp fv le sm0) k = M0 k := fun k h1 h2 => by rw [mg_up_n _ _ h1]; exact hs k h1 h2
            replace hO : mg_up M5 1 (psF ng np lk nk (nI (wa + 1)) fg fp fv le sm0) 1 = some (psF ng np lk nk (nI (wa + 1)) fg fp fv le sm0) := mg_up_s _ _ _
            replace hG := hG.up (k := 1) (e := psF ng np lk nk (nI (wa + 1)) fg fp fv le sm0) (by omega)
            replace hD := hD.up (k := 1) (e := psF ng np lk nk (nI (wa + 1)) fg fp fv le sm0) (by omega)
            replace hI := hI.up (k := 1) (e := psF ng np lk nk (nI (wa + 1)) fg fp fv le sm0) (by omega) (by omega)
            replace hN := hN.up (k := 1) (e := psF ng np lk nk (nI (wa + 1)) fg fp fv le sm0) (by omega) (by omega)
            replace hP : mg_up M5 1 (psF ng np lk nk (nI (wa + 1)) fg fp fv le sm0) (150 + j) = some (prE p) := by rw [mg_up_n _ _ (by omega)]; exact hP
            generalize mg_up M5 1 (psF ng np lk nk (nI (wa + 1)) fg fp fv le sm0) = M6 at hs hO hG hD hI hN hP ⊢
            refine mg_aload_n d_PS_findBySeed_91 rfl rfl ?_
            refine mg_getfield fl_PS_69 d_PS_findBySeed_92 hO rfl ?_
            refine mg_iload d_PS_findBySeed_95 rfl ?_
            refine mg_icmp_le (tgt := 103) d_PS_findBySeed_97 (by decide) (fun c_97 => ?_) (fun c_97 => ?_)
            · have hle : ¬ runs < (wa + 1) := fun h => absurd c_97 (nI_ge h (by omega))
              rw [if_neg hle] at hr
              refine mg_iinc (v := nI (z + 1)) d_PS_findBySeed_103 rfl (nI_1 _) (Nat.le_of_ble_eq_true rfl) rfl ?_
              refine mg_goto (tgt := 14) d_PS_findBySeed_106 (by decide) ?_
              exact ih (z + 1) pa (wa + 1) _ _ _ _ (by omega) (by omega) (by omega) hO hG hD hP hI hN hs hr
            · have hgt : runs < (wa + 1) := by
                rcases Nat.lt_or_ge runs (wa + 1) with q | q
                · exact q
                · exact absurd (nI_le q (by omega)) c_97
              rw [if_pos hgt] at hr
              subst hr
              refine mg_bipush (v := -2) d_PS_findBySeed_100 (by decide) ?_
              exact mg_ireturn d_PS_findBySeed_102 rfl rfl (Nat.le_of_ble_eq_true rfl) (Nat.le_of_ble_eq_true rfl) ⟨rfl, hO, hD, hs⟩
          · rw [if_pos c_72, if_pos c_72] at hr
            refine mg_iinc (v := nI (pa + 1)) d_PS_findBySeed_75 rfl (nI_1 _) (Nat.le_of_ble_eq_true rfl) rfl ?_
            refine mg_goto (tgt := 91) d_PS_findBySeed_78 (by decide) ?_
            refine mg_aload_n d_PS_findBySeed_91 rfl rfl ?_
            refine mg_getfield fl_PS_69 d_PS_findBySeed_92 hO rfl ?_
            refine mg_iload d_PS_findBySeed_95 rfl ?_
            refine mg_icmp_le (tgt := 103) d_PS_findBySeed_97 (by decide) (fun c_97 => ?_) (fun c_97 => ?_)
            · have hle : ¬ runs < wa := fun h => absurd c_97 (nI_ge h (by omega))
              rw [if_neg hle] at hr
              refine mg_iinc (v := nI (z + 1)) d_PS_findBySeed_103 rfl (nI_1 _) (Nat.le_of_ble_eq_true rfl) rfl ?_
              refine mg_goto (tgt := 14) d_PS_findBySeed_106 (by decide) ?_
              exact ih (z + 1) (pa + 1) wa _ _ _ _ (by omega) (by omega) (by omega) hO hG hD hP hI hN hs hr
            · have hgt : runs < wa := by
                rcases Nat.lt_or_ge runs wa with q | q
                · exact q
                · exact absurd (nI_le q (by omega)) c_97
              rw [if_pos hgt] at hr
              subst hr
              refine mg_bipush (v := -2) d_PS_findBySeed_100 (by decide) ?_
              exact mg_ireturn d_PS_findBySeed_102 rfl rfl (Nat.le_of_ble_eq_true rfl) (Nat.le_of_ble_eq_true rfl) ⟨rfl, hO, hD, hs⟩
        · rw [if_pos (bI_t c_57)] at hr
          subst hr
          first | refine mg_aload_n d_PS_findBySeed_60 rfl rfl ?_ | refine mg_aload_nN d_PS_findBySeed_60 rfl rfl ?_
          first | refine mg_aload_n d_PS_findBySeed_61 rfl rfl ?_ | refine mg_aload_nN d_PS_findBySeed_61 rfl rfl ?_
          first | refine mg_aload_n d_PS_findBySeed_62 rfl rfl ?_ | refine mg_aload_nN d_PS_findBySeed_62 rfl rfl ?_
          refine mg_iload d_PS_findBySeed_63 rfl ?_
          refine mg_callV (vl_PS_213 rfl) d_PS_findBySeed_65 hO rfl rfl (c_PS_takeFound hO hD hI hN) rfl rfl (by rw [hR]; decide) (by rw [hR]; decide) (Nat.le_of_ble_eq_true rfl) ?_
          rintro v M6 ⟨rfl, hO6, hI6, hN6, hs6⟩
          refine mg_iconst (v := -1) d_PS_findBySeed_68 (by decide) ?_
          refine mg_ireturn d_PS_findBySeed_69 rfl rfl (Nat.le_of_ble_eq_true rfl) (Nat.le_of_ble_eq_true rfl) ⟨rfl, hO6, hI6, hN6, hD.fr (lo := 0) (hi := 8) (fun k hk => hs6 k (by omega) (by omega)) (by omega), fun k h1 h2 h3 => ?_⟩
          rw [hs6 k h1 h2]; exact hs k h1 h3

set_option maxHeartbeats 4000000 in
set_option maxRecDepth 100000 in
theorem c_PS_findBySeed {M : mg_M} {ng np nk : Nat} {lk fg fp : Value} {fv : Int32} {le : Bool} {sm0 : Int64} {gs : List gN} {i j : Nat} {g : gN} {p : pN} {runs : Nat} {sd x : Int64} {md : dM} {cs ns : List Int32} {il : Bool} {lm : Nat → Int32} {rw0 nu : List Int32} (hw : wfG gs) (hg : gs[i]? = some g) (hrn : runs ≤ 60) (hO : M 1 = some (psF ng np lk nk (nI 0) fg fp fv le sm0)) (hG : isG M gs) (hD : isD M 12 md (cs, ns, il, x, lm)) (hP : M (150 + j) = some (prE p)) (hI : isI M 4 rw0) (hN : isI M 6 nu) : mg_Ct Y_PS_findBySeed { frames := 11, cells := 0, slots := 0, locals := 259 } [.ref 1, .ref (100 + i), .ref (150 + j), .long sd, .int (nI runs)] M (sdP M (fun wa => psF ng np lk nk (nI wa) fg fp fv le sm0) (fun wa vv => psF ng np lk nk (nI wa) (.ref (100 + i)) (.ref (150 + j)) vv false sm0) (seedF gs p i runs 121 0 0 0 md (cs, ns, il, sd, lm))) := by
  obtain ⟨how, gv, zz⟩ := md
  refine mg_met [some (.ref 1), some (.ref (100 + i)), some (.ref (150 + j)), some (.long sd), none, some (.int (nI runs)), none, none, none] (by decide +kernel) rfl (Nat.le_of_ble_eq_true rfl) ?_
  intro X hR _
  refine mg_iconst (v := 0) d_PS_findBySeed_0 (by decide) ?_
  refine mg_istore d_PS_findBySeed_1 (Nat.le_of_ble_eq_true rfl) rfl ?_
  refine mg_aload_n d_PS_findBySeed_3 rfl rfl ?_
  refine mg_getfield fl_PS_40 d_PS_findBySeed_4 hO rfl ?_
  refine mg_lload_n d_PS_findBySeed_7 rfl rfl ?_
  refine mg_callV (vl_PS_220 rfl) d_PS_findBySeed_8 hD.1 rfl rfl (c_Dr_sow hD) rfl rfl (by rw [hR]; decide) (by rw [hR]; decide) (Nat.le_of_ble_eq_true rfl) ?_
  rintro v M2 ⟨rfl, hD2, hs2⟩
  refine mg_iconst (v := 0) d_PS_findBySeed_11 (by decide) ?_
  refine mg_istore d_PS_findBySeed_12 (Nat.le_of_ble_eq_true rfl) rfl ?_
  exact lp_seed (M0 := M) hR hw hg hrn 121 0 0 0 M2 _ _ none (by omega) (by omega) (by omega) ((hs2 1 (by omega)).trans hO) (hG.fr hs2 (by omega)) hD2 ((hs2 (150 + j) (by omega)).trans hP) (hI.sm hs2 (by omega)) (hN.sm hs2 (by omega)) (fun k _ h2 => hs2 k h2) rfl
end
section
/-! WHAT A RUN DOES NOT DEPEND ON -/
def dRel (how : Int32) (σ τ : dS) : Prop := σ.1 = τ.1 ∧ σ.2.1 = τ.2.1 ∧ σ.2.2.1 = τ.2.2.1 ∧ (how = 1 → σ.2.2.2.1 = τ.2.2.2.1) ∧ ∀ j, j < σ.1.length → σ.2.2.2.2 j = τ.2.2.2.2 j
def mRel (md me : dM) : Prop := md.1 = me.1 ∧ (md.1 ≠ 1 → md.2.1 = me.2.1) ∧ (md.1 = 1 → md.2.2 = me.2.2)
theorem pick_rel {how : Int32} {gv gv' : List Int32} {pl sp sp' : Int32} {x x' : Int64} (hg : how ≠ 1 → gv = gv') (hx : how = 1 → x = x') (hs : how = 1 → sp = sp') : (pickF how gv pl sp x).1 = (pickF how gv' pl sp' x').1 ∧ (how = 1 → (pickF how gv pl sp x).2 = (pickF how gv' pl sp' x').2) := by
  by_cases h1 : how = 1
  · rw [hx h1, hs h1]
    unfold pickF
    rw [if_pos h1, if_pos h1]
    exact ⟨rfl, fun _ => rfl⟩
  · rw [hg h1]
    unfold pickF
    rw [if_neg h1, if_neg h1]
    by_cases h2 : how = 2
    · rw [if_pos h2, if_pos h2]; exact ⟨rfl, fun h => absurd h h1⟩
    · rw [if_neg h2, if_neg h2]; exact ⟨rfl, fun h => absurd h h1⟩
theorem drawF_ill {md : dM} {cs ns : List Int32} {x : Int64} {lm : Nat → Int32} {m s : Int32} : drawF md (cs, ns, true, x, lm) m s = (0, (cs, ns, true, x, lm)) := by
  unfold drawF
  rw [if_pos rfl]
theorem dRel_mk {how : Int32} {cs ns : List Int32} {il : Bool} {x y : Int64} {f g : Nat → Int32} (h1 : how = 1 → x = y) (h2 : ∀ j, j < cs.length → f j = g j) : dRel how (cs, ns, il, x, f) (cs, ns, il, y, g) := ⟨rfl, rfl, rfl, h1, h2⟩
theorem draw_rel {md me : dM} {σ τ : dS} {m sp sp' : Int32} (hm : mRel md me) (h : dRel md.1 σ τ) (hs : md.1 = 1 → sp = sp') : (drawF md σ m sp).1 = (drawF me τ m sp').1 ∧ dRel md.1 (drawF md σ m sp).2 (drawF me τ m sp').2 := by
  obtain ⟨p1, p2⟩ := pick_rel (how := md.1) (gv := md.2.1) (gv' := me.2.1) (pl := nI σ.1.length) (sp := sp) (sp' := sp') (x := σ.2.2.2.1) (x' := τ.2.2.2.1) (fun h => hm.2.1 h) h.2.2.2.1 hs
  unfold drawF
  rw [← hm.1, ← h.1, ← h.2.2.1, ← h.2.1]
  generalize pickF md.1 md.2.1 (nI σ.1.length) sp σ.2.2.2.1 = a at p1 p2 ⊢
  generalize pickF md.1 me.2.1 (nI σ.1.length) sp' τ.2.2.2.1 = b at p1 p2 ⊢
  rw [← p1]
  by_cases hil : σ.2.2.1 = true
  · rw [if_pos hil, if_pos hil]; exact ⟨rfl, h⟩
  · rw [if_neg hil, if_neg hil]
    by_cases hb : a.1 < 0 ∨ m < a.1 ∨ 60 ≤ σ.1.length
    · rw [if_pos hb, if_pos hb]
      exact ⟨Eq.refl (0 : Int32), show dRel md.1 (σ.1, σ.2.1, true, a.2, σ.2.2.2.2) (σ.1, σ.2.1, true, b.2, τ.2.2.2.2) from dRel_mk p2 h.2.2.2.2⟩
    · rw [if_neg hb, if_neg hb]
      refine ⟨Eq.refl a.1, show dRel md.1 (σ.1 ++ [a.1], σ.2.1, false, a.2, upd σ.2.2.2.2 σ.1.length m) (σ.1 ++ [a.1], σ.2.1, false, b.2, upd τ.2.2.2.2 σ.1.length m) from dRel_mk p2 (fun j hj => ?_)⟩
      have hj2 : j < (σ.1 ++ [a.1]).length := hj
      rw [List.length_append] at hj2
      have hj3 : j < σ.1.length + 1 := hj2
      by_cases hjc : j = σ.1.length
      · subst hjc
        show upd σ.2.2.2.2 σ.1.length m σ.1.length = upd τ.2.2.2.2 σ.1.length m σ.1.length
        rw [pk_us, pk_us]
      · show upd σ.2.2.2.2 σ.1.length m j = upd τ.2.2.2.2 σ.1.length m j
        rw [pk_un hjc, pk_un hjc]; exact h.2.2.2.2 j (by omega)
theorem num_rel {how : Int32} {σ τ : dS} {n : Int32} (h : dRel how σ τ) : dRel how (numF σ n) (numF τ n) := by
  obtain ⟨cs, ns, il, x, lm⟩ := σ
  obtain ⟨cs', ns', il', x', lm'⟩ := τ
  obtain ⟨e1, e2, e3, e4, e5⟩ := h
  simp only at e1 e2 e3 e4 e5
  subst e1; subst e2; subst e3
  unfold numF
  dsimp only
  split
  · exact ⟨rfl, rfl, rfl, e4, e5⟩
  · split
    · exact ⟨rfl, rfl, rfl, e4, e5⟩
    · exact ⟨rfl, rfl, rfl, e4, e5⟩
theorem ill_rel {how : Int32} {σ τ : dS} (h : dRel how σ τ) : dRel how (illF σ) (illF τ) := ⟨h.1, h.2.1, rfl, h.2.2.2.1, h.2.2.2.2⟩
theorem cut_rel {how : Int32} {σ τ : dS} {n : Nat} (h : dRel how σ τ) : dRel how (cutF σ n) (cutF τ n) := ⟨h.1, congrArg (List.take n) h.2.1, h.2.2.1, h.2.2.2.1, h.2.2.2.2⟩
theorem raise_rel {how : Int32} {σ τ : dS} {n : Nat} {b : Int32} (h : dRel how σ τ) : dRel how (raiseF σ n b) (raiseF τ n b) := ⟨h.1, congrArg (fun l => raiseL l n b) h.2.1, h.2.2.1, h.2.2.2.1, h.2.2.2.2⟩
theorem list_rel {md me : dM} {s t : dS → dS} (hm : mRel md me) (hs : ∀ σ τ, dRel md.1 σ τ → dRel md.1 (s σ) (t τ)) : ∀ (n : Nat) (σ τ : dS), dRel md.1 σ τ → dRel md.1 (listF s md n σ) (listF t me n τ) := by
  intro n
  induction n with
  | zero => intro σ τ h; exact h
  | succ n ih =>
    intro σ τ h
    obtain ⟨h1, h2⟩ := draw_rel (m := 1) (sp := 2) (sp' := 2) hm h (fun _ => rfl)
    rw [listF, listF, ← h1]
    split
    · exact ih _ _ (hs _ _ h2)
    · exact h2
theorem keep_rel {how : Int32} {s t : dS → dS} {st : Nat} {b : Int32} (hs : ∀ σ τ, dRel how σ τ → dRel how (s σ) (t τ)) : ∀ (n : Nat) (σ τ : dS), dRel how σ τ → dRel how (keepF s st b n σ) (keepF t st b n τ) := by
  intro n
  induction n with
  | zero => intro σ τ h; exact ill_rel h
  | succ n ih =>
    intro σ τ h
    have h2 := hs _ _ (cut_rel (n := st) h)
    rw [keepF, keepF, ← h.2.2.1, ← h2.2.1]
    split
    · exact ill_rel h
    · split
      · exact h2
      · exact ih _ _ h2
theorem gF_none {gs : List gN} {md : dM} {d i : Nat} {σ : dS} (hg : gs[i]? = none) : giveF gs md (d + 1) i σ = σ := by simp only [giveF, hg]
theorem gF_0 {gs : List gN} {md : dM} {d i : Nat} {σ : dS} {a b : Int32} {dp : Nat} (hg : gs[i]? = some (0, a, b, dp)) : giveF gs md (d + 1) i σ = numF (drawF md σ (b - a) (spanF md.2.2 (b - a))).2 (a + (drawF md σ (b - a) (spanF md.2.2 (b - a))).1) := by simp only [giveF, hg]
theorem gF_1 {gs : List gN} {md : dM} {d i : Nat} {σ : dS} {a b : Int32} {dp : Nat} (hg : gs[i]? = some (1, a, b, dp)) : giveF gs md (d + 1) i σ = listF (giveF gs md d a.toNatClampNeg) md b.toNatClampNeg σ := by simp only [giveF, hg]
theorem gF_2 {gs : List gN} {md : dM} {d i : Nat} {σ : dS} {a b : Int32} {dp : Nat} (hg : gs[i]? = some (2, a, b, dp)) : giveF gs md (d + 1) i σ = if (giveF gs md d a.toNatClampNeg σ).2.2.1 = true then giveF gs md d a.toNatClampNeg σ else giveF gs md d b.toNatClampNeg (giveF gs md d a.toNatClampNeg σ) := by simp only [giveF, hg]
theorem gF_3 {gs : List gN} {md : dM} {d i : Nat} {σ : dS} {a b : Int32} {dp : Nat} (hg : gs[i]? = some (3, a, b, dp)) : giveF gs md (d + 1) i σ = if (drawF md σ 1 2).2.2.2.1 = true then (drawF md σ 1 2).2 else if (drawF md σ 1 2).1 = 0 then giveF gs md d a.toNatClampNeg (drawF md σ 1 2).2 else giveF gs md d b.toNatClampNeg (drawF md σ 1 2).2 := by simp only [giveF, hg]
theorem gF_4 {gs : List gN} {md : dM} {d i : Nat} {σ : dS} {a b : Int32} {dp : Nat} (hg : gs[i]? = some (4, a, b, dp)) : giveF gs md (d + 1) i σ = keepF (giveF gs md d a.toNatClampNeg) σ.2.1.length b 3 σ := by simp only [giveF, hg]
theorem gF_5 {gs : List gN} {md : dM} {d i k : Nat} {σ : dS} {a b : Int32} {dp : Nat} (hg : gs[i]? = some (k + 5, a, b, dp)) : giveF gs md (d + 1) i σ = raiseF (giveF gs md d a.toNatClampNeg σ) σ.2.1.length b := by simp only [giveF, hg]
theorem give_rel {gs : List gN} {md me : dM} (hm : mRel md me) : ∀ (d i : Nat) (σ τ : dS), dRel md.1 σ τ → dRel md.1 (giveF gs md d i σ) (giveF gs me d i τ) := by
  intro d
  induction d with
  | zero => intro i σ τ h; exact h
  | succ d ih =>
    intro i σ τ h
    cases hg : gs[i]? with
    | none => rw [gF_none hg, gF_none hg]; exact h
    | some g =>
      obtain ⟨k, a, b, dp⟩ := g
      match k, hg with
      | 0, hg =>
        obtain ⟨h1, h2⟩ := draw_rel (m := b - a) (sp := spanF md.2.2 (b - a)) (sp' := spanF me.2.2 (b - a)) hm h (fun e => by rw [hm.2.2 e])
        rw [gF_0 hg, gF_0 hg, ← h1]
        exact num_rel h2
      | 1, hg => rw [gF_1 hg, gF_1 hg]; exact list_rel hm (ih _) _ _ _ h
      | 2, hg =>
        have h1 := ih a.toNatClampNeg _ _ h
        rw [gF_2 hg, gF_2 hg, ← h1.2.2.1]
        split
        · exact h1
        · exact ih _ _ _ h1
      | 3, hg =>
        obtain ⟨h1, h2⟩ := draw_rel (m := 1) (sp := 2) (sp' := 2) hm h (fun _ => rfl)
        rw [gF_3 hg, gF_3 hg, ← h2.2.2.1, ← h1]
        split
        · exact h2
        · split
          · exact ih _ _ _ h2
          · exact ih _ _ _ h2
      | 4, hg =>
        rw [gF_4 hg, gF_4 hg, ← h.2.1]
        exact keep_rel (ih _) _ _ _ h
      | k + 5, hg =>
        rw [gF_5 hg, gF_5 hg, ← h.2.1]
        exact raise_rel (ih _ _ _ h)
/-- a row's run, as it is whatever stood there before -/
def rowC (gs : List gN) (i : Nat) (ys : List Int32) : List Int32 × List Int32 × Bool := ((runR gs ys 0 i 0 (fun _ => 0)).1, (runR gs ys 0 i 0 (fun _ => 0)).2.1, (runR gs ys 0 i 0 (fun _ => 0)).2.2.1)
theorem row_eq (gs : List gN) (i : Nat) (ys : List Int32) (z : Int32) (x : Int64) (lm : Nat → Int32) : (runR gs ys z i x lm).1 = (rowC gs i ys).1 ∧ (runR gs ys z i x lm).2.1 = (rowC gs i ys).2.1 ∧ (runR gs ys z i x lm).2.2.1 = (rowC gs i ys).2.2 := by
  have h := give_rel (gs := gs) (md := (0, ys, z)) (me := (0, ys, 0)) ⟨rfl, fun _ => rfl, fun e => absurd (show (0 : Int32) = 1 from e) (by decide)⟩ 8 i ([], [], false, x, lm) ([], [], false, 0, fun _ => 0) ⟨rfl, rfl, rfl, fun e => absurd (show (0 : Int32) = 1 from e) (by decide), fun j hj => absurd hj (by simp)⟩
  exact ⟨h.1, h.2.1, h.2.2.1⟩
/-- a try's run -/
def tryC (gs : List gN) (i z : Nat) (x : Int64) : List Int32 × List Int32 × Bool × Int64 := ((tryR gs [] z i x (fun _ => 0)).1, (tryR gs [] z i x (fun _ => 0)).2.1, (tryR gs [] z i x (fun _ => 0)).2.2.1, (tryR gs [] z i x (fun _ => 0)).2.2.2.1)
theorem try_eq (gs : List gN) (gv : List Int32) (i z : Nat) (x : Int64) (lm : Nat → Int32) : (tryR gs gv z i x lm).1 = (tryC gs i z x).1 ∧ (tryR gs gv z i x lm).2.1 = (tryC gs i z x).2.1 ∧ (tryR gs gv z i x lm).2.2.1 = (tryC gs i z x).2.2.1 ∧ (tryR gs gv z i x lm).2.2.2.1 = (tryC gs i z x).2.2.2 := by
  have h := give_rel (gs := gs) (md := (1, gv, nI z)) (me := (1, [], nI z)) ⟨rfl, fun e => absurd rfl e, fun _ => rfl⟩ 8 i ([], [], false, x, lm) ([], [], false, x, fun _ => 0) ⟨rfl, rfl, rfl, fun _ => rfl, fun j hj => absurd hj (by simp)⟩
  exact ⟨h.1, h.2.1, h.2.2.1, h.2.2.2.1 rfl⟩
/-- a turn's run -/
def turnC (gs : List gN) (i : Nat) (gv : List Int32) : dS := giveF gs (2, gv, 0) 8 i ([], [], false, 0, fun _ => 0)
theorem next_congr {cs : List Int32} {lm lm' : Nat → Int32} : ∀ n, (∀ j, j < n → lm j = lm' j) → nextF cs lm n = nextF cs lm' n
  | 0, _ => rfl
  | n + 1, h => by
    rw [nextF, nextF, h n (by omega), next_congr n (fun j hj => h j (by omega))]
theorem turn_eq (gs : List gN) (i : Nat) (gv : List Int32) (z : Int32) (x : Int64) (lm : Nat → Int32) : (giveF gs (2, gv, z) 8 i ([], [], false, x, lm)).2.1 = (turnC gs i gv).2.1 ∧ (giveF gs (2, gv, z) 8 i ([], [], false, x, lm)).2.2.1 = (turnC gs i gv).2.2.1 ∧ nextF (giveF gs (2, gv, z) 8 i ([], [], false, x, lm)).1 (giveF gs (2, gv, z) 8 i ([], [], false, x, lm)).2.2.2.2 (giveF gs (2, gv, z) 8 i ([], [], false, x, lm)).1.length = nextF (turnC gs i gv).1 (turnC gs i gv).2.2.2.2 (turnC gs i gv).1.length := by
  have h := give_rel (gs := gs) (md := (2, gv, z)) (me := (2, gv, 0)) ⟨rfl, fun _ => rfl, fun e => absurd (show (2 : Int32) = 1 from e) (by decide)⟩ 8 i ([], [], false, x, lm) ([], [], false, 0, fun _ => 0) ⟨rfl, rfl, rfl, fun e => absurd (show (2 : Int32) = 1 from e) (by decide), fun j hj => absurd hj (by simp)⟩
  refine ⟨h.2.1, h.2.2.1, ?_⟩
  rw [next_congr _ h.2.2.2.2, h.1]
  rfl
end
section
/-! THE CLASS, whole: its state, and the calls that read it or replay a row -/
abbrev fO : Type := Option (Nat × Nat × Int32)
def foG (f : fO) : Value := match f with
  | none => .null
  | some (i, _, _) => .ref (100 + i)
def foP (f : fO) : Value := match f with
  | none => .null
  | some (_, j, _) => .ref (150 + j)
def foV (f : fO) : Int32 := match f with
  | none => 0
  | some (_, _, v) => v
def isR (M : mg_M) (ps : List pN) : Prop := ∀ (i : Nat) (p : pN), ps[i]? = some p → M (150 + i) = some (prE p)
def isFr (M : mg_M) (a b c : Nat) : Prop := (∀ k, 100 + a ≤ k → k < 120 → M k = none) ∧ (∀ k, 150 + b ≤ k → k < 160 → M k = none) ∧ ∀ k, 200 + 3 * c ≤ k → k < 800 → M k = none
/-- far out all handles are free -/
def isJ (M : mg_M) : Prop := ∃ T, 10000 ≤ T ∧ ∀ k, T ≤ k → M k = none
def isPS (M : mg_M) (gs : List gN) (ps : List pN) (ks : List kN) (wa : Nat) (fo : fO) (le : Bool) (row nu pu : List Int32) (s : Int64) : Prop :=
  M 1 = some (psF gs.length ps.length (kpV ks.length) ks.length (nI wa) (foG fo) (foP fo) (foV fo) le s) ∧ M 2 = some (arE 1 20 (gA 100 gs.length)) ∧ M 3 = some (arE 2 10 (gA 150 ps.length)) ∧ isG M gs ∧ isR M ps ∧ isK M ks ∧ isI M 4 row ∧ isI M 6 nu ∧ isI M 8 pu ∧ (∃ st, isI M 10 st) ∧ (∃ md σ, isD M 12 md σ) ∧ isFr M gs.length ps.length ks.length ∧ isJ M
/-- what lies behind 20, and the two arrays, are as they were -/
def smB (M M' : mg_M) : Prop := ∀ k, (k = 2 ∨ k = 3 ∨ 20 ≤ k) → M' k = M k
theorem isPS.mk' {M M' : mg_M} {gs : List gN} {ps : List pN} {ks : List kN} {wa wa' : Nat} {fo fo' : fO} {le le' : Bool} {row nu pu row' nu' pu' : List Int32} {s s' : Int64} (h : isPS M gs ps ks wa fo le row nu pu s) (hO : M' 1 = some (psF gs.length ps.length (kpV ks.length) ks.length (nI wa') (foG fo') (foP fo') (foV fo') le' s')) (h4 : isI M' 4 row') (h6 : isI M' 6 nu') (h8 : isI M' 8 pu') (h10 : ∃ st, isI M' 10 st) (h12 : ∃ md σ, isD M' 12 md σ) (hs : smB M M') : isPS M' gs ps ks wa' fo' le' row' nu' pu' s' := by
  obtain ⟨-, a2, a3, aG, aR, aK, -, -, -, -, -, aF, T, aT, aJ⟩ := h
  refine ⟨hO, by rw [hs 2 (by omega)]; exact a2, by rw [hs 3 (by omega)]; exact a3, fun i g hg => by rw [hs _ (by omega)]; exact aG i g hg, fun i p hp => by rw [hs _ (by omega)]; exact aR i p hp, fun i k hk => ?_, h4, h6, h8, h10, h12, ?_, T, aT, fun k hk => by rw [hs k (by omega)]; exact aJ k hk⟩
  · obtain ⟨b1, b2⟩ := aK i k hk
    refine ⟨by rw [hs _ (by omega)]; exact b1, ?_⟩
    obtain ⟨f, c1, c2, c3⟩ := b2
    exact ⟨f, by rw [hs _ (by omega)]; exact c1, by rw [hs _ (by omega)]; exact c2, c3⟩
  · exact ⟨fun k h1 h2 => by rw [hs k (by omega)]; exact aF.1 k h1 h2, fun k h1 h2 => by rw [hs k (by omega)]; exact aF.2.1 k h1 h2, fun k h1 h2 => by rw [hs k (by omega)]; exact aF.2.2 k h1 h2⟩
/-- nothing but what is the class's has changed -/
def smC (M M' : mg_M) : Prop := ∀ k, (k < 1 ∨ (1000 ≤ k ∧ k < 10000)) → M' k = M k
theorem smC.rf {M : mg_M} : smC M M := fun _ _ => rfl
theorem smC.of {lo hi : Nat} {M M' : mg_M} (h : sm lo hi M M') (h1 : 1 ≤ lo) (h2 : hi ≤ 1000) : smC M M' := fun k hk => h k (by omega)
theorem smC.tr {M M' M'' : mg_M} (h : smC M M') (h' : smC M' M'') : smC M M'' := fun q hq => (h' q hq).trans (h q hq)
theorem isPS.frM {M M' : mg_M} {gs : List gN} {ps : List pN} {ks : List kN} {wa : Nat} {fo : fO} {le : Bool} {row nu pu : List Int32} {s : Int64} (h : isPS M gs ps ks wa fo le row nu pu s) (hg : gs.length ≤ 20) (hp : ps.length ≤ 10) (hk : ks.length ≤ 200) (hs : sm 1000 10000 M M') : isPS M' gs ps ks wa fo le row nu pu s := by
  obtain ⟨a1, a2, a3, aG, aR, aK, a4, a6, a8, ⟨st, a10⟩, ⟨md, σ, a12⟩, aF, T, aT, aJ⟩ := h
  refine ⟨by rw [hs 1 (by omega)]; exact a1, by rw [hs 2 (by omega)]; exact a2, by rw [hs 3 (by omega)]; exact a3, aG.fr hs (by omega), fun i p hp2 => ?_, fun i k hk2 => ?_, a4.sm hs (by omega), a6.sm hs (by omega), a8.sm hs (by omega), ⟨st, a10.sm hs (by omega)⟩, ⟨md, σ, a12.fr hs (by omega)⟩, ⟨fun k h1 h2 => by rw [hs k (by omega)]; exact aF.1 k h1 h2, fun k h1 h2 => by rw [hs k (by omega)]; exact aF.2.1 k h1 h2, fun k h1 h2 => by rw [hs k (by omega)]; exact aF.2.2 k h1 h2⟩, T, aT, fun k hk3 => by rw [hs k (by omega)]; exact aJ k hk3⟩
  · have := (List.getElem?_eq_some_iff.mp hp2).1
    rw [hs _ (by omega)]; exact aR i p hp2
  · have := (List.getElem?_eq_some_iff.mp hk2).1
    obtain ⟨b1, b2⟩ := aK i k hk2
    exact ⟨by rw [hs _ (by omega)]; exact b1, b2.sm hs (by omega)⟩
def vdC (p : pN) (r : List Int32 × List Int32 × Bool) : Int32 := if r.2.2 = true then 4 else vdF p r.2.1
theorem vd_eq {p : pN} {σ : dS} {r : List Int32 × List Int32 × Bool} (h1 : σ.2.1 = r.2.1) (h2 : σ.2.2.1 = r.2.2) : vdS p σ = vdC p r := by
  unfold vdS vdC; rw [h1, h2]

set_option maxHeartbeats 4000000 in
set_option maxRecDepth 100000 in
theorem c_PS_least {M : mg_M} {gs : List gN} {ps : List pN} {ks : List kN} {wa : Nat} {fo : fO} {le : Bool} {row nu pu : List Int32} {s : Int64} (h : isPS M gs ps ks wa fo le row nu pu s) : mg_Ct Y_PS_least { frames := 0, cells := 0, slots := 0, locals := 0 } [.ref 1] M (fun v M' => v = some (.int (bI le)) ∧ M' = M) := by
  obtain ⟨hO, hA, hB, hG, hRr, hK, h4, h6, h8, ⟨st, h10⟩, ⟨md, σ, hD⟩, hF, hJ⟩ := id h
  refine mg_met [some (.ref 1)] (by decide +kernel) rfl (Nat.le_of_ble_eq_true rfl) ?_
  intro X hR _
  first | refine mg_aload_n d_PS_least_0 rfl rfl ?_ | refine mg_aload_nN d_PS_least_0 rfl rfl ?_
  refine mg_getfield fl_PS_111 d_PS_least_1 hO rfl ?_
  exact mg_ireturn d_PS_least_4 rfl (bI_nar le) (Nat.le_of_ble_eq_true rfl) (Nat.le_of_ble_eq_true rfl) ⟨rfl, rfl⟩

set_option maxHeartbeats 4000000 in
set_option maxRecDepth 100000 in
theorem c_PS_sum {M : mg_M} {gs : List gN} {ps : List pN} {ks : List kN} {wa : Nat} {fo : fO} {le : Bool} {row nu pu : List Int32} {s : Int64} (h : isPS M gs ps ks wa fo le row nu pu s) : mg_Ct Y_PS_sum { frames := 0, cells := 0, slots := 0, locals := 0 } [.ref 1] M (fun v M' => v = some (.long s) ∧ M' = M) := by
  obtain ⟨hO, hA, hB, hG, hRr, hK, h4, h6, h8, ⟨st, h10⟩, ⟨md, σ, hD⟩, hF, hJ⟩ := id h
  refine mg_met [some (.ref 1)] (by decide +kernel) rfl (Nat.le_of_ble_eq_true rfl) ?_
  intro X hR _
  first | refine mg_aload_n d_PS_sum_0 rfl rfl ?_ | refine mg_aload_nN d_PS_sum_0 rfl rfl ?_
  refine mg_getfield fl_PS_138 d_PS_sum_1 hO rfl ?_
  exact mg_lreturn d_PS_sum_4 rfl (Nat.le_of_ble_eq_true rfl) (Nat.le_of_ble_eq_true rfl) ⟨rfl, rfl⟩

set_option maxHeartbeats 4000000 in
set_option maxRecDepth 100000 in
theorem c_PS_choice {M : mg_M} {gs : List gN} {ps : List pN} {ks : List kN} {wa : Nat} {fo : fO} {le : Bool} {row nu pu : List Int32} {s : Int64} {i : Int32} (h : isPS M gs ps ks wa fo le row nu pu s) : mg_Ct Y_PS_choice { frames := 1, cells := 0, slots := 0, locals := 22 } [.ref 1, .int i] M (fun v M' => v = some (.int (atI row i (-1))) ∧ M' = M) := by
  obtain ⟨hO, hA, hB, hG, hRr, hK, h4, h6, h8, ⟨st, h10⟩, ⟨md, σ, hD⟩, hF, hJ⟩ := id h
  refine mg_met [some (.ref 1), some (.int i)] (by decide +kernel) rfl (Nat.le_of_ble_eq_true rfl) ?_
  intro X hR _
  first | refine mg_aload_n d_PS_choice_0 rfl rfl ?_ | refine mg_aload_nN d_PS_choice_0 rfl rfl ?_
  refine mg_getfield fl_PS_24 d_PS_choice_1 hO rfl ?_
  refine mg_iload_n d_PS_choice_4 rfl rfl ?_
  refine mg_iconst (v := -1) d_PS_choice_5 (by decide) ?_
  refine mg_callV (vl_PS_130 rfl) d_PS_choice_6 (by obtain ⟨_, e1, -⟩ := h4; exact e1) rfl rfl (c_In_at h4) rfl rfl (by rw [hR]; decide) (by rw [hR]; decide) (Nat.le_of_ble_eq_true rfl) ?_
  rintro v M2 ⟨rfl, rfl⟩
  exact mg_ireturn d_PS_choice_9 rfl rfl (Nat.le_of_ble_eq_true rfl) (Nat.le_of_ble_eq_true rfl) ⟨rfl, rfl⟩

set_option maxHeartbeats 4000000 in
set_option maxRecDepth 100000 in
theorem c_PS_number {M : mg_M} {gs : List gN} {ps : List pN} {ks : List kN} {wa : Nat} {fo : fO} {le : Bool} {row nu pu : List Int32} {s : Int64} {i : Int32} (h : isPS M gs ps ks wa fo le row nu pu s) : mg_Ct Y_PS_number { frames := 1, cells := 0, slots := 0, locals := 22 } [.ref 1, .int i] M (fun v M' => v = some (.int (atI nu i 0)) ∧ M' = M) := by
  obtain ⟨hO, hA, hB, hG, hRr, hK, h4, h6, h8, ⟨st, h10⟩, ⟨md, σ, hD⟩, hF, hJ⟩ := id h
  refine mg_met [some (.ref 1), some (.int i)] (by decide +kernel) rfl (Nat.le_of_ble_eq_true rfl) ?_
  intro X hR _
  first | refine mg_aload_n d_PS_number_0 rfl rfl ?_ | refine mg_aload_nN d_PS_number_0 rfl rfl ?_
  refine mg_getfield fl_PS_28 d_PS_number_1 hO rfl ?_
  refine mg_iload_n d_PS_number_4 rfl rfl ?_
  refine mg_iconst (v := 0) d_PS_number_5 (by decide) ?_
  refine mg_callV (vl_PS_130 rfl) d_PS_number_6 (by obtain ⟨_, e1, -⟩ := h6; exact e1) rfl rfl (c_In_at h6) rfl rfl (by rw [hR]; decide) (by rw [hR]; decide) (Nat.le_of_ble_eq_true rfl) ?_
  rintro v M2 ⟨rfl, rfl⟩
  exact mg_ireturn d_PS_number_9 rfl rfl (Nat.le_of_ble_eq_true rfl) (Nat.le_of_ble_eq_true rfl) ⟨rfl, rfl⟩

def sizF (what : Int32) (a b c d : Nat) : Int32 := if what = 0 then nI a else if what = 1 then nI b else if what = 2 then nI c else if what = 3 then nI d else -1
set_option maxHeartbeats 4000000 in
set_option maxRecDepth 100000 in
theorem c_PS_size {M : mg_M} {gs : List gN} {ps : List pN} {ks : List kN} {wa : Nat} {fo : fO} {le : Bool} {row nu pu : List Int32} {s : Int64} {i : Int32} (h : isPS M gs ps ks wa fo le row nu pu s) : mg_Ct Y_PS_size { frames := 1, cells := 0, slots := 0, locals := 20 } [.ref 1, .int i] M (fun v M' => v = some (.int (sizF i row.length nu.length ks.length wa)) ∧ M' = M) := by
  obtain ⟨hO, hA, hB, hG, hRr, hK, h4, h6, h8, ⟨st, h10⟩, ⟨md, σ, hD⟩, hF, hJ⟩ := id h
  refine mg_met [some (.ref 1), some (.int i)] (by decide +kernel) rfl (Nat.le_of_ble_eq_true rfl) ?_
  intro X hR _
  refine mg_iload_n d_PS_size_0 rfl rfl ?_
  by_cases k0 : i = 0
  · subst k0
    refine mg_tableIn (off := 31) (tgt := 32) d_PS_size_1 (by decide) (by decide) rfl (by decide) ?_
    first | refine mg_aload_n d_PS_size_32 rfl rfl ?_ | refine mg_aload_nN d_PS_size_32 rfl rfl ?_
    refine mg_getfield fl_PS_24 d_PS_size_33 hO rfl ?_
    refine mg_callV (vl_PS_134 rfl) d_PS_size_36 (by obtain ⟨_, e1, -⟩ := h4; exact e1) rfl rfl (c_In_length h4) rfl rfl (by rw [hR]; decide) (by rw [hR]; decide) (Nat.le_of_ble_eq_true rfl) ?_
    rintro v M2 ⟨rfl, rfl⟩
    exact mg_ireturn d_PS_size_39 rfl rfl (Nat.le_of_ble_eq_true rfl) (Nat.le_of_ble_eq_true rfl) ⟨rfl, rfl⟩
  · by_cases k1 : i = 1
    · subst k1
      refine mg_tableIn (off := 39) (tgt := 40) d_PS_size_1 (by decide) (by decide) rfl (by decide) ?_
      first | refine mg_aload_n d_PS_size_40 rfl rfl ?_ | refine mg_aload_nN d_PS_size_40 rfl rfl ?_
      refine mg_getfield fl_PS_28 d_PS_size_41 hO rfl ?_
      refine mg_callV (vl_PS_134 rfl) d_PS_size_44 (by obtain ⟨_, e1, -⟩ := h6; exact e1) rfl rfl (c_In_length h6) rfl rfl (by rw [hR]; decide) (by rw [hR]; decide) (Nat.le_of_ble_eq_true rfl) ?_
      rintro v M2 ⟨rfl, rfl⟩
      exact mg_ireturn d_PS_size_47 rfl rfl (Nat.le_of_ble_eq_true rfl) (Nat.le_of_ble_eq_true rfl) ⟨rfl, rfl⟩
    · by_cases k2 : i = 2
      · subst k2
        refine mg_tableIn (off := 47) (tgt := 48) d_PS_size_1 (by decide) (by decide) rfl (by decide) ?_
        first | refine mg_aload_n d_PS_size_48 rfl rfl ?_ | refine mg_aload_nN d_PS_size_48 rfl rfl ?_
        refine mg_getfield fl_PS_89 d_PS_size_49 hO rfl ?_
        exact mg_ireturn d_PS_size_52 rfl rfl (Nat.le_of_ble_eq_true rfl) (Nat.le_of_ble_eq_true rfl) ⟨rfl, rfl⟩
      · by_cases k3 : i = 3
        · subst k3
          refine mg_tableIn (off := 52) (tgt := 53) d_PS_size_1 (by decide) (by decide) rfl (by decide) ?_
          first | refine mg_aload_n d_PS_size_53 rfl rfl ?_ | refine mg_aload_nN d_PS_size_53 rfl rfl ?_
          refine mg_getfield fl_PS_69 d_PS_size_54 hO rfl ?_
          exact mg_ireturn d_PS_size_57 rfl rfl (Nat.le_of_ble_eq_true rfl) (Nat.le_of_ble_eq_true rfl) ⟨rfl, rfl⟩
        · have hout : i.toInt < 0 ∨ 3 < i.toInt := by
            have a0 := lv_neT k0 (a := 0) (by decide)
            have a1 := lv_neT k1 (a := 1) (by decide)
            have a2 := lv_neT k2 (a := 2) (by decide)
            have a3 := lv_neT k3 (a := 3) (by decide)
            omega
          refine mg_tableOut (tgt := 58) d_PS_size_1 hout (by decide) ?_
          refine mg_iconst (v := -1) d_PS_size_58 (by decide) ?_
          exact mg_ireturn d_PS_size_59 rfl rfl (Nat.le_of_ble_eq_true rfl) (Nat.le_of_ble_eq_true rfl) ⟨by simp only [sizF, if_neg k0, if_neg k1, if_neg k2, if_neg k3], rfl⟩

def putB (pu : List Int32) (c : Int32) : Bool := decide (¬ c < 0) && decide (pu.length < 60)
set_option maxHeartbeats 4000000 in
set_option maxRecDepth 100000 in
theorem c_PS_put {M : mg_M} {gs : List gN} {ps : List pN} {ks : List kN} {wa : Nat} {fo : fO} {le : Bool} {row nu pu : List Int32} {s : Int64} {i : Int32} (h : isPS M gs ps ks wa fo le row nu pu s) : mg_Ct Y_PS_put { frames := 1, cells := 0, slots := 0, locals := 21 } [.ref 1, .int i] M (fun v M' => v = some (.int (bI (putB pu i))) ∧ isPS M' gs ps ks wa fo le row nu (if putB pu i = true then pu ++ [i] else pu) s ∧ smC M M') := by
  obtain ⟨hO, hA, hB, hG, hRr, hK, h4, h6, h8, ⟨st, h10⟩, ⟨md, σ, hD⟩, hF, hJ⟩ := id h
  refine mg_met [some (.ref 1), some (.int i)] (by decide +kernel) rfl (Nat.le_of_ble_eq_true rfl) ?_
  intro X hR _
  refine mg_iload_n d_PS_put_0 rfl rfl ?_
  refine mg_if_lt (tgt := 19) d_PS_put_1 (by decide) (fun c_1 => ?_) (fun c_1 => ?_)
  · have hb : putB pu i = false := by simp [putB, c_1]
    refine mg_iconst (v := 0) d_PS_put_19 (by decide) ?_
    exact mg_ireturn d_PS_put_20 rfl rfl (Nat.le_of_ble_eq_true rfl) (Nat.le_of_ble_eq_true rfl) ⟨by rw [hb]; rfl, by rw [hb]; exact h, smC.rf⟩
  · first | refine mg_aload_n d_PS_put_4 rfl rfl ?_ | refine mg_aload_nN d_PS_put_4 rfl rfl ?_
    refine mg_getfield fl_PS_31 d_PS_put_5 hO rfl ?_
    refine mg_iload_n d_PS_put_8 rfl rfl ?_
    refine mg_callV (vl_PS_127 rfl) d_PS_put_9 (by obtain ⟨_, e1, -⟩ := h8; exact e1) rfl rfl (c_In_add h8) rfl rfl (by rw [hR]; decide) (by rw [hR]; decide) (Nat.le_of_ble_eq_true rfl) ?_
    rintro v M2 ⟨rfl, hI2, hs2⟩
    have hP2 : isPS M2 gs ps ks wa fo le row nu (if pu.length < 60 then pu ++ [i] else pu) s := h.mk' ((hs2 1 (by omega)).trans hO) (h4.sm hs2 (by omega)) (h6.sm hs2 (by omega)) hI2 ⟨st, h10.sm hs2 (by omega)⟩ ⟨md, σ, hD.fr hs2 (by omega)⟩ (fun k hk => hs2 k (by omega))
    have hC2 : smC M M2 := smC.of hs2 (by omega) (by omega)
    refine mg_if_eq (tgt := 19) d_PS_put_12 (by decide) (fun c_12 => ?_) (fun c_12 => ?_)
    · have hlt : ¬ pu.length < 60 := fun q => by rw [if_pos q] at c_12; exact absurd c_12 (by decide)
      have hb : putB pu i = false := by simp [putB, hlt]
      rw [if_neg hlt] at hP2
      refine mg_iconst (v := 0) d_PS_put_19 (by decide) ?_
      exact mg_ireturn d_PS_put_20 rfl rfl (Nat.le_of_ble_eq_true rfl) (Nat.le_of_ble_eq_true rfl) ⟨by rw [hb]; rfl, by rw [hb]; exact hP2, hC2⟩
    · have hlt : pu.length < 60 := by
        rcases Nat.lt_or_ge pu.length 60 with q | q
        · exact q
        · exact absurd (if_neg (show ¬ pu.length < 60 by omega)) c_12
      have hb : putB pu i = true := by simp [putB, hlt, c_1]
      rw [if_pos hlt] at hP2
      refine mg_iconst (v := 1) d_PS_put_15 (by decide) ?_
      refine mg_goto (tgt := 20) d_PS_put_16 (by decide) ?_
      exact mg_ireturn d_PS_put_20 rfl rfl (Nat.le_of_ble_eq_true rfl) (Nat.le_of_ble_eq_true rfl) ⟨by rw [hb]; rfl, by rw [hb]; exact hP2, hC2⟩

def offR (i : Int32) (n : Nat) : Prop := i < 0 ∨ nI n ≤ i
theorem offR_or (i : Int32) {n : Nat} (hn : n ≤ 20) : offR i n ∨ ∃ j, j < n ∧ i = nI j := by
  rcases pk_ix i (n := n) (by omega) with h | h | h
  · exact Or.inl (Or.inl h)
  · exact Or.inl (Or.inr h)
  · exact Or.inr h
set_option maxHeartbeats 4000000 in
set_option maxRecDepth 100000 in
theorem c_PS_replay_no1 {M : mg_M} {gs : List gN} {ps : List pN} {ks : List kN} {wa : Nat} {fo : fO} {le : Bool} {row nu pu : List Int32} {s : Int64} {i j : Int32} (h : isPS M gs ps ks wa fo le row nu pu s) (hw : wfG gs) (hpl : ps.length ≤ 10) (hi : offR i gs.length) : mg_Ct Y_PS_replay { frames := 12, cells := 0, slots := 0, locals := 282 } [.ref 1, .int i, .int j] M (fun v M' => v = some (.int (-1)) ∧ M' = M) := by
  obtain ⟨hO, hA, hB, hG, hRr, hK, h4, h6, h8, ⟨st, h10⟩, ⟨md, σ, hD⟩, hF, hJ⟩ := id h
  refine mg_met [some (.ref 1), some (.int i), some (.int j), none, none, none] (by decide +kernel) rfl (Nat.le_of_ble_eq_true rfl) ?_
  intro X hR _
  first | refine mg_aload_n d_PS_replay_0 rfl rfl ?_ | refine mg_aload_nN d_PS_replay_0 rfl rfl ?_
  refine mg_iload_n d_PS_replay_1 rfl rfl ?_
  refine mg_callV (vl_PS_61 rfl) d_PS_replay_2 hO rfl rfl (c_PS_generatorAt_out hO hi) rfl rfl (by rw [hR]; decide) (by rw [hR]; decide) (Nat.le_of_ble_eq_true rfl) ?_
  rintro v M2 ⟨rfl, rfl⟩
  first | refine mg_astore_n d_PS_replay_5 rfl (Nat.le_of_ble_eq_true rfl) rfl ?_ | refine mg_astore_nN d_PS_replay_5 rfl (Nat.le_of_ble_eq_true rfl) rfl ?_
  first | refine mg_aload_n d_PS_replay_6 rfl rfl ?_ | refine mg_aload_nN d_PS_replay_6 rfl rfl ?_
  refine mg_iload_n d_PS_replay_7 rfl rfl ?_
  rcases offR_or j (n := ps.length) (by omega) with hj | ⟨j, hj, rfl⟩
  · refine mg_callV (vl_PS_65 rfl) d_PS_replay_8 hO rfl rfl (c_PS_propertyAt_out hO hj) rfl rfl (by rw [hR]; decide) (by rw [hR]; decide) (Nat.le_of_ble_eq_true rfl) ?_
    rintro v M3 ⟨rfl, rfl⟩
    refine mg_astoreN d_PS_replay_11 (Nat.le_of_ble_eq_true rfl) rfl ?_
    refine mg_aload_nN d_PS_replay_13 rfl rfl ?_
    refine mg_ifnullN (tgt := 22) d_PS_replay_14 (by decide) ?_
    refine mg_iconst (v := -1) d_PS_replay_22 (by decide) ?_
    exact mg_ireturn d_PS_replay_23 rfl rfl (Nat.le_of_ble_eq_true rfl) (Nat.le_of_ble_eq_true rfl) ⟨rfl, rfl⟩
  · refine mg_callV (vl_PS_65 rfl) d_PS_replay_8 hO rfl rfl (c_PS_propertyAt_in hO hB hj hpl) rfl rfl (by rw [hR]; decide) (by rw [hR]; decide) (Nat.le_of_ble_eq_true rfl) ?_
    rintro v M3 ⟨rfl, rfl⟩
    refine mg_astore d_PS_replay_11 (Nat.le_of_ble_eq_true rfl) rfl ?_
    refine mg_aload_nN d_PS_replay_13 rfl rfl ?_
    refine mg_ifnullN (tgt := 22) d_PS_replay_14 (by decide) ?_
    refine mg_iconst (v := -1) d_PS_replay_22 (by decide) ?_
    exact mg_ireturn d_PS_replay_23 rfl rfl (Nat.le_of_ble_eq_true rfl) (Nat.le_of_ble_eq_true rfl) ⟨rfl, rfl⟩

set_option maxHeartbeats 4000000 in
set_option maxRecDepth 100000 in
theorem c_PS_replay_no2 {M : mg_M} {gs : List gN} {ps : List pN} {ks : List kN} {wa : Nat} {fo : fO} {le : Bool} {row nu pu : List Int32} {s : Int64} {i : Nat} {j : Int32} (h : isPS M gs ps ks wa fo le row nu pu s) (hw : wfG gs) (hi : i < gs.length) (hj : offR j ps.length) : mg_Ct Y_PS_replay { frames := 12, cells := 0, slots := 0, locals := 282 } [.ref 1, .int (nI i), .int j] M (fun v M' => v = some (.int (-1)) ∧ M' = M) := by
  obtain ⟨hO, hA, hB, hG, hRr, hK, h4, h6, h8, ⟨st, h10⟩, ⟨md, σ, hD⟩, hF, hJ⟩ := id h
  refine mg_met [some (.ref 1), some (.int (nI i)), some (.int j), none, none, none] (by decide +kernel) rfl (Nat.le_of_ble_eq_true rfl) ?_
  intro X hR _
  first | refine mg_aload_n d_PS_replay_0 rfl rfl ?_ | refine mg_aload_nN d_PS_replay_0 rfl rfl ?_
  refine mg_iload_n d_PS_replay_1 rfl rfl ?_
  refine mg_callV (vl_PS_61 rfl) d_PS_replay_2 hO rfl rfl (c_PS_generatorAt_in hO hA hi hw.1) rfl rfl (by rw [hR]; decide) (by rw [hR]; decide) (Nat.le_of_ble_eq_true rfl) ?_
  rintro v M2 ⟨rfl, rfl⟩
  first | refine mg_astore_n d_PS_replay_5 rfl (Nat.le_of_ble_eq_true rfl) rfl ?_ | refine mg_astore_nN d_PS_replay_5 rfl (Nat.le_of_ble_eq_true rfl) rfl ?_
  first | refine mg_aload_n d_PS_replay_6 rfl rfl ?_ | refine mg_aload_nN d_PS_replay_6 rfl rfl ?_
  refine mg_iload_n d_PS_replay_7 rfl rfl ?_
  refine mg_callV (vl_PS_65 rfl) d_PS_replay_8 hO rfl rfl (c_PS_propertyAt_out hO hj) rfl rfl (by rw [hR]; decide) (by rw [hR]; decide) (Nat.le_of_ble_eq_true rfl) ?_
  rintro v M3 ⟨rfl, rfl⟩
  first | refine mg_astore d_PS_replay_11 (Nat.le_of_ble_eq_true rfl) rfl ?_ | refine mg_astoreN d_PS_replay_11 (Nat.le_of_ble_eq_true rfl) rfl ?_
  first | refine mg_aload_n d_PS_replay_13 rfl rfl ?_ | refine mg_aload_nN d_PS_replay_13 rfl rfl ?_
  refine mg_ifnull d_PS_replay_14 ?_
  first | refine mg_aload d_PS_replay_17 rfl ?_ | refine mg_aloadN d_PS_replay_17 rfl ?_
  refine mg_ifnonnullN d_PS_replay_19 ?_
  refine mg_iconst (v := -1) d_PS_replay_22 (by decide) ?_
  exact mg_ireturn d_PS_replay_23 rfl rfl (Nat.le_of_ble_eq_true rfl) (Nat.le_of_ble_eq_true rfl) ⟨rfl, rfl⟩

set_option maxHeartbeats 4000000 in
set_option maxRecDepth 100000 in
theorem c_PS_replay {M : mg_M} {gs : List gN} {ps : List pN} {ks : List kN} {wa : Nat} {fo : fO} {le : Bool} {row nu pu : List Int32} {s : Int64} {i j : Nat} {g : gN} {p : pN} (h : isPS M gs ps ks wa fo le row nu pu s) (hw : wfG gs) (hpl : ps.length ≤ 10) (hg : gs[i]? = some g) (hp : ps[j]? = some p) : mg_Ct Y_PS_replay { frames := 12, cells := 0, slots := 0, locals := 282 } [.ref 1, .int (nI i), .int (nI j)] M (fun v M' => v = some (.int (vdC p (rowC gs i pu))) ∧ isPS M' gs ps ks wa fo le row (if vdC p (rowC gs i pu) = 4 then [] else (rowC gs i pu).2.1) [] s ∧ smC M M') := by
  obtain ⟨hO, hA, hB, hG, hRr, hK, h4, h6, h8, ⟨st, h10⟩, ⟨md, σ, hD⟩, hF, hJ⟩ := id h
  obtain ⟨how, gv, z⟩ := md
  obtain ⟨cs, ns, il, x, lm⟩ := σ
  have hi := (List.getElem?_eq_some_iff.mp hg).1
  have hj := (List.getElem?_eq_some_iff.mp hp).1
  refine mg_met [some (.ref 1), some (.int (nI i)), some (.int (nI j)), none, none, none] (by decide +kernel) rfl (Nat.le_of_ble_eq_true rfl) ?_
  intro X hR _
  first | refine mg_aload_n d_PS_replay_0 rfl rfl ?_ | refine mg_aload_nN d_PS_replay_0 rfl rfl ?_
  refine mg_iload_n d_PS_replay_1 rfl rfl ?_
  refine mg_callV (vl_PS_61 rfl) d_PS_replay_2 hO rfl rfl (c_PS_generatorAt_in hO hA hi hw.1) rfl rfl (by rw [hR]; decide) (by rw [hR]; decide) (Nat.le_of_ble_eq_true rfl) ?_
  rintro v M2 ⟨rfl, rfl⟩
  first | refine mg_astore_n d_PS_replay_5 rfl (Nat.le_of_ble_eq_true rfl) rfl ?_ | refine mg_astore_nN d_PS_replay_5 rfl (Nat.le_of_ble_eq_true rfl) rfl ?_
  first | refine mg_aload_n d_PS_replay_6 rfl rfl ?_ | refine mg_aload_nN d_PS_replay_6 rfl rfl ?_
  refine mg_iload_n d_PS_replay_7 rfl rfl ?_
  refine mg_callV (vl_PS_65 rfl) d_PS_replay_8 hO rfl rfl (c_PS_propertyAt_in hO hB hj hpl) rfl rfl (by rw [hR]; decide) (by rw [hR]; decide) (Nat.le_of_ble_eq_true rfl) ?_
  rintro v M3 ⟨rfl, rfl⟩
  first | refine mg_astore d_PS_replay_11 (Nat.le_of_ble_eq_true rfl) rfl ?_ | refine mg_astoreN d_PS_replay_11 (Nat.le_of_ble_eq_true rfl) rfl ?_
  first | refine mg_aload_n d_PS_replay_13 rfl rfl ?_ | refine mg_aload_nN d_PS_replay_13 rfl rfl ?_
  refine mg_ifnull d_PS_replay_14 ?_
  first | refine mg_aload d_PS_replay_17 rfl ?_ | refine mg_aloadN d_PS_replay_17 rfl ?_
  refine mg_ifnonnull (tgt := 24) d_PS_replay_19 (by decide) ?_
  first | refine mg_aload_n d_PS_replay_24 rfl rfl ?_ | refine mg_aload_nN d_PS_replay_24 rfl rfl ?_
  first | refine mg_aload_n d_PS_replay_25 rfl rfl ?_ | refine mg_aload_nN d_PS_replay_25 rfl rfl ?_
  first | refine mg_aload d_PS_replay_26 rfl ?_ | refine mg_aloadN d_PS_replay_26 rfl ?_
  first | refine mg_aload_n d_PS_replay_28 rfl rfl ?_ | refine mg_aload_nN d_PS_replay_28 rfl rfl ?_
  refine mg_getfield fl_PS_31 d_PS_replay_29 hO rfl ?_
  refine mg_callV (vl_PS_100 rfl) d_PS_replay_32 hO rfl rfl (c_PS_replayRow hw hg hO hG hD (hRr j p hp) (by omega) h8 (by omega)) rfl rfl (by rw [hR]; decide) (by rw [hR]; decide) (Nat.le_of_ble_eq_true rfl) ?_
  rintro v M4 ⟨rfl, hD4, hs4⟩
  obtain ⟨r1, r2, r3⟩ := row_eq gs i pu z x lm
  rw [vd_eq r2 r3]
  generalize runR gs pu z i x lm = σ4 at hD4 r1 r2 r3
  obtain ⟨cs4, ns4, il4, x4, lm4⟩ := σ4
  replace r2 : ns4 = (rowC gs i pu).2.1 := r2
  subst r2
  have hO4 := (hs4 1 (by omega)).trans hO
  have b8 := h8.sm hs4 (by omega)
  refine mg_istore d_PS_replay_35 (Nat.le_of_ble_eq_true rfl) rfl ?_
  first | refine mg_aload_n d_PS_replay_37 rfl rfl ?_ | refine mg_aload_nN d_PS_replay_37 rfl rfl ?_
  refine mg_getfield fl_PS_31 d_PS_replay_38 hO4 rfl ?_
  refine mg_iconst (v := 0) d_PS_replay_41 (by decide) ?_
  refine mg_callV (vl_PS_118 rfl) d_PS_replay_42 (by obtain ⟨_, e1, -⟩ := b8; exact e1) rfl rfl (c_In_cutTo b8) rfl rfl (by rw [hR]; decide) (by rw [hR]; decide) (Nat.le_of_ble_eq_true rfl) ?_
  rintro v M5 ⟨rfl, hI5, hs5⟩
  replace hI5 : isI M5 8 [] := hI5
  have hO5 := (hs5 1 (by omega)).trans hO4
  have hD5 := hD4.fr hs5 (by omega)
  have b6 := (h6.sm hs4 (by omega)).sm hs5 (by omega)
  first | refine mg_aload_n d_PS_replay_45 rfl rfl ?_ | refine mg_aload_nN d_PS_replay_45 rfl rfl ?_
  refine mg_getfield fl_PS_28 d_PS_replay_46 hO5 rfl ?_
  first | refine mg_aload_n d_PS_replay_49 rfl rfl ?_ | refine mg_aload_nN d_PS_replay_49 rfl rfl ?_
  refine mg_getfield fl_PS_40 d_PS_replay_50 hO5 rfl ?_
  refine mg_getfield fl_PS_122 d_PS_replay_53 hD5.1 rfl ?_
  refine mg_callV (vl_PS_123 rfl) d_PS_replay_56 (by obtain ⟨_, e1, -⟩ := b6; exact e1) rfl rfl (c_In_copyFrom b6 hD5.2.2.1 (by omega)) rfl rfl (by rw [hR]; decide) (by rw [hR]; decide) (Nat.le_of_ble_eq_true rfl) ?_
  rintro v M6 ⟨rfl, hI6, hs6⟩
  have hO6 := (hs6 1 (by omega)).trans hO5
  have keep : smB M3 M6 := fun k hk => ((hs6 k (by omega)).trans (hs5 k (by omega))).trans (hs4 k (by omega))
  have hC : smC M3 M6 := ((smC.of hs4 (by omega) (by omega)).tr (smC.of hs5 (by omega) (by omega))).tr (smC.of hs6 (by omega) (by omega))
  have hP6 : isPS M6 gs ps ks wa fo le row (rowC gs i pu).2.1 [] s := h.mk' hO6 (((h4.sm hs4 (by omega)).sm hs5 (by omega)).sm hs6 (by omega)) hI6 (hI5.sm hs6 (by omega)) ⟨st, ((h10.sm hs4 (by omega)).sm hs5 (by omega)).sm hs6 (by omega)⟩ ⟨_, _, hD5.fr hs6 (by omega)⟩ keep
  refine mg_iload d_PS_replay_59 rfl ?_
  refine mg_iconst (v := 4) d_PS_replay_61 (by decide) ?_
  refine mg_icmp_ne (tgt := 73) d_PS_replay_62 (by decide) (fun c_62 => ?_) (fun c_62 => ?_)
  · refine mg_iload d_PS_replay_73 rfl ?_
    exact mg_ireturn d_PS_replay_75 rfl rfl (Nat.le_of_ble_eq_true rfl) (Nat.le_of_ble_eq_true rfl) ⟨rfl, by rw [if_neg c_62]; exact hP6, hC⟩
  · first | refine mg_aload_n d_PS_replay_65 rfl rfl ?_ | refine mg_aload_nN d_PS_replay_65 rfl rfl ?_
    refine mg_getfield fl_PS_28 d_PS_replay_66 hO6 rfl ?_
    refine mg_iconst (v := 0) d_PS_replay_69 (by decide) ?_
    refine mg_callV (vl_PS_118 rfl) d_PS_replay_70 (by obtain ⟨_, e1, -⟩ := hI6; exact e1) rfl rfl (c_In_cutTo hI6) rfl rfl (by rw [hR]; decide) (by rw [hR]; decide) (Nat.le_of_ble_eq_true rfl) ?_
    rintro v M7 ⟨rfl, hI7, hs7⟩
    replace hI7 : isI M7 6 [] := hI7
    refine mg_iload d_PS_replay_73 rfl ?_
    refine mg_ireturn d_PS_replay_75 rfl rfl (Nat.le_of_ble_eq_true rfl) (Nat.le_of_ble_eq_true rfl) ⟨rfl, ?_, hC.tr (smC.of hs7 (by omega) (by omega))⟩
    rw [if_pos c_62]
    obtain ⟨-, -, -, -, -, -, q4, -, q8, ⟨st2, q10⟩, ⟨md2, σ2, q12⟩, -⟩ := id hP6
    exact hP6.mk' ((hs7 1 (by omega)).trans hO6) (q4.sm hs7 (by omega)) hI7 (q8.sm hs7 (by omega)) ⟨st2, q10.sm hs7 (by omega)⟩ ⟨md2, σ2, q12.fr hs7 (by omega)⟩ (fun k hk => hs7 k (by omega))
end
section
/-! NEW GENERATORS -/
def mg_nr (fs : List Value) : Bool := fs.all (fun v => match v with
  | .ref _ => false
  | _ => true)
theorem mg_nr_cl {M : mg_M} {fs : List Value} (h : mg_nr fs = true) : ∀ v ∈ fs, mg_cv M v := fun v hv => by
  have h1 := List.all_eq_true.mp h v hv
  cases v <;> first | trivial | (simp at h1)
/-- the generator that the arguments ask for -/
def mkG (gs : List gN) (kd a b : Int32) : Option gN := if kd = 0 then (if isNr a = true ∧ isNr b = true ∧ a ≤ b then some (0, a, b, 1) else none)
  else if a < 0 ∨ nI gs.length ≤ a then none else match gs[a.toNatClampNeg]? with
    | none => none
    | some ga => if kd = 1 then (if ¬ b < 0 ∧ b ≤ 9 then some (1, a, b, ga.2.2.2 + 1) else none)
      else if kd = 4 then (if b = 0 ∨ b = 1 then some (4, a, b, ga.2.2.2 + 1) else none)
      else if kd = 5 then (if isNr b = true then some (5, a, b, ga.2.2.2 + 1) else none)
      else if b < 0 ∨ nI gs.length ≤ b then none else match gs[b.toNatClampNeg]? with
        | none => none
        | some gb => if kd = 2 then some (2, a, b, max ga.2.2.2 gb.2.2.2 + 1) else if kd = 3 then some (3, a, b, max ga.2.2.2 gb.2.2.2 + 1) else none
def mkP (M : mg_M) (h : Nat) (r : Option gN) : Option Value → mg_M → Prop := fun v M' => match r with
  | none => v = some .null ∧ M' = M
  | some g => v = some (.ref h) ∧ M' = mg_up M h (genE g)

set_option maxHeartbeats 4000000 in
set_option maxRecDepth 100000 in
theorem c_PS_makeOfTwo_N {M : mg_M} {kd : Int32} {p : Nat} : mg_Ct Y_PS_makeOfTwo { frames := 3, cells := 1, slots := 3, locals := 55 } [.int kd, .ref p, .null] M (fun v M' => v = some .null ∧ M' = M) := by
  refine mg_met [some (.int kd), some (.ref p), some .null] (by decide +kernel) rfl (Nat.le_of_ble_eq_true rfl) ?_
  intro X hR _
  first | refine mg_aload_n d_PS_makeOfTwo_0 rfl rfl ?_ | refine mg_aload_nN d_PS_makeOfTwo_0 rfl rfl ?_
  refine mg_ifnull d_PS_makeOfTwo_1 ?_
  first | refine mg_aload_n d_PS_makeOfTwo_4 rfl rfl ?_ | refine mg_aload_nN d_PS_makeOfTwo_4 rfl rfl ?_
  refine mg_ifnonnullN d_PS_makeOfTwo_5 ?_
  refine mg_aconst_null d_PS_makeOfTwo_8 ?_
  exact mg_areturn d_PS_makeOfTwo_9 rfl (Or.inl rfl) (Nat.le_of_ble_eq_true rfl) (Nat.le_of_ble_eq_true rfl) ⟨rfl, rfl⟩

set_option maxHeartbeats 4000000 in
set_option maxRecDepth 100000 in
theorem c_PS_makeOfTwo_2 {M : mg_M} {p q h : Nat} {g g2 : gN} (hk0 : h ≠ 0) (hn : M h = none) (hp : M p = some (genE g)) (hq : M q = some (genE g2)) (l1 : g.2.2.2 ≤ 8) (l2 : g2.2.2.2 ≤ 8) : mg_Ct Y_PS_makeOfTwo { frames := 3, cells := 1, slots := 3, locals := 55 } [.int 2, .ref p, .ref q] M (fun v M' => v = some (.ref h) ∧ M' = mg_up M h (.inr (5, [.int (nI (max g.2.2.2 g2.2.2.2 + 1)), .ref p, .ref q]))) := by
  refine mg_met [some (.int 2), some (.ref p), some (.ref q)] (by decide +kernel) rfl (Nat.le_of_ble_eq_true rfl) ?_
  intro X hR _
  first | refine mg_aload_n d_PS_makeOfTwo_0 rfl rfl ?_ | refine mg_aload_nN d_PS_makeOfTwo_0 rfl rfl ?_
  refine mg_ifnull d_PS_makeOfTwo_1 ?_
  first | refine mg_aload_n d_PS_makeOfTwo_4 rfl rfl ?_ | refine mg_aload_nN d_PS_makeOfTwo_4 rfl rfl ?_
  refine mg_ifnonnull (tgt := 10) d_PS_makeOfTwo_5 (by decide) ?_
  refine mg_iload_n d_PS_makeOfTwo_10 rfl rfl ?_
  refine mg_lookup (off := 25) (tgt := 36) d_PS_makeOfTwo_11 (by decide) rfl (by decide) ?_
  have n1 : p ≠ h := fun e => by rw [e, hn] at hp; cases hp
  have n2 : q ≠ h := fun e => by rw [e, hn] at hq; cases hq
  refine mg_new (h := h) nl_PS_182 d_PS_makeOfTwo_36 hk0 hn (mg_nr_cl rfl) (by rw [hR]; exact Nat.le_of_ble_eq_true rfl) (by rw [hR]; exact Nat.le_of_ble_eq_true rfl) ?_
  refine mg_dup d_PS_makeOfTwo_39 rfl ?_
  first | refine mg_aload_n d_PS_makeOfTwo_40 rfl rfl ?_ | refine mg_aload_nN d_PS_makeOfTwo_40 rfl rfl ?_
  first | refine mg_aload_n d_PS_makeOfTwo_41 rfl rfl ?_ | refine mg_aload_nN d_PS_makeOfTwo_41 rfl rfl ?_
  refine mg_callI (il_PS_184 rfl) d_PS_makeOfTwo_42 (c_PO_init (mg_up_s _ _ _) (by rw [mg_up_n _ _ n1]; exact hp) (by rw [mg_up_n _ _ n2]; exact hq) l1 l2) rfl rfl (by rw [hR]; decide) (by rw [hR]; exact ⟨Nat.le_of_ble_eq_true rfl, Nat.le_of_ble_eq_true rfl⟩) (Nat.le_of_ble_eq_true rfl) ?_
  rintro v M1 ⟨rfl, rfl⟩
  rw [mg_up_up]
  exact mg_areturn d_PS_makeOfTwo_45 rfl (Or.inr ⟨_, rfl⟩) (Nat.le_of_ble_eq_true rfl) (Nat.le_of_ble_eq_true rfl) ⟨rfl, rfl⟩

set_option maxHeartbeats 4000000 in
set_option maxRecDepth 100000 in
theorem c_PS_makeOfTwo_3 {M : mg_M} {p q h : Nat} {g g2 : gN} (hk0 : h ≠ 0) (hn : M h = none) (hp : M p = some (genE g)) (hq : M q = some (genE g2)) (l1 : g.2.2.2 ≤ 8) (l2 : g2.2.2.2 ≤ 8) : mg_Ct Y_PS_makeOfTwo { frames := 3, cells := 1, slots := 3, locals := 55 } [.int 3, .ref p, .ref q] M (fun v M' => v = some (.ref h) ∧ M' = mg_up M h (.inr (6, [.int (nI (max g.2.2.2 g2.2.2.2 + 1)), .ref p, .ref q]))) := by
  refine mg_met [some (.int 3), some (.ref p), some (.ref q)] (by decide +kernel) rfl (Nat.le_of_ble_eq_true rfl) ?_
  intro X hR _
  first | refine mg_aload_n d_PS_makeOfTwo_0 rfl rfl ?_ | refine mg_aload_nN d_PS_makeOfTwo_0 rfl rfl ?_
  refine mg_ifnull d_PS_makeOfTwo_1 ?_
  first | refine mg_aload_n d_PS_makeOfTwo_4 rfl rfl ?_ | refine mg_aload_nN d_PS_makeOfTwo_4 rfl rfl ?_
  refine mg_ifnonnull (tgt := 10) d_PS_makeOfTwo_5 (by decide) ?_
  refine mg_iload_n d_PS_makeOfTwo_10 rfl rfl ?_
  refine mg_lookup (off := 35) (tgt := 46) d_PS_makeOfTwo_11 (by decide) rfl (by decide) ?_
  have n1 : p ≠ h := fun e => by rw [e, hn] at hp; cases hp
  have n2 : q ≠ h := fun e => by rw [e, hn] at hq; cases hq
  refine mg_new (h := h) nl_PS_187 d_PS_makeOfTwo_46 hk0 hn (mg_nr_cl rfl) (by rw [hR]; exact Nat.le_of_ble_eq_true rfl) (by rw [hR]; exact Nat.le_of_ble_eq_true rfl) ?_
  refine mg_dup d_PS_makeOfTwo_49 rfl ?_
  first | refine mg_aload_n d_PS_makeOfTwo_50 rfl rfl ?_ | refine mg_aload_nN d_PS_makeOfTwo_50 rfl rfl ?_
  first | refine mg_aload_n d_PS_makeOfTwo_51 rfl rfl ?_ | refine mg_aload_nN d_PS_makeOfTwo_51 rfl rfl ?_
  refine mg_callI (il_PS_189 rfl) d_PS_makeOfTwo_52 (c_OO_init (mg_up_s _ _ _) (by rw [mg_up_n _ _ n1]; exact hp) (by rw [mg_up_n _ _ n2]; exact hq) l1 l2) rfl rfl (by rw [hR]; decide) (by rw [hR]; exact ⟨Nat.le_of_ble_eq_true rfl, Nat.le_of_ble_eq_true rfl⟩) (Nat.le_of_ble_eq_true rfl) ?_
  rintro v M1 ⟨rfl, rfl⟩
  rw [mg_up_up]
  exact mg_areturn d_PS_makeOfTwo_55 rfl (Or.inr ⟨_, rfl⟩) (Nat.le_of_ble_eq_true rfl) (Nat.le_of_ble_eq_true rfl) ⟨rfl, rfl⟩

set_option maxHeartbeats 4000000 in
set_option maxRecDepth 100000 in
theorem c_PS_makeOfTwo_x {M : mg_M} {kd : Int32} {p q : Nat} (k2 : ¬ kd = 2) (k3 : ¬ kd = 3) : mg_Ct Y_PS_makeOfTwo { frames := 3, cells := 1, slots := 3, locals := 55 } [.int kd, .ref p, .ref q] M (fun v M' => v = some .null ∧ M' = M) := by
  refine mg_met [some (.int kd), some (.ref p), some (.ref q)] (by decide +kernel) rfl (Nat.le_of_ble_eq_true rfl) ?_
  intro X hR _
  first | refine mg_aload_n d_PS_makeOfTwo_0 rfl rfl ?_ | refine mg_aload_nN d_PS_makeOfTwo_0 rfl rfl ?_
  refine mg_ifnull d_PS_makeOfTwo_1 ?_
  first | refine mg_aload_n d_PS_makeOfTwo_4 rfl rfl ?_ | refine mg_aload_nN d_PS_makeOfTwo_4 rfl rfl ?_
  refine mg_ifnonnull (tgt := 10) d_PS_makeOfTwo_5 (by decide) ?_
  refine mg_iload_n d_PS_makeOfTwo_10 rfl rfl ?_
  refine mg_lookup (off := 45) (tgt := 56) d_PS_makeOfTwo_11 (by decide) ((lv_osw (k := 2) k2 (by decide)).trans (lv_osw (k := 3) k3 (by decide))) (by decide) ?_
  refine mg_aconst_null d_PS_makeOfTwo_56 ?_
  exact mg_areturn d_PS_makeOfTwo_57 rfl (Or.inl rfl) (Nat.le_of_ble_eq_true rfl) (Nat.le_of_ble_eq_true rfl) ⟨rfl, rfl⟩

set_option maxHeartbeats 4000000 in
set_option maxRecDepth 100000 in
theorem c_PS_makeG0 {M : mg_M} {np nk : Nat} {lk fg fp : Value} {wa fv : Int32} {le : Bool} {sm0 : Int64} {gs : List gN} {h : Nat} {a b : Int32} (hk0 : h ≠ 0) (hn : M h = none) : mg_Ct Y_PS_makeGenerator { frames := 4, cells := 1, slots := 3, locals := 77 } [.ref 1, .int 0, .int a, .int b] M (mkP M h (mkG gs 0 a b)) := by
  refine mg_met [some (.ref 1), some (.int 0), some (.int a), some (.int b), none] (by decide +kernel) rfl (Nat.le_of_ble_eq_true rfl) ?_
  intro X hR _
  refine mg_iload_n d_PS_makeGenerator_0 rfl rfl ?_
  refine mg_if_ne (tgt := 37) d_PS_makeGenerator_1 (by decide) (fun c_1 => ?_) (fun c_1 => ?_)
  · exact absurd rfl c_1
  · refine mg_iload_n d_PS_makeGenerator_4 rfl rfl ?_
    refine mg_callS (sl_PS_159 rfl) d_PS_makeGenerator_5 (c_PS_isNear) rfl rfl (by rw [hR]; decide) (by rw [hR]; decide) (Nat.le_of_ble_eq_true rfl) ?_
    rintro v M1 ⟨rfl, rfl⟩
    refine mg_if_eq (tgt := 35) d_PS_makeGenerator_8 (by decide) (fun c_8 => ?_) (fun c_8 => ?_)
    · refine mg_aconst_null d_PS_makeGenerator_35 ?_
      exact mg_areturn d_PS_makeGenerator_36 rfl (Or.inl rfl) (Nat.le_of_ble_eq_true rfl) (Nat.le_of_ble_eq_true rfl) (by rw [mkG, if_pos rfl, if_neg (fun h9 => by rw [bI_f c_8] at h9; exact absurd h9.1 (by decide))]; exact ⟨rfl, rfl⟩)
    · refine mg_iload_n d_PS_makeGenerator_11 rfl rfl ?_
      refine mg_callS (sl_PS_159 rfl) d_PS_makeGenerator_12 (c_PS_isNear) rfl rfl (by rw [hR]; decide) (by rw [hR]; decide) (Nat.le_of_ble_eq_true rfl) ?_
      rintro v M1 ⟨rfl, rfl⟩
      refine mg_if_eq (tgt := 35) d_PS_makeGenerator_15 (by decide) (fun c_15 => ?_) (fun c_15 => ?_)
      · refine mg_aconst_null d_PS_makeGenerator_35 ?_
        exact mg_areturn d_PS_makeGenerator_36 rfl (Or.inl rfl) (Nat.le_of_ble_eq_true rfl) (Nat.le_of_ble_eq_true rfl) (by rw [mkG, if_pos rfl, if_neg (fun h9 => by rw [bI_f c_15] at h9; exact absurd h9.2.1 (by decide))]; exact ⟨rfl, rfl⟩)
      · refine mg_iload_n d_PS_makeGenerator_18 rfl rfl ?_
        refine mg_iload_n d_PS_makeGenerator_19 rfl rfl ?_
        refine mg_icmp_gt (tgt := 35) d_PS_makeGenerator_20 (by decide) (fun c_20 => ?_) (fun c_20 => ?_)
        · refine mg_aconst_null d_PS_makeGenerator_35 ?_
          exact mg_areturn d_PS_makeGenerator_36 rfl (Or.inl rfl) (Nat.le_of_ble_eq_true rfl) (Nat.le_of_ble_eq_true rfl) (by rw [mkG, if_pos rfl, if_neg (fun h9 => absurd c_20 (Int32.not_lt.mpr h9.2.2))]; exact ⟨rfl, rfl⟩)
        · refine mg_new (h := h) nl_PS_162 d_PS_makeGenerator_23 hk0 hn (mg_nr_cl rfl) (by rw [hR]; exact Nat.le_of_ble_eq_true rfl) (by rw [hR]; exact Nat.le_of_ble_eq_true rfl) ?_
          refine mg_dup d_PS_makeGenerator_26 rfl ?_
          refine mg_iload_n d_PS_makeGenerator_27 rfl rfl ?_
          refine mg_iload_n d_PS_makeGenerator_28 rfl rfl ?_
          refine mg_callI (il_PS_164 rfl) d_PS_makeGenerator_29 (c_IR_init (mg_up_s _ _ _)) rfl rfl (by rw [hR]; decide) (by rw [hR]; exact ⟨Nat.le_of_ble_eq_true rfl, Nat.le_of_ble_eq_true rfl⟩) (Nat.le_of_ble_eq_true rfl) ?_
          rintro v M1 ⟨rfl, rfl⟩
          rw [mg_up_up]
          refine mg_goto (tgt := 36) d_PS_makeGenerator_32 (by decide) ?_
          exact mg_areturn d_PS_makeGenerator_36 rfl (Or.inr ⟨_, rfl⟩) (Nat.le_of_ble_eq_true rfl) (Nat.le_of_ble_eq_true rfl) (by rw [mkG, if_pos rfl, if_pos ⟨bI_t c_8, bI_t c_15, Int32.not_lt.mp c_20⟩]; exact ⟨rfl, rfl⟩)

set_option maxHeartbeats 4000000 in
set_option maxRecDepth 100000 in
theorem c_PS_makeGn {M : mg_M} {np nk : Nat} {lk fg fp : Value} {wa fv : Int32} {le : Bool} {sm0 : Int64} {gs : List gN} {h : Nat} {kd a b : Int32} (k0 : ¬ kd = 0) (hO : M 1 = some (psF gs.length np lk nk wa fg fp fv le sm0)) (ha : a < 0 ∨ nI gs.length ≤ a) : mg_Ct Y_PS_makeGenerator { frames := 4, cells := 1, slots := 3, locals := 77 } [.ref 1, .int kd, .int a, .int b] M (mkP M h (mkG gs kd a b)) := by
  refine mg_met [some (.ref 1), some (.int kd), some (.int a), some (.int b), none] (by decide +kernel) rfl (Nat.le_of_ble_eq_true rfl) ?_
  intro X hR _
  refine mg_iload_n d_PS_makeGenerator_0 rfl rfl ?_
  refine mg_if_ne (tgt := 37) d_PS_makeGenerator_1 (by decide) (fun c_1 => ?_) (fun c_1 => ?_)
  · first | refine mg_aload_n d_PS_makeGenerator_37 rfl rfl ?_ | refine mg_aload_nN d_PS_makeGenerator_37 rfl rfl ?_
    refine mg_iload_n d_PS_makeGenerator_38 rfl rfl ?_
    refine mg_callV (vl_PS_61 rfl) d_PS_makeGenerator_39 hO rfl rfl (c_PS_generatorAt_out hO ha) rfl rfl (by rw [hR]; decide) (by rw [hR]; decide) (Nat.le_of_ble_eq_true rfl) ?_
    rintro v M1 ⟨rfl, rfl⟩
    first | refine mg_astore d_PS_makeGenerator_42 (Nat.le_of_ble_eq_true rfl) rfl ?_ | refine mg_astoreN d_PS_makeGenerator_42 (Nat.le_of_ble_eq_true rfl) rfl ?_
    first | refine mg_aload d_PS_makeGenerator_44 rfl ?_ | refine mg_aloadN d_PS_makeGenerator_44 rfl ?_
    refine mg_ifnonnullN d_PS_makeGenerator_46 ?_
    refine mg_aconst_null d_PS_makeGenerator_49 ?_
    exact mg_areturn d_PS_makeGenerator_50 rfl (Or.inl rfl) (Nat.le_of_ble_eq_true rfl) (Nat.le_of_ble_eq_true rfl) (by rw [mkG, if_neg k0, if_pos ha]; exact ⟨rfl, rfl⟩)
  · exact absurd c_1 k0

theorem mk_pre {gs : List gN} {kd b : Int32} {ja : Nat} {ga : gN} (ha : ja < gs.length) (h20 : gs.length ≤ 20) (hga : gs[ja]? = some ga) (k0 : ¬ kd = 0) : mkG gs kd (nI ja) b = if kd = 1 then (if ¬ b < 0 ∧ b ≤ 9 then some (1, nI ja, b, ga.2.2.2 + 1) else none)
      else if kd = 4 then (if b = 0 ∨ b = 1 then some (4, nI ja, b, ga.2.2.2 + 1) else none)
      else if kd = 5 then (if isNr b = true then some (5, nI ja, b, ga.2.2.2 + 1) else none)
      else if b < 0 ∨ nI gs.length ≤ b then none else match gs[b.toNatClampNeg]? with
        | none => none
        | some gb => if kd = 2 then some (2, nI ja, b, max ga.2.2.2 gb.2.2.2 + 1) else if kd = 3 then some (3, nI ja, b, max ga.2.2.2 gb.2.2.2 + 1) else none := by
  unfold mkG
  rw [if_neg k0, if_neg (fun h => h.elim (nI_pos (by omega)) (nI_ge ha (by omega))), nI_clamp (by omega : ja < 2 ^ 31), hga]
set_option maxHeartbeats 4000000 in
set_option maxRecDepth 100000 in
theorem c_PS_makeGi {M : mg_M} {np nk : Nat} {lk fg fp : Value} {wa fv : Int32} {le : Bool} {sm0 : Int64} {gs : List gN} {h : Nat} {kd b : Int32} {ja : Nat} {ga : gN} (hw : wfG gs) (k0 : ¬ kd = 0) (hO : M 1 = some (psF gs.length np lk nk wa fg fp fv le sm0)) (hA : M 2 = some (arE 1 20 (gA 100 gs.length))) (hG : isG M gs) (hk0 : h ≠ 0) (hn : M h = none) (hga : gs[ja]? = some ga) : mg_Ct Y_PS_makeGenerator { frames := 4, cells := 1, slots := 3, locals := 77 } [.ref 1, .int kd, .int (nI ja), .int b] M (mkP M h (mkG gs kd (nI ja) b)) := by
  have ha := (List.getElem?_eq_some_iff.mp hga).1
  have h20 := hw.1
  have nj : 100 + ja ≠ h := fun e => by rw [← e, hG ja ga hga] at hn; cases hn
  refine mg_met [some (.ref 1), some (.int kd), some (.int (nI ja)), some (.int b), none] (by decide +kernel) rfl (Nat.le_of_ble_eq_true rfl) ?_
  intro X hR _
  refine mg_iload_n d_PS_makeGenerator_0 rfl rfl ?_
  refine mg_if_ne (tgt := 37) d_PS_makeGenerator_1 (by decide) (fun c_1 => ?_) (fun c_1 => ?_)
  · first | refine mg_aload_n d_PS_makeGenerator_37 rfl rfl ?_ | refine mg_aload_nN d_PS_makeGenerator_37 rfl rfl ?_
    refine mg_iload_n d_PS_makeGenerator_38 rfl rfl ?_
    refine mg_callV (vl_PS_61 rfl) d_PS_makeGenerator_39 hO rfl rfl (c_PS_generatorAt_in hO hA ha h20) rfl rfl (by rw [hR]; decide) (by rw [hR]; decide) (Nat.le_of_ble_eq_true rfl) ?_
    rintro v M1 ⟨rfl, rfl⟩
    first | refine mg_astore d_PS_makeGenerator_42 (Nat.le_of_ble_eq_true rfl) rfl ?_ | refine mg_astoreN d_PS_makeGenerator_42 (Nat.le_of_ble_eq_true rfl) rfl ?_
    first | refine mg_aload d_PS_makeGenerator_44 rfl ?_ | refine mg_aloadN d_PS_makeGenerator_44 rfl ?_
    refine mg_ifnonnull (tgt := 51) d_PS_makeGenerator_46 (by decide) ?_
    refine mg_iload_n d_PS_makeGenerator_51 rfl rfl ?_
    by_cases k1 : kd = 1
    · subst k1
      refine mg_tableIn (off := 36) (tgt := 88) d_PS_makeGenerator_52 (by decide) (by decide) rfl (by decide) ?_
      refine mg_iload_n d_PS_makeGenerator_88 rfl rfl ?_
      refine mg_if_lt (tgt := 111) d_PS_makeGenerator_89 (by decide) (fun c_89 => ?_) (fun c_89 => ?_)
      · refine mg_aconst_null d_PS_makeGenerator_111 ?_
        exact mg_areturn d_PS_makeGenerator_112 rfl (Or.inl rfl) (Nat.le_of_ble_eq_true rfl) (Nat.le_of_ble_eq_true rfl) (by rw [mk_pre ha h20 hga k0, if_pos rfl, if_neg (fun h9 => h9.1 c_89)]; exact ⟨rfl, rfl⟩)
      · refine mg_iload_n d_PS_makeGenerator_92 rfl rfl ?_
        refine mg_bipush (v := 9) d_PS_makeGenerator_93 (by decide) ?_
        refine mg_icmp_gt (tgt := 111) d_PS_makeGenerator_95 (by decide) (fun c_95 => ?_) (fun c_95 => ?_)
        · refine mg_aconst_null d_PS_makeGenerator_111 ?_
          exact mg_areturn d_PS_makeGenerator_112 rfl (Or.inl rfl) (Nat.le_of_ble_eq_true rfl) (Nat.le_of_ble_eq_true rfl) (by rw [mk_pre ha h20 hga k0, if_pos rfl, if_neg (fun h9 => absurd c_95 (Int32.not_lt.mpr h9.2))]; exact ⟨rfl, rfl⟩)
        · refine mg_new (h := h) nl_PS_167 d_PS_makeGenerator_98 hk0 hn (mg_nr_cl rfl) (by rw [hR]; exact Nat.le_of_ble_eq_true rfl) (by rw [hR]; exact Nat.le_of_ble_eq_true rfl) ?_
          refine mg_dup d_PS_makeGenerator_101 rfl ?_
          first | refine mg_aload d_PS_makeGenerator_102 rfl ?_ | refine mg_aloadN d_PS_makeGenerator_102 rfl ?_
          refine mg_iload_n d_PS_makeGenerator_104 rfl rfl ?_
          refine mg_callI (il_PS_169 rfl) d_PS_makeGenerator_105 (c_LO_init (mg_up_s _ _ _) (by rw [mg_up_n _ _ nj]; exact hG ja ga hga)) rfl rfl (by rw [hR]; decide) (by rw [hR]; exact ⟨Nat.le_of_ble_eq_true rfl, Nat.le_of_ble_eq_true rfl⟩) (Nat.le_of_ble_eq_true rfl) ?_
          rintro v M2 ⟨rfl, rfl⟩
          rw [mg_up_up]
          refine mg_goto (tgt := 112) d_PS_makeGenerator_108 (by decide) ?_
          exact mg_areturn d_PS_makeGenerator_112 rfl (Or.inr ⟨_, rfl⟩) (Nat.le_of_ble_eq_true rfl) (Nat.le_of_ble_eq_true rfl) (by rw [mk_pre ha h20 hga k0, if_pos rfl, if_pos ⟨c_89, Int32.not_lt.mp c_95⟩]; refine ⟨rfl, ?_⟩; simp only [genE, nI_clamp (by omega : ja < 2 ^ 31)])
    · by_cases k4 : kd = 4
      · subst k4
        refine mg_tableIn (off := 61) (tgt := 113) d_PS_makeGenerator_52 (by decide) (by decide) rfl (by decide) ?_
        refine mg_iload_n d_PS_makeGenerator_113 rfl rfl ?_
        refine mg_if_eq (tgt := 122) d_PS_makeGenerator_114 (by decide) (fun c_114 => ?_) (fun c_114 => ?_)
        · refine mg_new (h := h) nl_PS_172 d_PS_makeGenerator_122 hk0 hn (mg_nr_cl rfl) (by rw [hR]; exact Nat.le_of_ble_eq_true rfl) (by rw [hR]; exact Nat.le_of_ble_eq_true rfl) ?_
          refine mg_dup d_PS_makeGenerator_125 rfl ?_
          refine mg_aload d_PS_makeGenerator_126 rfl ?_
          refine mg_iload_n d_PS_makeGenerator_128 rfl rfl ?_
          refine mg_callI (il_PS_174 rfl) d_PS_makeGenerator_129 (c_KO_init (mg_up_s _ _ _) (by rw [mg_up_n _ _ nj]; exact hG ja ga hga)) rfl rfl (by rw [hR]; decide) (by rw [hR]; exact ⟨Nat.le_of_ble_eq_true rfl, Nat.le_of_ble_eq_true rfl⟩) (Nat.le_of_ble_eq_true rfl) ?_
          rintro v M2 ⟨rfl, rfl⟩
          rw [mg_up_up]
          refine mg_goto (tgt := 136) d_PS_makeGenerator_132 (by decide) ?_
          exact mg_areturn d_PS_makeGenerator_136 rfl (Or.inr ⟨_, rfl⟩) (Nat.le_of_ble_eq_true rfl) (Nat.le_of_ble_eq_true rfl) (by rw [mk_pre ha h20 hga k0, if_neg k1, if_pos rfl, if_pos (Or.inl c_114)]; refine ⟨rfl, ?_⟩; simp only [genE, nI_clamp (by omega : ja < 2 ^ 31)])
        · refine mg_iload_n d_PS_makeGenerator_117 rfl rfl ?_
          refine mg_iconst (v := 1) d_PS_makeGenerator_118 (by decide) ?_
          refine mg_icmp_ne (tgt := 135) d_PS_makeGenerator_119 (by decide) (fun c_119 => ?_) (fun c_119 => ?_)
          · refine mg_aconst_null d_PS_makeGenerator_135 ?_
            exact mg_areturn d_PS_makeGenerator_136 rfl (Or.inl rfl) (Nat.le_of_ble_eq_true rfl) (Nat.le_of_ble_eq_true rfl) (by rw [mk_pre ha h20 hga k0, if_neg k1, if_pos rfl, if_neg (fun h9 => h9.elim c_114 c_119)]; exact ⟨rfl, rfl⟩)
          · refine mg_new (h := h) nl_PS_172 d_PS_makeGenerator_122 hk0 hn (mg_nr_cl rfl) (by rw [hR]; exact Nat.le_of_ble_eq_true rfl) (by rw [hR]; exact Nat.le_of_ble_eq_true rfl) ?_
            refine mg_dup d_PS_makeGenerator_125 rfl ?_
            refine mg_aload d_PS_makeGenerator_126 rfl ?_
            refine mg_iload_n d_PS_makeGenerator_128 rfl rfl ?_
            refine mg_callI (il_PS_174 rfl) d_PS_makeGenerator_129 (c_KO_init (mg_up_s _ _ _) (by rw [mg_up_n _ _ nj]; exact hG ja ga hga)) rfl rfl (by rw [hR]; decide) (by rw [hR]; exact ⟨Nat.le_of_ble_eq_true rfl, Nat.le_of_ble_eq_true rfl⟩) (Nat.le_of_ble_eq_true rfl) ?_
            rintro v M2 ⟨rfl, rfl⟩
            rw [mg_up_up]
            refine mg_goto (tgt := 136) d_PS_makeGenerator_132 (by decide) ?_
            exact mg_areturn d_PS_makeGenerator_136 rfl (Or.inr ⟨_, rfl⟩) (Nat.le_of_ble_eq_true rfl) (Nat.le_of_ble_eq_true rfl) (by rw [mk_pre ha h20 hga k0, if_neg k1, if_pos rfl, if_pos (Or.inr c_119)]; refine ⟨rfl, ?_⟩; simp only [genE, nI_clamp (by omega : ja < 2 ^ 31)])
      · by_cases k5 : kd = 5
        · subst k5
          refine mg_tableIn (off := 85) (tgt := 137) d_PS_makeGenerator_52 (by decide) (by decide) rfl (by decide) ?_
          refine mg_iload_n d_PS_makeGenerator_137 rfl rfl ?_
          refine mg_callS (sl_PS_159 rfl) d_PS_makeGenerator_138 (c_PS_isNear) rfl rfl (by rw [hR]; decide) (by rw [hR]; decide) (Nat.le_of_ble_eq_true rfl) ?_
          rintro v M2 ⟨rfl, rfl⟩
          refine mg_if_eq (tgt := 157) d_PS_makeGenerator_141 (by decide) (fun c_141 => ?_) (fun c_141 => ?_)
          · refine mg_aconst_null d_PS_makeGenerator_157 ?_
            exact mg_areturn d_PS_makeGenerator_158 rfl (Or.inl rfl) (Nat.le_of_ble_eq_true rfl) (Nat.le_of_ble_eq_true rfl) (by rw [mk_pre ha h20 hga k0, if_neg k1, if_neg k4, if_pos rfl, if_neg (by rw [bI_f c_141]; decide)]; exact ⟨rfl, rfl⟩)
          · refine mg_new (h := h) nl_PS_175 d_PS_makeGenerator_144 hk0 hn (mg_nr_cl rfl) (by rw [hR]; exact Nat.le_of_ble_eq_true rfl) (by rw [hR]; exact Nat.le_of_ble_eq_true rfl) ?_
            refine mg_dup d_PS_makeGenerator_147 rfl ?_
            first | refine mg_aload d_PS_makeGenerator_148 rfl ?_ | refine mg_aloadN d_PS_makeGenerator_148 rfl ?_
            refine mg_iload_n d_PS_makeGenerator_150 rfl rfl ?_
            refine mg_callI (il_PS_177 rfl) d_PS_makeGenerator_151 (c_AT_init (mg_up_s _ _ _) (by rw [mg_up_n _ _ nj]; exact hG ja ga hga)) rfl rfl (by rw [hR]; decide) (by rw [hR]; exact ⟨Nat.le_of_ble_eq_true rfl, Nat.le_of_ble_eq_true rfl⟩) (Nat.le_of_ble_eq_true rfl) ?_
            rintro v M3 ⟨rfl, rfl⟩
            rw [mg_up_up]
            refine mg_goto (tgt := 158) d_PS_makeGenerator_154 (by decide) ?_
            exact mg_areturn d_PS_makeGenerator_158 rfl (Or.inr ⟨_, rfl⟩) (Nat.le_of_ble_eq_true rfl) (Nat.le_of_ble_eq_true rfl) (by rw [mk_pre ha h20 hga k0, if_neg k1, if_neg k4, if_pos rfl, if_pos (bI_t c_141)]; refine ⟨rfl, ?_⟩; simp only [genE, nI_clamp (by omega : ja < 2 ^ 31)])
        · have go : mg_G X Y_PS_makeGenerator (mg_Q X (mkP M1 h (mkG gs kd (nI ja) b)) { frames := 4, cells := 1, slots := 3, locals := 77 }) M1 (0 + 0) (0 + 0) 159 [some (.ref 1), some (.int kd), some (.int (nI ja)), some (.int b), some (.ref (100 + ja))] [] := by
            refine mg_iload_n d_PS_makeGenerator_159 rfl rfl ?_
            first | refine mg_aload d_PS_makeGenerator_160 rfl ?_ | refine mg_aloadN d_PS_makeGenerator_160 rfl ?_
            first | refine mg_aload_n d_PS_makeGenerator_162 rfl rfl ?_ | refine mg_aload_nN d_PS_makeGenerator_162 rfl rfl ?_
            refine mg_iload_n d_PS_makeGenerator_163 rfl rfl ?_
            rcases offR_or b h20 with hb | ⟨jb, hb, rfl⟩
            · refine mg_callV (vl_PS_61 rfl) d_PS_makeGenerator_164 hO rfl rfl (c_PS_generatorAt_out hO hb) rfl rfl (by rw [hR]; decide) (by rw [hR]; decide) (Nat.le_of_ble_eq_true rfl) ?_
              rintro v M2 ⟨rfl, rfl⟩
              refine mg_callS (sl_PS_178 rfl) d_PS_makeGenerator_167 c_PS_makeOfTwo_N rfl rfl (by rw [hR]; decide) (by rw [hR]; exact ⟨Nat.le_of_ble_eq_true rfl, Nat.le_of_ble_eq_true rfl⟩) (Nat.le_of_ble_eq_true rfl) ?_
              rintro v M3 ⟨rfl, rfl⟩
              exact mg_areturn d_PS_makeGenerator_170 rfl (Or.inl rfl) (Nat.le_of_ble_eq_true rfl) (Nat.le_of_ble_eq_true rfl) (by rw [mk_pre ha h20 hga k0, if_neg k1, if_neg k4, if_neg k5, if_pos (show b < 0 ∨ nI gs.length ≤ b from hb)]; exact ⟨rfl, rfl⟩)
            · obtain ⟨gb, hgb⟩ : ∃ gb, gs[jb]? = some gb := ⟨_, List.getElem?_eq_getElem hb⟩
              have nb : 100 + jb ≠ h := fun e => by rw [← e, hG jb gb hgb] at hn; cases hn
              refine mg_callV (vl_PS_61 rfl) d_PS_makeGenerator_164 hO rfl rfl (c_PS_generatorAt_in hO hA hb h20) rfl rfl (by rw [hR]; decide) (by rw [hR]; decide) (Nat.le_of_ble_eq_true rfl) ?_
              rintro v M2 ⟨rfl, rfl⟩
              have em : mkG gs kd (nI ja) (nI jb) = if kd = 2 then some (2, nI ja, nI jb, max ga.2.2.2 gb.2.2.2 + 1) else if kd = 3 then some (3, nI ja, nI jb, max ga.2.2.2 gb.2.2.2 + 1) else none := by rw [mk_pre ha h20 hga k0, if_neg k1, if_neg k4, if_neg k5, if_neg (fun h9 => h9.elim (nI_pos (by omega)) (nI_ge hb (by omega))), nI_clamp (by omega : jb < 2 ^ 31), hgb]
              by_cases k2 : kd = 2
              · subst k2
                refine mg_callS (sl_PS_178 rfl) d_PS_makeGenerator_167 (c_PS_makeOfTwo_2 (h := h) hk0 hn (hG ja ga hga) (hG jb gb hgb) (wf_dp hw hga).2 (wf_dp hw hgb).2) rfl rfl (by rw [hR]; decide) (by rw [hR]; exact ⟨Nat.le_of_ble_eq_true rfl, Nat.le_of_ble_eq_true rfl⟩) (Nat.le_of_ble_eq_true rfl) ?_
                rintro v M3 ⟨rfl, rfl⟩
                exact mg_areturn d_PS_makeGenerator_170 rfl (Or.inr ⟨_, rfl⟩) (Nat.le_of_ble_eq_true rfl) (Nat.le_of_ble_eq_true rfl) (by rw [em, if_pos rfl]; refine ⟨rfl, ?_⟩; simp only [genE, nI_clamp (by omega : ja < 2 ^ 31), nI_clamp (by omega : jb < 2 ^ 31)])
              · by_cases k3 : kd = 3
                · subst k3
                  refine mg_callS (sl_PS_178 rfl) d_PS_makeGenerator_167 (c_PS_makeOfTwo_3 (h := h) hk0 hn (hG ja ga hga) (hG jb gb hgb) (wf_dp hw hga).2 (wf_dp hw hgb).2) rfl rfl (by rw [hR]; decide) (by rw [hR]; exact ⟨Nat.le_of_ble_eq_true rfl, Nat.le_of_ble_eq_true rfl⟩) (Nat.le_of_ble_eq_true rfl) ?_
                  rintro v M3 ⟨rfl, rfl⟩
                  exact mg_areturn d_PS_makeGenerator_170 rfl (Or.inr ⟨_, rfl⟩) (Nat.le_of_ble_eq_true rfl) (Nat.le_of_ble_eq_true rfl) (by rw [em, if_neg k2, if_pos rfl]; refine ⟨rfl, ?_⟩; simp only [genE, nI_clamp (by omega : ja < 2 ^ 31), nI_clamp (by omega : jb < 2 ^ 31)])
                · refine mg_callS (sl_PS_178 rfl) d_PS_makeGenerator_167 (c_PS_makeOfTwo_x k2 k3) rfl rfl (by rw [hR]; decide) (by rw [hR]; exact ⟨Nat.le_of_ble_eq_true rfl, Nat.le_of_ble_eq_true rfl⟩) (Nat.le_of_ble_eq_true rfl) ?_
                  rintro v M3 ⟨rfl, rfl⟩
                  exact mg_areturn d_PS_makeGenerator_170 rfl (Or.inl rfl) (Nat.le_of_ble_eq_true rfl) (Nat.le_of_ble_eq_true rfl) (by rw [em, if_neg k2, if_neg k3]; exact ⟨rfl, rfl⟩)
          by_cases k2 : kd = 2
          · subst k2
            refine mg_tableIn (off := 107) (tgt := 159) d_PS_makeGenerator_52 (by decide) (by decide) rfl (by decide) ?_
            exact go
          · by_cases k3 : kd = 3
            · subst k3
              refine mg_tableIn (off := 107) (tgt := 159) d_PS_makeGenerator_52 (by decide) (by decide) rfl (by decide) ?_
              exact go
            · have hout : kd.toInt < 1 ∨ 5 < kd.toInt := by
                have a1 := lv_neT k1 (a := 1) (by decide)
                have a2 := lv_neT k2 (a := 2) (by decide)
                have a3 := lv_neT k3 (a := 3) (by decide)
                have a4 := lv_neT k4 (a := 4) (by decide)
                have a5 := lv_neT k5 (a := 5) (by decide)
                omega
              refine mg_tableOut (tgt := 159) d_PS_makeGenerator_52 hout (by decide) ?_
              exact go
  · exact absurd c_1 k0
end
