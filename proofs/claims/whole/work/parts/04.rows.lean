/-! THE JUDGEMENT 'mg_G': a method at a program counter, over the memory by handles. X: what stands still (the machine, the start's memory); Y: the method. -/
abbrev mg_X : Type := Program × Launch × Env × Room × State × MethodId × Array Value × List Frame × Method × Code × va_G × (Nat → Nat) × mg_M × (Nat → Nat)
abbrev mg_Y : Type := MethodName × ByteArray × Nat × Option FieldType
abbrev mg_cc (Y : mg_Y) : ByteArray := Y.2.1
abbrev mg_ret (Y : mg_Y) : Option FieldType := Y.2.2.2
abbrev mg_own (Y : mg_Y) : String := Y.1.cls
abbrev mg_nl (Y : mg_Y) : Nat := Y.2.2.1
abbrev mg_R (X : mg_X) : Room := X.2.2.2.1
abbrev mg_M0 (X : mg_X) : mg_M := X.2.2.2.2.2.2.2.2.2.2.2.2.1
def mg_isN (w : Cond) : Bool := match w with
  | .fieldLinkNest .. => true
  | .methodLinkNest .. => true
  | .declares .. => true
  | .castable .. => true
  | _ => false
theorem mg_NW_ok : ∀ w ∈ mg_NW, mg_isN w = true := by decide +kernel
/-- what is known of the classes, the arrays' classes, and the links among nest mates -/
def mg_K (D : va_G) (gT : Nat → Nat) (U : State) : Prop := (∀ (c : Nat) (q : vw_C), mg_cl[c]? = some q → u_Kn U q.1 q.2.1 q.2.2 (D.1 c) (D.2 c)) ∧ (∀ (t : Nat) (ty : FieldType), mg_at[t]? = some ty → ArrOfT U (gT t) ty ∧ va_RA U (gT t) ty) ∧ (∀ w ∈ mg_NW, va_Nw w U) ∧ ∀ C ∈ mg_AO, va_AO C U
theorem mg_K.va {D : va_G} {gT : Nat → Nat} {U : State} (h : mg_K D gT U) : va_K D mg_cl [] U := ⟨h.1, fun k q hq => by simp at hq⟩
theorem mg_K.va1 {D : va_G} {gT : Nat → Nat} {U : State} (h : mg_K D gT U) {t : Nat} {ty : FieldType} (ht : mg_at[t]? = some ty) : va_K D mg_cl [(gT t, ty)] U := ⟨h.1, fun k q hq => by
  have hk : k = 0 := by
    have := (List.getElem?_eq_some_iff.mp hq).1
    simp at this
    omega
  subst hk
  cases hq
  exact h.2.1 t ty ht⟩
theorem mg_K.warm {D : va_G} {gT : Nat → Nat} {s U : State} (hW : s.WarmedH U.vm) (h : mg_K D gT s) : mg_K D gT U := by
  refine ⟨fun c q hq => u_Kn_moved hW.alike (h.1 c q hq), fun t ty ht => ⟨arrOfT_moved hW.alike (h.2.1 t ty ht).1, (h.2.1 t ty ht).2.moved hW.alike⟩, fun w hw => ?_, fun C hC => (h.2.2.2 C hC).moved hW.alike⟩
  have h1 := h.2.2.1 w hw
  have h2 := mg_NW_ok w hw
  cases w <;> first | exact va_Nw.warmF hW h1 | exact va_Nw.warmM hW h1 | exact va_Nw.warmD hW h1 | exact va_Nw.warmC hW h1 | (simp [mg_isN] at h2; done)
theorem mg_K.call {D : va_G} {gT : Nat → Nat} {U : State} {g : JFrame} {mk : MethodId} {a : Array Value} (h : mg_K D gT U) : mg_K D gT (U.calling g mk a) := by
  have hW : U.vm.Alike (U.calling g mk a).vm := Vm.Alike.refl U.vm
  refine ⟨fun c q hq => u_Kn_moved hW (h.1 c q hq), fun t ty ht => ⟨arrOfT_moved hW (h.2.1 t ty ht).1, (h.2.1 t ty ht).2.moved hW⟩, fun w hw => ?_, fun C hC => (h.2.2.2 C hC).moved hW⟩
  have h1 := h.2.2.1 w hw
  have h2 := mg_NW_ok w hw
  refine va_Nw.same (u := U) (U := U.calling g mk a) ?_ rfl h1
  cases w <;> first | (simp [mg_isN] at h2; done) | rfl
def mg_A (ad : Nat → Nat) (M : mg_M) (sz : Nat) : Nat → Prop := fun q => (∃ k, M k ≠ none ∧ q = ad k) ∨ sz ≤ q
def mg_cS (M : mg_M) (st : List Value) : Prop := ∀ v ∈ st, mg_cv M v
theorem mg_cS.mono {M M' : mg_M} {st : List Value} (h : mg_cS M st) (hd : ∀ k, M k ≠ none → M' k ≠ none) : mg_cS M' st := fun v hv => (h v hv).mono hd
theorem mg_cS.tl {M : mg_M} {st : List Value} {v : Value} (h : mg_cS M (v :: st)) : mg_cS M st := fun w hw => h w (List.mem_cons_of_mem _ hw)
theorem mg_cS.hd {M : mg_M} {st : List Value} {v : Value} (h : mg_cS M (v :: st)) : mg_cv M v := h v List.mem_cons_self
theorem mg_cS.cons {M : mg_M} {st : List Value} {v : Value} (hv : mg_cv M v) (h : mg_cS M st) : mg_cS M (v :: st) := fun w hw => by
  rcases List.mem_cons.mp hw with rfl | hw
  · exact hv
  · exact h w hw
theorem mg_cS.app {M : mg_M} {a b : List Value} (ha : mg_cS M a) (h : mg_cS M b) : mg_cS M (a ++ b) := fun w hw => by
  rcases List.mem_append.mp hw with hw | hw
  · exact ha w hw
  · exact h w hw
def mg_cL (M : mg_M) (lv : List (Option Value)) : Prop := ∀ (i : Nat) (v : Value), lv[i]? = some (some v) → mg_cv M v
/-- the locals: what stands in the list is held -/
def mg_L (ad : Nat → Nat) (n : Nat) (lv : List (Option Value)) (ls : Array Slot) : Prop := ls.size = n ∧ lv_wf ls ∧ ∀ (i : Nat) (v : Value), lv[i]? = some (some v) → ls[i]? = some (.val (mg_tr ad v))
def mg_C (X : mg_X) (Y : mg_Y) : Prop := match X, Y with
  | (p, _, _, _, s, m, args, _, meth, c, D, gT, _, _), (y, cc, n, ret) => p.tables.exec = Jvm.exec ∧ c.code = cc ∧ meth.sig.returnType = ret ∧ c.maxLocals = n ∧ s.vm.findClass y.cls = some m.cls ∧ (∀ w ∈ mg_GT, w.before args s = true) ∧ mg_K D gT s ∧ meth.locks = false ∧ meth.name = y.name
def mg_G (X : mg_X) (Y : mg_Y) (Q : State → Prop) (M : mg_M) (k j pc : Nat) (lv : List (Option Value)) (st : List Value) : Prop := mg_C X Y → match X, Y with
  | (p, l, e, R, s, m, args, below, meth, c, D, gT, M0, ad0), (_, _, n, _) => ∀ (ad : Nat → Nat) (H : Heap) (locs : List Loc) (ls : Array Slot), mg_H D gT mg_cl (mg_A ad0 M0 s.heap.size) ad M H → mg_L ad n lv ls → (∀ q, (q = 0 ∨ M0 q ≠ none) → (q = 0 ∨ M q ≠ none) ∧ ad q = ad0 q) → mg_cL M lv → mg_cS M st → va_S (mg_A ad0 M0 s.heap.size) s.heap H locs → W p l e R s m args below meth c H locs k j Q (F0 m pc ls (st.map (mg_tr ad)))
section MGR
variable {X : mg_X} {Y : mg_Y} {Q : State → Prop} {M : mg_M} {k j pc : Nat} {lv : List (Option Value)} {rest : List Value}

theorem mg_iconst {z : Int} {v : Int32} (hd : decode (mg_cc Y) pc = .ok (.iconst z, 1)) (hv : Int32.ofInt z = v) (kk : mg_G X Y Q M k j (pc + 1) lv (.int v :: rest)) : mg_G X Y Q M k j pc lv (rest) := by
  obtain ⟨p, l, e, R, s, m, args, below, meth, c, D, gT, M0, ad0⟩ := X
  obtain ⟨yy, cc, n, ret⟩ := Y
  intro hC ad H locs ls hH hL hk hlv hst hS
  exact lv_iconst hC.1 hC.2.1 hd hv (kk hC ad H locs ls hH hL hk hlv (hst.cons trivial) hS)
theorem mg_bipush {z : Int} {v : Int32} (hd : decode (mg_cc Y) pc = .ok (.bipush z, 2)) (hv : (Int8.ofInt z).toInt32 = v) (kk : mg_G X Y Q M k j (pc + 2) lv (.int v :: rest)) : mg_G X Y Q M k j pc lv (rest) := by
  obtain ⟨p, l, e, R, s, m, args, below, meth, c, D, gT, M0, ad0⟩ := X
  obtain ⟨yy, cc, n, ret⟩ := Y
  intro hC ad H locs ls hH hL hk hlv hst hS
  exact lv_bipush hC.1 hC.2.1 hd hv (kk hC ad H locs ls hH hL hk hlv (hst.cons trivial) hS)
theorem mg_sipush {z : Int} {v : Int32} (hd : decode (mg_cc Y) pc = .ok (.sipush z, 3)) (hv : (Int16.ofInt z).toInt32 = v) (kk : mg_G X Y Q M k j (pc + 3) lv (.int v :: rest)) : mg_G X Y Q M k j pc lv (rest) := by
  obtain ⟨p, l, e, R, s, m, args, below, meth, c, D, gT, M0, ad0⟩ := X
  obtain ⟨yy, cc, n, ret⟩ := Y
  intro hC ad H locs ls hH hL hk hlv hst hS
  exact lv_sipush hC.1 hC.2.1 hd hv (kk hC ad H locs ls hH hL hk hlv (hst.cons trivial) hS)
theorem mg_lconst {z : Fin 2} {v : Int64} (hd : decode (mg_cc Y) pc = .ok (.lconst z, 1)) (hv : Int64.ofNat (z : Nat) = v) (kk : mg_G X Y Q M k j (pc + 1) lv (.long v :: rest)) : mg_G X Y Q M k j pc lv (rest) := by
  obtain ⟨p, l, e, R, s, m, args, below, meth, c, D, gT, M0, ad0⟩ := X
  obtain ⟨yy, cc, n, ret⟩ := Y
  intro hC ad H locs ls hH hL hk hlv hst hS
  exact lv_lconst hC.1 hC.2.1 hd hv (kk hC ad H locs ls hH hL hk hlv (hst.cons trivial) hS)
theorem mg_ldc {v : Int32} {ix : Nat} (hd : decode (mg_cc Y) pc = .ok (.ldc ix, 2)) (hw : Cond.constant (mg_own Y) ix v ∈ mg_GT) (kk : mg_G X Y Q M k j (pc + 2) lv (.int v :: rest)) : mg_G X Y Q M k j pc lv (rest) := by
  obtain ⟨p, l, e, R, s, m, args, below, meth, c, D, gT, M0, ad0⟩ := X
  obtain ⟨yy, cc, n, ret⟩ := Y
  intro hC ad H locs ls hH hL hk hlv hst hS
  exact lv_ldc hC.1 hC.2.1 hC.2.2.2.2.1 (hC.2.2.2.2.2.1 _ hw) hd (kk hC ad H locs ls hH hL hk hlv (hst.cons trivial) hS)
theorem mg_ldc2 {v : Int64} {ix : Nat} (hd : decode (mg_cc Y) pc = .ok (.ldc2_w ix, 3)) (hw : Cond.constantLong (mg_own Y) ix v ∈ mg_GT) (kk : mg_G X Y Q M k j (pc + 3) lv (.long v :: rest)) : mg_G X Y Q M k j pc lv (rest) := by
  obtain ⟨p, l, e, R, s, m, args, below, meth, c, D, gT, M0, ad0⟩ := X
  obtain ⟨yy, cc, n, ret⟩ := Y
  intro hC ad H locs ls hH hL hk hlv hst hS
  exact lv_ldc2 hC.1 hC.2.1 hC.2.2.2.2.1 (hC.2.2.2.2.2.1 _ hw) hd (kk hC ad H locs ls hH hL hk hlv (hst.cons trivial) hS)
theorem mg_iload_n {q : Fin 4} {i : Nat} {x : Int32} (hd : decode (mg_cc Y) pc = .ok (.iload_n q, 1)) (hi : (q : Nat) = i) (hl : lv[i]? = some (some (.int x))) (kk : mg_G X Y Q M k j (pc + 1) lv (.int x :: rest)) : mg_G X Y Q M k j pc lv (rest) := by
  obtain ⟨p, l, e, R, s, m, args, below, meth, c, D, gT, M0, ad0⟩ := X
  obtain ⟨yy, cc, n, ret⟩ := Y
  intro hC ad H locs ls hH hL hk hlv hst hS
  exact lv_iload_n hC.1 hC.2.1 hd hi (hL.2.2 i _ hl) (kk hC ad H locs ls hH hL hk hlv (hst.cons trivial) hS)
theorem mg_iload {i : Nat} {x : Int32} (hd : decode (mg_cc Y) pc = .ok (.iload i, 2)) (hl : lv[i]? = some (some (.int x))) (kk : mg_G X Y Q M k j (pc + 2) lv (.int x :: rest)) : mg_G X Y Q M k j pc lv (rest) := by
  obtain ⟨p, l, e, R, s, m, args, below, meth, c, D, gT, M0, ad0⟩ := X
  obtain ⟨yy, cc, n, ret⟩ := Y
  intro hC ad H locs ls hH hL hk hlv hst hS
  exact lv_iload hC.1 hC.2.1 hd (hL.2.2 i _ hl) (kk hC ad H locs ls hH hL hk hlv (hst.cons trivial) hS)
theorem mg_lload_n {q : Fin 4} {i : Nat} {x : Int64} (hd : decode (mg_cc Y) pc = .ok (.lload_n q, 1)) (hi : (q : Nat) = i) (hl : lv[i]? = some (some (.long x))) (kk : mg_G X Y Q M k j (pc + 1) lv (.long x :: rest)) : mg_G X Y Q M k j pc lv (rest) := by
  obtain ⟨p, l, e, R, s, m, args, below, meth, c, D, gT, M0, ad0⟩ := X
  obtain ⟨yy, cc, n, ret⟩ := Y
  intro hC ad H locs ls hH hL hk hlv hst hS
  exact lv_lload_n hC.1 hC.2.1 hd hi (hL.2.2 i _ hl) (kk hC ad H locs ls hH hL hk hlv (hst.cons trivial) hS)
theorem mg_lload {i : Nat} {x : Int64} (hd : decode (mg_cc Y) pc = .ok (.lload i, 2)) (hl : lv[i]? = some (some (.long x))) (kk : mg_G X Y Q M k j (pc + 2) lv (.long x :: rest)) : mg_G X Y Q M k j pc lv (rest) := by
  obtain ⟨p, l, e, R, s, m, args, below, meth, c, D, gT, M0, ad0⟩ := X
  obtain ⟨yy, cc, n, ret⟩ := Y
  intro hC ad H locs ls hH hL hk hlv hst hS
  exact lv_lload hC.1 hC.2.1 hd (hL.2.2 i _ hl) (kk hC ad H locs ls hH hL hk hlv (hst.cons trivial) hS)
theorem mg_aload_n {q : Fin 4} {i : Nat} {x : Nat} (hd : decode (mg_cc Y) pc = .ok (.aload_n q, 1)) (hi : (q : Nat) = i) (hl : lv[i]? = some (some (.ref x))) (kk : mg_G X Y Q M k j (pc + 1) lv (.ref x :: rest)) : mg_G X Y Q M k j pc lv (rest) := by
  obtain ⟨p, l, e, R, s, m, args, below, meth, c, D, gT, M0, ad0⟩ := X
  obtain ⟨yy, cc, n, ret⟩ := Y
  intro hC ad H locs ls hH hL hk hlv hst hS
  exact lv_aload_n hC.1 hC.2.1 hd hi (hL.2.2 i _ hl) (kk hC ad H locs ls hH hL hk hlv (hst.cons (hlv i _ hl)) hS)
theorem mg_aload {i : Nat} {x : Nat} (hd : decode (mg_cc Y) pc = .ok (.aload i, 2)) (hl : lv[i]? = some (some (.ref x))) (kk : mg_G X Y Q M k j (pc + 2) lv (.ref x :: rest)) : mg_G X Y Q M k j pc lv (rest) := by
  obtain ⟨p, l, e, R, s, m, args, below, meth, c, D, gT, M0, ad0⟩ := X
  obtain ⟨yy, cc, n, ret⟩ := Y
  intro hC ad H locs ls hH hL hk hlv hst hS
  exact lv_aload hC.1 hC.2.1 hd (hL.2.2 i _ hl) (kk hC ad H locs ls hH hL hk hlv (hst.cons (hlv i _ hl)) hS)
theorem mg_aload_nN {q : Fin 4} {i : Nat} (hd : decode (mg_cc Y) pc = .ok (.aload_n q, 1)) (hi : (q : Nat) = i) (hl : lv[i]? = some (some .null)) (kk : mg_G X Y Q M k j (pc + 1) lv (.null :: rest)) : mg_G X Y Q M k j pc lv (rest) := by
  obtain ⟨p, l, e, R, s, m, args, below, meth, c, D, gT, M0, ad0⟩ := X
  obtain ⟨yy, cc, n, ret⟩ := Y
  intro hC ad H locs ls hH hL hk hlv hst hS
  exact lv_aload_nN hC.1 hC.2.1 hd hi (hL.2.2 i _ hl) (kk hC ad H locs ls hH hL hk hlv (hst.cons trivial) hS)
theorem mg_aloadN {i : Nat} (hd : decode (mg_cc Y) pc = .ok (.aload i, 2)) (hl : lv[i]? = some (some .null)) (kk : mg_G X Y Q M k j (pc + 2) lv (.null :: rest)) : mg_G X Y Q M k j pc lv (rest) := by
  obtain ⟨p, l, e, R, s, m, args, below, meth, c, D, gT, M0, ad0⟩ := X
  obtain ⟨yy, cc, n, ret⟩ := Y
  intro hC ad H locs ls hH hL hk hlv hst hS
  exact lv_aloadN hC.1 hC.2.1 hd (hL.2.2 i _ hl) (kk hC ad H locs ls hH hL hk hlv (hst.cons trivial) hS)
theorem mg_aconst_null (hd : decode (mg_cc Y) pc = .ok (.aconst_null, 1)) (kk : mg_G X Y Q M k j (pc + 1) lv (.null :: rest)) : mg_G X Y Q M k j pc lv (rest) := by
  obtain ⟨p, l, e, R, s, m, args, below, meth, c, D, gT, M0, ad0⟩ := X
  obtain ⟨yy, cc, n, ret⟩ := Y
  intro hC ad H locs ls hH hL hk hlv hst hS
  exact lv_null hC.1 hC.2.1 hd (kk hC ad H locs ls hH hL hk hlv (hst.cons trivial) hS)
theorem mg_iadd {x y : Int32} (hd : decode (mg_cc Y) pc = .ok (.iadd, 1)) (kk : mg_G X Y Q M k j (pc + 1) lv (.int (x + y) :: rest)) : mg_G X Y Q M k j pc lv (.int y :: .int x :: rest) := by
  obtain ⟨p, l, e, R, s, m, args, below, meth, c, D, gT, M0, ad0⟩ := X
  obtain ⟨yy, cc, n, ret⟩ := Y
  intro hC ad H locs ls hH hL hk hlv hst hS
  exact lv_iadd hC.1 hC.2.1 hd (kk hC ad H locs ls hH hL hk hlv (hst.tl.tl.cons trivial) hS)
theorem mg_isub {x y : Int32} (hd : decode (mg_cc Y) pc = .ok (.isub, 1)) (kk : mg_G X Y Q M k j (pc + 1) lv (.int (x - y) :: rest)) : mg_G X Y Q M k j pc lv (.int y :: .int x :: rest) := by
  obtain ⟨p, l, e, R, s, m, args, below, meth, c, D, gT, M0, ad0⟩ := X
  obtain ⟨yy, cc, n, ret⟩ := Y
  intro hC ad H locs ls hH hL hk hlv hst hS
  exact lv_isub hC.1 hC.2.1 hd (kk hC ad H locs ls hH hL hk hlv (hst.tl.tl.cons trivial) hS)
theorem mg_imul {x y : Int32} (hd : decode (mg_cc Y) pc = .ok (.imul, 1)) (kk : mg_G X Y Q M k j (pc + 1) lv (.int (x * y) :: rest)) : mg_G X Y Q M k j pc lv (.int y :: .int x :: rest) := by
  obtain ⟨p, l, e, R, s, m, args, below, meth, c, D, gT, M0, ad0⟩ := X
  obtain ⟨yy, cc, n, ret⟩ := Y
  intro hC ad H locs ls hH hL hk hlv hst hS
  exact lv_imul hC.1 hC.2.1 hd (kk hC ad H locs ls hH hL hk hlv (hst.tl.tl.cons trivial) hS)
theorem mg_iand {x y : Int32} (hd : decode (mg_cc Y) pc = .ok (.iand, 1)) (kk : mg_G X Y Q M k j (pc + 1) lv (.int (x &&& y) :: rest)) : mg_G X Y Q M k j pc lv (.int y :: .int x :: rest) := by
  obtain ⟨p, l, e, R, s, m, args, below, meth, c, D, gT, M0, ad0⟩ := X
  obtain ⟨yy, cc, n, ret⟩ := Y
  intro hC ad H locs ls hH hL hk hlv hst hS
  exact lv_iand hC.1 hC.2.1 hd (kk hC ad H locs ls hH hL hk hlv (hst.tl.tl.cons trivial) hS)
theorem mg_ior {x y : Int32} (hd : decode (mg_cc Y) pc = .ok (.ior, 1)) (kk : mg_G X Y Q M k j (pc + 1) lv (.int (x ||| y) :: rest)) : mg_G X Y Q M k j pc lv (.int y :: .int x :: rest) := by
  obtain ⟨p, l, e, R, s, m, args, below, meth, c, D, gT, M0, ad0⟩ := X
  obtain ⟨yy, cc, n, ret⟩ := Y
  intro hC ad H locs ls hH hL hk hlv hst hS
  exact lv_ior hC.1 hC.2.1 hd (kk hC ad H locs ls hH hL hk hlv (hst.tl.tl.cons trivial) hS)
theorem mg_ixor {x y : Int32} (hd : decode (mg_cc Y) pc = .ok (.ixor, 1)) (kk : mg_G X Y Q M k j (pc + 1) lv (.int (x ^^^ y) :: rest)) : mg_G X Y Q M k j pc lv (.int y :: .int x :: rest) := by
  obtain ⟨p, l, e, R, s, m, args, below, meth, c, D, gT, M0, ad0⟩ := X
  obtain ⟨yy, cc, n, ret⟩ := Y
  intro hC ad H locs ls hH hL hk hlv hst hS
  exact lv_ixor hC.1 hC.2.1 hd (kk hC ad H locs ls hH hL hk hlv (hst.tl.tl.cons trivial) hS)
theorem mg_ishl {x y : Int32} (hd : decode (mg_cc Y) pc = .ok (.ishl, 1)) (kk : mg_G X Y Q M k j (pc + 1) lv (.int (x <<< (y &&& 31)) :: rest)) : mg_G X Y Q M k j pc lv (.int y :: .int x :: rest) := by
  obtain ⟨p, l, e, R, s, m, args, below, meth, c, D, gT, M0, ad0⟩ := X
  obtain ⟨yy, cc, n, ret⟩ := Y
  intro hC ad H locs ls hH hL hk hlv hst hS
  exact lv_ishl hC.1 hC.2.1 hd (kk hC ad H locs ls hH hL hk hlv (hst.tl.tl.cons trivial) hS)
theorem mg_ishr {x y : Int32} (hd : decode (mg_cc Y) pc = .ok (.ishr, 1)) (kk : mg_G X Y Q M k j (pc + 1) lv (.int (x >>> (y &&& 31)) :: rest)) : mg_G X Y Q M k j pc lv (.int y :: .int x :: rest) := by
  obtain ⟨p, l, e, R, s, m, args, below, meth, c, D, gT, M0, ad0⟩ := X
  obtain ⟨yy, cc, n, ret⟩ := Y
  intro hC ad H locs ls hH hL hk hlv hst hS
  exact lv_ishr hC.1 hC.2.1 hd (kk hC ad H locs ls hH hL hk hlv (hst.tl.tl.cons trivial) hS)
theorem mg_idiv {x y : Int32} (hd : decode (mg_cc Y) pc = .ok (.idiv, 1)) (hne : ¬ y = 0) (kk : mg_G X Y Q M k j (pc + 1) lv (.int (x / y) :: rest)) : mg_G X Y Q M k j pc lv (.int y :: .int x :: rest) := by
  obtain ⟨p, l, e, R, s, m, args, below, meth, c, D, gT, M0, ad0⟩ := X
  obtain ⟨yy, cc, n, ret⟩ := Y
  intro hC ad H locs ls hH hL hk hlv hst hS
  exact lv_idiv hC.1 hC.2.1 hd hne (kk hC ad H locs ls hH hL hk hlv (hst.tl.tl.cons trivial) hS)
theorem mg_irem {x y : Int32} (hd : decode (mg_cc Y) pc = .ok (.irem, 1)) (hne : ¬ y = 0) (kk : mg_G X Y Q M k j (pc + 1) lv (.int (x - x / y * y) :: rest)) : mg_G X Y Q M k j pc lv (.int y :: .int x :: rest) := by
  obtain ⟨p, l, e, R, s, m, args, below, meth, c, D, gT, M0, ad0⟩ := X
  obtain ⟨yy, cc, n, ret⟩ := Y
  intro hC ad H locs ls hH hL hk hlv hst hS
  exact lv_irem hC.1 hC.2.1 hd hne (kk hC ad H locs ls hH hL hk hlv (hst.tl.tl.cons trivial) hS)
theorem mg_ineg {x : Int32} (hd : decode (mg_cc Y) pc = .ok (.ineg, 1)) (kk : mg_G X Y Q M k j (pc + 1) lv (.int (-x) :: rest)) : mg_G X Y Q M k j pc lv (.int x :: rest) := by
  obtain ⟨p, l, e, R, s, m, args, below, meth, c, D, gT, M0, ad0⟩ := X
  obtain ⟨yy, cc, n, ret⟩ := Y
  intro hC ad H locs ls hH hL hk hlv hst hS
  exact lv_ineg hC.1 hC.2.1 hd (kk hC ad H locs ls hH hL hk hlv (hst.tl.cons trivial) hS)
theorem mg_ladd {x y : Int64} (hd : decode (mg_cc Y) pc = .ok (.ladd, 1)) (kk : mg_G X Y Q M k j (pc + 1) lv (.long (x + y) :: rest)) : mg_G X Y Q M k j pc lv (.long y :: .long x :: rest) := by
  obtain ⟨p, l, e, R, s, m, args, below, meth, c, D, gT, M0, ad0⟩ := X
  obtain ⟨yy, cc, n, ret⟩ := Y
  intro hC ad H locs ls hH hL hk hlv hst hS
  exact lv_ladd hC.1 hC.2.1 hd (kk hC ad H locs ls hH hL hk hlv (hst.tl.tl.cons trivial) hS)
theorem mg_lsub {x y : Int64} (hd : decode (mg_cc Y) pc = .ok (.lsub, 1)) (kk : mg_G X Y Q M k j (pc + 1) lv (.long (x - y) :: rest)) : mg_G X Y Q M k j pc lv (.long y :: .long x :: rest) := by
  obtain ⟨p, l, e, R, s, m, args, below, meth, c, D, gT, M0, ad0⟩ := X
  obtain ⟨yy, cc, n, ret⟩ := Y
  intro hC ad H locs ls hH hL hk hlv hst hS
  exact lv_lsub hC.1 hC.2.1 hd (kk hC ad H locs ls hH hL hk hlv (hst.tl.tl.cons trivial) hS)
theorem mg_lmul {x y : Int64} (hd : decode (mg_cc Y) pc = .ok (.lmul, 1)) (kk : mg_G X Y Q M k j (pc + 1) lv (.long (x * y) :: rest)) : mg_G X Y Q M k j pc lv (.long y :: .long x :: rest) := by
  obtain ⟨p, l, e, R, s, m, args, below, meth, c, D, gT, M0, ad0⟩ := X
  obtain ⟨yy, cc, n, ret⟩ := Y
  intro hC ad H locs ls hH hL hk hlv hst hS
  exact lv_lmul hC.1 hC.2.1 hd (kk hC ad H locs ls hH hL hk hlv (hst.tl.tl.cons trivial) hS)
theorem mg_land {x y : Int64} (hd : decode (mg_cc Y) pc = .ok (.land, 1)) (kk : mg_G X Y Q M k j (pc + 1) lv (.long (x &&& y) :: rest)) : mg_G X Y Q M k j pc lv (.long y :: .long x :: rest) := by
  obtain ⟨p, l, e, R, s, m, args, below, meth, c, D, gT, M0, ad0⟩ := X
  obtain ⟨yy, cc, n, ret⟩ := Y
  intro hC ad H locs ls hH hL hk hlv hst hS
  exact lv_land hC.1 hC.2.1 hd (kk hC ad H locs ls hH hL hk hlv (hst.tl.tl.cons trivial) hS)
theorem mg_lor {x y : Int64} (hd : decode (mg_cc Y) pc = .ok (.lor, 1)) (kk : mg_G X Y Q M k j (pc + 1) lv (.long (x ||| y) :: rest)) : mg_G X Y Q M k j pc lv (.long y :: .long x :: rest) := by
  obtain ⟨p, l, e, R, s, m, args, below, meth, c, D, gT, M0, ad0⟩ := X
  obtain ⟨yy, cc, n, ret⟩ := Y
  intro hC ad H locs ls hH hL hk hlv hst hS
  exact lv_lor hC.1 hC.2.1 hd (kk hC ad H locs ls hH hL hk hlv (hst.tl.tl.cons trivial) hS)
theorem mg_lxor {x y : Int64} (hd : decode (mg_cc Y) pc = .ok (.lxor, 1)) (kk : mg_G X Y Q M k j (pc + 1) lv (.long (x ^^^ y) :: rest)) : mg_G X Y Q M k j pc lv (.long y :: .long x :: rest) := by
  obtain ⟨p, l, e, R, s, m, args, below, meth, c, D, gT, M0, ad0⟩ := X
  obtain ⟨yy, cc, n, ret⟩ := Y
  intro hC ad H locs ls hH hL hk hlv hst hS
  exact lv_lxor hC.1 hC.2.1 hd (kk hC ad H locs ls hH hL hk hlv (hst.tl.tl.cons trivial) hS)
theorem mg_ldiv {x y : Int64} (hd : decode (mg_cc Y) pc = .ok (.ldiv, 1)) (hne : ¬ y = 0) (kk : mg_G X Y Q M k j (pc + 1) lv (.long (x / y) :: rest)) : mg_G X Y Q M k j pc lv (.long y :: .long x :: rest) := by
  obtain ⟨p, l, e, R, s, m, args, below, meth, c, D, gT, M0, ad0⟩ := X
  obtain ⟨yy, cc, n, ret⟩ := Y
  intro hC ad H locs ls hH hL hk hlv hst hS
  exact lv_ldiv hC.1 hC.2.1 hd hne (kk hC ad H locs ls hH hL hk hlv (hst.tl.tl.cons trivial) hS)
theorem mg_lrem {x y : Int64} (hd : decode (mg_cc Y) pc = .ok (.lrem, 1)) (hne : ¬ y = 0) (kk : mg_G X Y Q M k j (pc + 1) lv (.long (x - x / y * y) :: rest)) : mg_G X Y Q M k j pc lv (.long y :: .long x :: rest) := by
  obtain ⟨p, l, e, R, s, m, args, below, meth, c, D, gT, M0, ad0⟩ := X
  obtain ⟨yy, cc, n, ret⟩ := Y
  intro hC ad H locs ls hH hL hk hlv hst hS
  exact lv_lrem hC.1 hC.2.1 hd hne (kk hC ad H locs ls hH hL hk hlv (hst.tl.tl.cons trivial) hS)
theorem mg_lushr {x : Int64} {y : Int32} (hd : decode (mg_cc Y) pc = .ok (.lushr, 1)) (kk : mg_G X Y Q M k j (pc + 1) lv (.long (x.toUInt64 >>> (y.toInt64.toUInt64 &&& Int64.toUInt64 63)).toInt64 :: rest)) : mg_G X Y Q M k j pc lv (.int y :: .long x :: rest) := by
  obtain ⟨p, l, e, R, s, m, args, below, meth, c, D, gT, M0, ad0⟩ := X
  obtain ⟨yy, cc, n, ret⟩ := Y
  intro hC ad H locs ls hH hL hk hlv hst hS
  exact lv_lushr hC.1 hC.2.1 hd rfl (kk hC ad H locs ls hH hL hk hlv (hst.tl.tl.cons trivial) hS)
theorem mg_lshl {x : Int64} {y : Int32} (hd : decode (mg_cc Y) pc = .ok (.lshl, 1)) (kk : mg_G X Y Q M k j (pc + 1) lv (.long (x <<< (y.toInt64 &&& 63)) :: rest)) : mg_G X Y Q M k j pc lv (.int y :: .long x :: rest) := by
  obtain ⟨p, l, e, R, s, m, args, below, meth, c, D, gT, M0, ad0⟩ := X
  obtain ⟨yy, cc, n, ret⟩ := Y
  intro hC ad H locs ls hH hL hk hlv hst hS
  exact lv_lshl hC.1 hC.2.1 hd rfl (kk hC ad H locs ls hH hL hk hlv (hst.tl.tl.cons trivial) hS)
theorem mg_iushr {x y : Int32} (hd : decode (mg_cc Y) pc = .ok (.iushr, 1)) (kk : mg_G X Y Q M k j (pc + 1) lv (.int (x.toUInt32 >>> (y.toUInt32 &&& Int32.toUInt32 31)).toInt32 :: rest)) : mg_G X Y Q M k j pc lv (.int y :: .int x :: rest) := by
  obtain ⟨p, l, e, R, s, m, args, below, meth, c, D, gT, M0, ad0⟩ := X
  obtain ⟨yy, cc, n, ret⟩ := Y
  intro hC ad H locs ls hH hL hk hlv hst hS
  exact lv_iushr hC.1 hC.2.1 hd rfl (kk hC ad H locs ls hH hL hk hlv (hst.tl.tl.cons trivial) hS)
theorem mg_i2l {x : Int32} (hd : decode (mg_cc Y) pc = .ok (.i2l, 1)) (kk : mg_G X Y Q M k j (pc + 1) lv (.long x.toInt64 :: rest)) : mg_G X Y Q M k j pc lv (.int x :: rest) := by
  obtain ⟨p, l, e, R, s, m, args, below, meth, c, D, gT, M0, ad0⟩ := X
  obtain ⟨yy, cc, n, ret⟩ := Y
  intro hC ad H locs ls hH hL hk hlv hst hS
  exact lv_i2l hC.1 hC.2.1 hd rfl (kk hC ad H locs ls hH hL hk hlv (hst.tl.cons trivial) hS)
theorem mg_l2i {x : Int64} (hd : decode (mg_cc Y) pc = .ok (.l2i, 1)) (kk : mg_G X Y Q M k j (pc + 1) lv (.int x.toInt32 :: rest)) : mg_G X Y Q M k j pc lv (.long x :: rest) := by
  obtain ⟨p, l, e, R, s, m, args, below, meth, c, D, gT, M0, ad0⟩ := X
  obtain ⟨yy, cc, n, ret⟩ := Y
  intro hC ad H locs ls hH hL hk hlv hst hS
  exact lv_l2i hC.1 hC.2.1 hd rfl (kk hC ad H locs ls hH hL hk hlv (hst.tl.cons trivial) hS)
theorem mg_lcmp {x y : Int64} (hd : decode (mg_cc Y) pc = .ok (.lcmp, 1)) (kk : mg_G X Y Q M k j (pc + 1) lv (.int (lg_cmp x y) :: rest)) : mg_G X Y Q M k j pc lv (.long y :: .long x :: rest) := by
  obtain ⟨p, l, e, R, s, m, args, below, meth, c, D, gT, M0, ad0⟩ := X
  obtain ⟨yy, cc, n, ret⟩ := Y
  intro hC ad H locs ls hH hL hk hlv hst hS
  exact W.lcmp hC.1 hC.2.1 hd (kk hC ad H locs ls hH hL hk hlv (hst.tl.tl.cons trivial) hS)
theorem mg_tr_cat (ad : Nat → Nat) (v : Value) : (mg_tr ad v).category = v.category := by cases v <;> rfl
theorem mg_dup {v : Value} (hd : decode (mg_cc Y) pc = .ok (.dup, 1)) (hv : v.category = 1) (kk : mg_G X Y Q M k j (pc + 1) lv (v :: v :: rest)) : mg_G X Y Q M k j pc lv (v :: rest) := by
  obtain ⟨p, l, e, R, s, m, args, below, meth, c, D, gT, M0, ad0⟩ := X
  obtain ⟨yy, cc, n, ret⟩ := Y
  intro hC ad H locs ls hH hL hk hlv hst hS
  exact lv_dup hC.1 hC.2.1 hd ((mg_tr_cat ad v).trans hv) (kk hC ad H locs ls hH hL hk hlv (hst.cons hst.hd) hS)
theorem mg_pop {v : Value} (hd : decode (mg_cc Y) pc = .ok (.pop, 1)) (hv : v.category = 1) (kk : mg_G X Y Q M k j (pc + 1) lv (rest)) : mg_G X Y Q M k j pc lv (v :: rest) := by
  obtain ⟨p, l, e, R, s, m, args, below, meth, c, D, gT, M0, ad0⟩ := X
  obtain ⟨yy, cc, n, ret⟩ := Y
  intro hC ad H locs ls hH hL hk hlv hst hS
  exact lv_pop hC.1 hC.2.1 hd ((mg_tr_cat ad v).trans hv) (kk hC ad H locs ls hH hL hk hlv (hst.tl) hS)
theorem mg_dup_x1 {v w : Value} (hd : decode (mg_cc Y) pc = .ok (.dup_x1, 1)) (hv : v.category = 1) (hw : w.category = 1) (kk : mg_G X Y Q M k j (pc + 1) lv (v :: w :: v :: rest)) : mg_G X Y Q M k j pc lv (v :: w :: rest) := by
  obtain ⟨p, l, e, R, s, m, args, below, meth, c, D, gT, M0, ad0⟩ := X
  obtain ⟨yy, cc, n, ret⟩ := Y
  intro hC ad H locs ls hH hL hk hlv hst hS
  exact lv_dup_x1 hC.1 hC.2.1 hd ((mg_tr_cat ad v).trans hv) ((mg_tr_cat ad w).trans hw) (kk hC ad H locs ls hH hL hk hlv (((hst.tl.tl.cons hst.hd).cons hst.tl.hd).cons hst.hd) hS)
theorem mg_dup_x2 {v w z : Value} (hd : decode (mg_cc Y) pc = .ok (.dup_x2, 1)) (hv : v.category = 1) (hw : w.category = 1) (hz : z.category = 1) (kk : mg_G X Y Q M k j (pc + 1) lv (v :: w :: z :: v :: rest)) : mg_G X Y Q M k j pc lv (v :: w :: z :: rest) := by
  obtain ⟨p, l, e, R, s, m, args, below, meth, c, D, gT, M0, ad0⟩ := X
  obtain ⟨yy, cc, n, ret⟩ := Y
  intro hC ad H locs ls hH hL hk hlv hst hS
  exact lv_dup_x2 hC.1 hC.2.1 hd ((mg_tr_cat ad v).trans hv) ((mg_tr_cat ad w).trans hw) ((mg_tr_cat ad z).trans hz) (kk hC ad H locs ls hH hL hk hlv ((((hst.tl.tl.tl.cons hst.hd).cons hst.tl.tl.hd).cons hst.tl.hd).cons hst.hd) hS)
theorem mg_dup2 {v w : Value} (hd : decode (mg_cc Y) pc = .ok (.dup2, 1)) (hv : v.category = 1) (hw : w.category = 1) (kk : mg_G X Y Q M k j (pc + 1) lv (v :: w :: v :: w :: rest)) : mg_G X Y Q M k j pc lv (v :: w :: rest) := by
  obtain ⟨p, l, e, R, s, m, args, below, meth, c, D, gT, M0, ad0⟩ := X
  obtain ⟨yy, cc, n, ret⟩ := Y
  intro hC ad H locs ls hH hL hk hlv hst hS
  exact lv_dup2_11 hC.1 hC.2.1 hd ((mg_tr_cat ad v).trans hv) ((mg_tr_cat ad w).trans hw) (kk hC ad H locs ls hH hL hk hlv ((hst.cons hst.tl.hd).cons hst.hd) hS)
theorem mg_dup2L {v : Value} (hd : decode (mg_cc Y) pc = .ok (.dup2, 1)) (hv : v.category = 2) (kk : mg_G X Y Q M k j (pc + 1) lv (v :: v :: rest)) : mg_G X Y Q M k j pc lv (v :: rest) := by
  obtain ⟨p, l, e, R, s, m, args, below, meth, c, D, gT, M0, ad0⟩ := X
  obtain ⟨yy, cc, n, ret⟩ := Y
  intro hC ad H locs ls hH hL hk hlv hst hS
  exact lv_dup2_2 hC.1 hC.2.1 hd ((mg_tr_cat ad v).trans hv) (kk hC ad H locs ls hH hL hk hlv (hst.cons hst.hd) hS)
theorem mg_dup2_x1L {v w : Value} (hd : decode (mg_cc Y) pc = .ok (.dup2_x1, 1)) (hv : v.category = 2) (hw : w.category = 1) (kk : mg_G X Y Q M k j (pc + 1) lv (v :: w :: v :: rest)) : mg_G X Y Q M k j pc lv (v :: w :: rest) := by
  obtain ⟨p, l, e, R, s, m, args, below, meth, c, D, gT, M0, ad0⟩ := X
  obtain ⟨yy, cc, n, ret⟩ := Y
  intro hC ad H locs ls hH hL hk hlv hst hS
  exact lv_dup2_x1_2 hC.1 hC.2.1 hd ((mg_tr_cat ad v).trans hv) ((mg_tr_cat ad w).trans hw) (kk hC ad H locs ls hH hL hk hlv (((hst.tl.tl.cons hst.hd).cons hst.tl.hd).cons hst.hd) hS)
theorem mg_if_eq {x : Int32} {off : Int} {tgt : Nat} (hd : decode (mg_cc Y) pc = .ok (.ifCond .eq off, 3)) (ht : (pc : Int) + off = (tgt : Int)) (kt : x = 0 → mg_G X Y Q M k j tgt lv rest) (kf : ¬ x = 0 → mg_G X Y Q M k j (pc + 3) lv rest) : mg_G X Y Q M k j pc lv (.int x :: rest) := by
  obtain ⟨p, l, e, R, s, m, args, below, meth, c, D, gT, M0, ad0⟩ := X
  obtain ⟨yy, cc, n, ret⟩ := Y
  intro hC ad H locs ls hH hL hk hlv hst hS
  exact lv_if_eq hC.1 hC.2.1 hd ht (fun h => kt h hC ad H locs ls hH hL hk hlv hst.tl hS) (fun h => kf h hC ad H locs ls hH hL hk hlv hst.tl hS)
theorem mg_icmp_eq {x y : Int32} {off : Int} {tgt : Nat} (hd : decode (mg_cc Y) pc = .ok (.if_icmp .eq off, 3)) (ht : (pc : Int) + off = (tgt : Int)) (kt : x = y → mg_G X Y Q M k j tgt lv rest) (kf : ¬ x = y → mg_G X Y Q M k j (pc + 3) lv rest) : mg_G X Y Q M k j pc lv (.int y :: .int x :: rest) := by
  obtain ⟨p, l, e, R, s, m, args, below, meth, c, D, gT, M0, ad0⟩ := X
  obtain ⟨yy, cc, n, ret⟩ := Y
  intro hC ad H locs ls hH hL hk hlv hst hS
  exact lv_icmp_eq hC.1 hC.2.1 hd ht (fun h => kt h hC ad H locs ls hH hL hk hlv hst.tl.tl hS) (fun h => kf h hC ad H locs ls hH hL hk hlv hst.tl.tl hS)
theorem mg_if_ne {x : Int32} {off : Int} {tgt : Nat} (hd : decode (mg_cc Y) pc = .ok (.ifCond .ne off, 3)) (ht : (pc : Int) + off = (tgt : Int)) (kt : ¬ x = 0 → mg_G X Y Q M k j tgt lv rest) (kf : x = 0 → mg_G X Y Q M k j (pc + 3) lv rest) : mg_G X Y Q M k j pc lv (.int x :: rest) := by
  obtain ⟨p, l, e, R, s, m, args, below, meth, c, D, gT, M0, ad0⟩ := X
  obtain ⟨yy, cc, n, ret⟩ := Y
  intro hC ad H locs ls hH hL hk hlv hst hS
  exact lv_if_ne hC.1 hC.2.1 hd ht (fun h => kt h hC ad H locs ls hH hL hk hlv hst.tl hS) (fun h => kf h hC ad H locs ls hH hL hk hlv hst.tl hS)
theorem mg_icmp_ne {x y : Int32} {off : Int} {tgt : Nat} (hd : decode (mg_cc Y) pc = .ok (.if_icmp .ne off, 3)) (ht : (pc : Int) + off = (tgt : Int)) (kt : ¬ x = y → mg_G X Y Q M k j tgt lv rest) (kf : x = y → mg_G X Y Q M k j (pc + 3) lv rest) : mg_G X Y Q M k j pc lv (.int y :: .int x :: rest) := by
  obtain ⟨p, l, e, R, s, m, args, below, meth, c, D, gT, M0, ad0⟩ := X
  obtain ⟨yy, cc, n, ret⟩ := Y
  intro hC ad H locs ls hH hL hk hlv hst hS
  exact lv_icmp_ne hC.1 hC.2.1 hd ht (fun h => kt h hC ad H locs ls hH hL hk hlv hst.tl.tl hS) (fun h => kf h hC ad H locs ls hH hL hk hlv hst.tl.tl hS)
theorem mg_if_lt {x : Int32} {off : Int} {tgt : Nat} (hd : decode (mg_cc Y) pc = .ok (.ifCond .lt off, 3)) (ht : (pc : Int) + off = (tgt : Int)) (kt : x < 0 → mg_G X Y Q M k j tgt lv rest) (kf : ¬ x < 0 → mg_G X Y Q M k j (pc + 3) lv rest) : mg_G X Y Q M k j pc lv (.int x :: rest) := by
  obtain ⟨p, l, e, R, s, m, args, below, meth, c, D, gT, M0, ad0⟩ := X
  obtain ⟨yy, cc, n, ret⟩ := Y
  intro hC ad H locs ls hH hL hk hlv hst hS
  exact lv_if_lt hC.1 hC.2.1 hd ht (fun h => kt h hC ad H locs ls hH hL hk hlv hst.tl hS) (fun h => kf h hC ad H locs ls hH hL hk hlv hst.tl hS)
theorem mg_icmp_lt {x y : Int32} {off : Int} {tgt : Nat} (hd : decode (mg_cc Y) pc = .ok (.if_icmp .lt off, 3)) (ht : (pc : Int) + off = (tgt : Int)) (kt : x < y → mg_G X Y Q M k j tgt lv rest) (kf : ¬ x < y → mg_G X Y Q M k j (pc + 3) lv rest) : mg_G X Y Q M k j pc lv (.int y :: .int x :: rest) := by
  obtain ⟨p, l, e, R, s, m, args, below, meth, c, D, gT, M0, ad0⟩ := X
  obtain ⟨yy, cc, n, ret⟩ := Y
  intro hC ad H locs ls hH hL hk hlv hst hS
  exact lv_icmp_lt hC.1 hC.2.1 hd ht (fun h => kt h hC ad H locs ls hH hL hk hlv hst.tl.tl hS) (fun h => kf h hC ad H locs ls hH hL hk hlv hst.tl.tl hS)
theorem mg_if_ge {x : Int32} {off : Int} {tgt : Nat} (hd : decode (mg_cc Y) pc = .ok (.ifCond .ge off, 3)) (ht : (pc : Int) + off = (tgt : Int)) (kt : 0 ≤ x → mg_G X Y Q M k j tgt lv rest) (kf : ¬ 0 ≤ x → mg_G X Y Q M k j (pc + 3) lv rest) : mg_G X Y Q M k j pc lv (.int x :: rest) := by
  obtain ⟨p, l, e, R, s, m, args, below, meth, c, D, gT, M0, ad0⟩ := X
  obtain ⟨yy, cc, n, ret⟩ := Y
  intro hC ad H locs ls hH hL hk hlv hst hS
  exact lv_if_ge hC.1 hC.2.1 hd ht (fun h => kt h hC ad H locs ls hH hL hk hlv hst.tl hS) (fun h => kf h hC ad H locs ls hH hL hk hlv hst.tl hS)
theorem mg_icmp_ge {x y : Int32} {off : Int} {tgt : Nat} (hd : decode (mg_cc Y) pc = .ok (.if_icmp .ge off, 3)) (ht : (pc : Int) + off = (tgt : Int)) (kt : y ≤ x → mg_G X Y Q M k j tgt lv rest) (kf : ¬ y ≤ x → mg_G X Y Q M k j (pc + 3) lv rest) : mg_G X Y Q M k j pc lv (.int y :: .int x :: rest) := by
  obtain ⟨p, l, e, R, s, m, args, below, meth, c, D, gT, M0, ad0⟩ := X
  obtain ⟨yy, cc, n, ret⟩ := Y
  intro hC ad H locs ls hH hL hk hlv hst hS
  exact lv_icmp_ge hC.1 hC.2.1 hd ht (fun h => kt h hC ad H locs ls hH hL hk hlv hst.tl.tl hS) (fun h => kf h hC ad H locs ls hH hL hk hlv hst.tl.tl hS)
theorem mg_if_gt {x : Int32} {off : Int} {tgt : Nat} (hd : decode (mg_cc Y) pc = .ok (.ifCond .gt off, 3)) (ht : (pc : Int) + off = (tgt : Int)) (kt : 0 < x → mg_G X Y Q M k j tgt lv rest) (kf : ¬ 0 < x → mg_G X Y Q M k j (pc + 3) lv rest) : mg_G X Y Q M k j pc lv (.int x :: rest) := by
  obtain ⟨p, l, e, R, s, m, args, below, meth, c, D, gT, M0, ad0⟩ := X
  obtain ⟨yy, cc, n, ret⟩ := Y
  intro hC ad H locs ls hH hL hk hlv hst hS
  exact lv_if_gt hC.1 hC.2.1 hd ht (fun h => kt h hC ad H locs ls hH hL hk hlv hst.tl hS) (fun h => kf h hC ad H locs ls hH hL hk hlv hst.tl hS)
theorem mg_icmp_gt {x y : Int32} {off : Int} {tgt : Nat} (hd : decode (mg_cc Y) pc = .ok (.if_icmp .gt off, 3)) (ht : (pc : Int) + off = (tgt : Int)) (kt : y < x → mg_G X Y Q M k j tgt lv rest) (kf : ¬ y < x → mg_G X Y Q M k j (pc + 3) lv rest) : mg_G X Y Q M k j pc lv (.int y :: .int x :: rest) := by
  obtain ⟨p, l, e, R, s, m, args, below, meth, c, D, gT, M0, ad0⟩ := X
  obtain ⟨yy, cc, n, ret⟩ := Y
  intro hC ad H locs ls hH hL hk hlv hst hS
  exact lv_icmp_gt hC.1 hC.2.1 hd ht (fun h => kt h hC ad H locs ls hH hL hk hlv hst.tl.tl hS) (fun h => kf h hC ad H locs ls hH hL hk hlv hst.tl.tl hS)
theorem mg_if_le {x : Int32} {off : Int} {tgt : Nat} (hd : decode (mg_cc Y) pc = .ok (.ifCond .le off, 3)) (ht : (pc : Int) + off = (tgt : Int)) (kt : x ≤ 0 → mg_G X Y Q M k j tgt lv rest) (kf : ¬ x ≤ 0 → mg_G X Y Q M k j (pc + 3) lv rest) : mg_G X Y Q M k j pc lv (.int x :: rest) := by
  obtain ⟨p, l, e, R, s, m, args, below, meth, c, D, gT, M0, ad0⟩ := X
  obtain ⟨yy, cc, n, ret⟩ := Y
  intro hC ad H locs ls hH hL hk hlv hst hS
  exact lv_if_le hC.1 hC.2.1 hd ht (fun h => kt h hC ad H locs ls hH hL hk hlv hst.tl hS) (fun h => kf h hC ad H locs ls hH hL hk hlv hst.tl hS)
theorem mg_icmp_le {x y : Int32} {off : Int} {tgt : Nat} (hd : decode (mg_cc Y) pc = .ok (.if_icmp .le off, 3)) (ht : (pc : Int) + off = (tgt : Int)) (kt : x ≤ y → mg_G X Y Q M k j tgt lv rest) (kf : ¬ x ≤ y → mg_G X Y Q M k j (pc + 3) lv rest) : mg_G X Y Q M k j pc lv (.int y :: .int x :: rest) := by
  obtain ⟨p, l, e, R, s, m, args, below, meth, c, D, gT, M0, ad0⟩ := X
  obtain ⟨yy, cc, n, ret⟩ := Y
  intro hC ad H locs ls hH hL hk hlv hst hS
  exact lv_icmp_le hC.1 hC.2.1 hd ht (fun h => kt h hC ad H locs ls hH hL hk hlv hst.tl.tl hS) (fun h => kf h hC ad H locs ls hH hL hk hlv hst.tl.tl hS)
theorem mg_goto {off : Int} {tgt : Nat} (hd : decode (mg_cc Y) pc = .ok (.goto off, 3)) (ht : (pc : Int) + off = (tgt : Int)) (kk : mg_G X Y Q M k j tgt lv rest) : mg_G X Y Q M k j pc lv rest := by
  obtain ⟨p, l, e, R, s, m, args, below, meth, c, D, gT, M0, ad0⟩ := X
  obtain ⟨yy, cc, n, ret⟩ := Y
  intro hC ad H locs ls hH hL hk hlv hst hS
  exact lv_goto hC.1 hC.2.1 hd ht (kk hC ad H locs ls hH hL hk hlv hst hS)
theorem mg_ifnonnull {a : Nat} {off : Int} {tgt : Nat} (hd : decode (mg_cc Y) pc = .ok (.ifnonnull off, 3)) (ht : (pc : Int) + off = (tgt : Int)) (kk : mg_G X Y Q M k j tgt lv rest) : mg_G X Y Q M k j pc lv (.ref a :: rest) := by
  obtain ⟨p, l, e, R, s, m, args, below, meth, c, D, gT, M0, ad0⟩ := X
  obtain ⟨yy, cc, n, ret⟩ := Y
  intro hC ad H locs ls hH hL hk hlv hst hS
  exact lv_ifnonnull hC.1 hC.2.1 hd ht (kk hC ad H locs ls hH hL hk hlv hst.tl hS)
theorem mg_ifnonnullN {off : Int} (hd : decode (mg_cc Y) pc = .ok (.ifnonnull off, 3)) (kk : mg_G X Y Q M k j (pc + 3) lv rest) : mg_G X Y Q M k j pc lv (.null :: rest) := by
  obtain ⟨p, l, e, R, s, m, args, below, meth, c, D, gT, M0, ad0⟩ := X
  obtain ⟨yy, cc, n, ret⟩ := Y
  intro hC ad H locs ls hH hL hk hlv hst hS
  exact lv_ifnonnullN hC.1 hC.2.1 hd (kk hC ad H locs ls hH hL hk hlv hst.tl hS)
theorem mg_ifnull {a : Nat} {off : Int} (hd : decode (mg_cc Y) pc = .ok (.ifnull off, 3)) (kk : mg_G X Y Q M k j (pc + 3) lv rest) : mg_G X Y Q M k j pc lv (.ref a :: rest) := by
  obtain ⟨p, l, e, R, s, m, args, below, meth, c, D, gT, M0, ad0⟩ := X
  obtain ⟨yy, cc, n, ret⟩ := Y
  intro hC ad H locs ls hH hL hk hlv hst hS
  exact lv_ifnull hC.1 hC.2.1 hd (kk hC ad H locs ls hH hL hk hlv hst.tl hS)
theorem mg_ifnullN {off : Int} {tgt : Nat} (hd : decode (mg_cc Y) pc = .ok (.ifnull off, 3)) (ht : (pc : Int) + off = (tgt : Int)) (kk : mg_G X Y Q M k j tgt lv rest) : mg_G X Y Q M k j pc lv (.null :: rest) := by
  obtain ⟨p, l, e, R, s, m, args, below, meth, c, D, gT, M0, ad0⟩ := X
  obtain ⟨yy, cc, n, ret⟩ := Y
  intro hC ad H locs ls hH hL hk hlv hst hS
  exact lv_ifnullN hC.1 hC.2.1 hd ht (kk hC ad H locs ls hH hL hk hlv hst.tl hS)
theorem mg_tableIn {dflt lo hi : Int} {offs : Array Int} {len : Nat} {x : Int32} {off : Int} {tgt : Nat} (hd : decode (mg_cc Y) pc = .ok (.tableswitch dflt lo hi offs, len)) (h1 : ¬ x.toInt < lo) (h2 : ¬ hi < x.toInt) (ho : offs[(x.toInt - lo).toNat]? = some off) (ht : (pc : Int) + off = (tgt : Int)) (kk : mg_G X Y Q M k j tgt lv rest) : mg_G X Y Q M k j pc lv (.int x :: rest) := by
  obtain ⟨p, l, e, R, s, m, args, below, meth, c, D, gT, M0, ad0⟩ := X
  obtain ⟨yy, cc, n, ret⟩ := Y
  intro hC ad H locs ls hH hL hk hlv hst hS
  exact lv_tableIn hC.1 hC.2.1 hd h1 h2 ho ht (kk hC ad H locs ls hH hL hk hlv hst.tl hS)
theorem mg_tableOut {dflt lo hi : Int} {offs : Array Int} {len : Nat} {x : Int32} {tgt : Nat} (hd : decode (mg_cc Y) pc = .ok (.tableswitch dflt lo hi offs, len)) (h : x.toInt < lo ∨ hi < x.toInt) (ht : (pc : Int) + dflt = (tgt : Int)) (kk : mg_G X Y Q M k j tgt lv rest) : mg_G X Y Q M k j pc lv (.int x :: rest) := by
  obtain ⟨p, l, e, R, s, m, args, below, meth, c, D, gT, M0, ad0⟩ := X
  obtain ⟨yy, cc, n, ret⟩ := Y
  intro hC ad H locs ls hH hL hk hlv hst hS
  exact lv_tableOut hC.1 hC.2.1 hd h ht (kk hC ad H locs ls hH hL hk hlv hst.tl hS)
theorem mg_lookup {dflt : Int} {ps : Array (Int × Int)} {len : Nat} {x : Int32} {off : Int} {tgt : Nat} (hd : decode (mg_cc Y) pc = .ok (.lookupswitch dflt ps, len)) (hp : (ps.toList.zip (ps.toList.drop 1)).all (fun (a, next) => a.1 < next.1) = true) (ho : Op.lookupswitch.offset ps.toList dflt x.toInt = off) (ht : (pc : Int) + off = (tgt : Int)) (kk : mg_G X Y Q M k j tgt lv rest) : mg_G X Y Q M k j pc lv (.int x :: rest) := by
  obtain ⟨p, l, e, R, s, m, args, below, meth, c, D, gT, M0, ad0⟩ := X
  obtain ⟨yy, cc, n, ret⟩ := Y
  intro hC ad H locs ls hH hL hk hlv hst hS
  exact lv_lookup hC.1 hC.2.1 hd hp ho ht (kk hC ad H locs ls hH hL hk hlv hst.tl hS)
end MGR
