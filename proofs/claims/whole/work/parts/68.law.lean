/-! THE CLAIM OUT OF ONE WALK OF THE LAW'S BODY. Your part is whole_start (and what it stands on); all else here is the same for every law, but numbers. -/
def R_law : String := "PropertyShrinkLaw"
def lw_P (b : Addr) (xs : List Int32) (args : Array Value) (s : State) : Prop := args = #[.ref b] ∧ s.IntsAt b xs ∧ xs.length ≤ 3072 ∧ (Jvm.Cond.and given_1 narrow_1).before args s = true
def lw_Q (_ : Array Value) (s : State) (o : Outcome) (t : State) : Prop := o = .returned (some (.int 1)) ∧ Framed s o t [] 600000 7302250
def lw_Z (below : List Frame) (a : Array Value) (s : State) : State → Prop := fun t => ∃ o, t.status = .running ∧ Ended t below o ∧ lw_Q a s o t
/-- the law's own end, with 1 on the stack, nothing written that was there before, its room as the claim has it -/
theorem lw_ret {p : Program} {l : Launch} {e : Env} {s : State} {m : MethodId} {below : List Frame} {meth : Method} {c : Code} {b : Nat} (hx : p.tables.exec = Jvm.exec) (hb : c.code = code) (hr : meth.sig.returnType = ret) (hlocks : meth.locks = false) {pc : Nat} {H : Heap} {ls : Array Slot} (hdg : decode code pc = .ok (.ireturn, 1)) : W p l e room_1 s m #[Value.ref b] below meth c H [] 600000 7302250 (lw_Z below #[Value.ref b] s) (F0 m pc ls [.int 1]) := by
  intro T hT X
  obtain ⟨fs, hret, hrun, hended, hW, hframe⟩ := X.leave (v := some (.int 1)) (hlocks := hlocks) (fun h => by rw [hr] at h; cases h)
  have hmeth' : T.vm.method? m = some meth := X.method'
  refine ⟨T.setFrames fs, ?_, .returned (some (.int 1)), hrun, hended, rfl, ⟨_, rfl⟩, hW, hframe⟩
  jvm_step X.here [X.here.top, hx, hb, hdg, hmeth', hr, ret, narrow_b1]
  (try refine ⟨rfl, ?_⟩); (try refine ⟨rfl, ?_⟩)
  first | (intro acts; rw [hret _ acts rfl rfl rfl]) | rw [hret _ _ rfl rfl rfl]
  exact Steps.refl _
/-- what holds at the law's entry: the machine, the code, the tables' words (any of lw_tbl by 'hts w (by decide +kernel)'), the script of L ints xs at the cell b, what the Statement gives of the start (any of its parts by flat_of_before) -/
def lw_At (p : Program) (s : State) (m : MethodId) (meth : Method) (c : Code) (b L : Nat) (xs : Nat → Int32) : Prop :=
  p.tables.exec = Jvm.exec ∧ c.code = code ∧ meth.sig.returnType = ret ∧ c.maxLocals = 4 ∧ s.vm.findClass R_law = some m.cls ∧ (∀ w ∈ lw_tbl, w.before #[Value.ref b] s = true) ∧ va_X b L xs s s.heap ∧ b < s.heap.size ∧ meth.locks = false ∧ (Jvm.Cond.and given_1 narrow_1).before #[Value.ref b] s = true
/-! THE LAW over the memory by handles: handle 0 is the script, 1 the object of the class, 1000 the reference -/
abbrev Y_La_law : mg_Y := (x, code, 4, ret)
def mg_Sc (X : mg_X) (L : Nat) (xs : Nat → Int32) : Prop := match X with
  | (_, _, _, R, s, _, args, _, _, _, _, _, M0, ad0) => R = room_1 ∧ args = #[Value.ref (ad0 0)] ∧ va_X (ad0 0) L xs s s.heap ∧ ad0 0 < s.heap.size ∧ ∀ k, M0 k = none
def mg_QL (X : mg_X) : State → Prop := match X with
  | (_, _, _, _, s, _, args, below, _, _, _, _, _, _) => lw_Z below args s
theorem mg_Sc.R {X : mg_X} {L : Nat} {xs : Nat → Int32} (h : mg_Sc X L xs) : mg_R X = room_1 := by
  obtain ⟨p, l, e, R, s, m, args, below, meth, c, D, gT, M0, ad0⟩ := X
  exact h.1
section LAWR
variable {X : mg_X} {Y : mg_Y} {Q : State → Prop} {M : mg_M} {k j pc : Nat} {lv : List (Option Value)} {rest : List Value} {L : Nat} {xs : Nat → Int32}
theorem mg_sld {i : Int32} (hSc : mg_Sc X L xs) (hd : decode (mg_cc Y) pc = .ok (.iaload, 1)) (hin : vp_in i L) (kk : mg_G X Y Q M k j (pc + 1) lv (.int (xs i.toNatClampNeg) :: rest)) : mg_G X Y Q M k j pc lv (.int i :: .ref 0 :: rest) := by
  obtain ⟨p, l, e, R, s, m, args, below, meth, c, D, gT, M0, ad0⟩ := X
  obtain ⟨yy, cc, n, ret⟩ := Y
  obtain ⟨-, -, hX, hbl, h0⟩ := hSc
  intro hC ad H locs ls hH hL hk hlv hst hS
  have e0 : ad 0 = ad0 0 := (hk 0 (Or.inl rfl)).2
  have hbA : ¬ mg_A ad0 M0 s.heap.size (ad0 0) := by
    rintro (⟨q, hq, -⟩ | hq)
    · exact hq (h0 q)
    · exact absurd hbl (Nat.not_lt.mpr hq)
  show W p l e R s m args below meth c H locs k j Q (F0 m pc ls (.int i :: .ref (ad 0) :: rest.map (mg_tr ad)))
  rw [e0]
  exact va_sld hC.1 hC.2.1 hX hbl hbA hS hin hd (kk hC ad H locs ls hH hL hk hlv (hst.tl.tl.cons trivial) hS)
theorem mg_slen (hSc : mg_Sc X L xs) (hd : decode (mg_cc Y) pc = .ok (.arraylength, 1)) (kk : mg_G X Y Q M k j (pc + 1) lv (.int (nI L) :: rest)) : mg_G X Y Q M k j pc lv (.ref 0 :: rest) := by
  obtain ⟨p, l, e, R, s, m, args, below, meth, c, D, gT, M0, ad0⟩ := X
  obtain ⟨yy, cc, n, ret⟩ := Y
  obtain ⟨-, -, hX, hbl, h0⟩ := hSc
  intro hC ad H locs ls hH hL hk hlv hst hS
  have e0 : ad 0 = ad0 0 := (hk 0 (Or.inl rfl)).2
  have hbA : ¬ mg_A ad0 M0 s.heap.size (ad0 0) := by
    rintro (⟨q, hq, -⟩ | hq)
    · exact hq (h0 q)
    · exact absurd hbl (Nat.not_lt.mpr hq)
  show W p l e R s m args below meth c H locs k j Q (F0 m pc ls (.ref (ad 0) :: rest.map (mg_tr ad)))
  rw [e0]
  exact va_slen hC.1 hC.2.1 hX hbl hbA hS hd (kk hC ad H locs ls hH hL hk hlv (hst.tl.cons trivial) hS)
/-- the law's end -/
theorem mg_lawret (hSc : mg_Sc X L xs) (hd : decode code pc = .ok (.ireturn, 1)) (hc1 : k ≤ 600000) (hc2 : j ≤ 7302250) : mg_G X Y_La_law (mg_QL X) M k j pc lv [.int 1] := by
  obtain ⟨p, l, e, R, s, m, args, below, meth, c, D, gT, M0, ad0⟩ := X
  obtain ⟨rfl, rfl, hX, hbl, h0⟩ := hSc
  intro hC ad H locs ls hH hL hk hlv hst hS
  refine va_forget (fun q hq => ?_) ?_
  · rcases hS.2.2 q hq with ⟨z, hz, -⟩ | h
    · exact absurd (h0 z) hz
    · exact h
  · refine W.widen hc1 hc2 ?_
    exact lw_ret hC.1 hC.2.1 hC.2.2.1 hC.2.2.2.2.2.2.2.1 hd
end LAWR
/-! BOTH SIDES' STATE, in one -/
abbrev stT : Type := List gN × List pN × List kN × Nat × fO × Bool × List Int32 × List Int32 × List Int32 × Int64
def pP (M : mg_M) : stT → Prop
  | (gs, ps, ks, wa, fo, le, row, nu, pu, s) => isPS M gs ps ks wa fo le row nu pu s
def pM (M : mg_M) : stT → Prop
  | (gs, ps, ks, wa, fo, le, row, nu, pu, s) => isMo M gs ps ks wa fo le row nu pu s
def pI : stT → Prop
  | (gs, ps, ks, _, fo, _, row, _, pu, _) => Inv gs ps ks fo row pu
def mg_Ce (Y : mg_Y) (rm : Room) (av : List Value) (M : mg_M) (post : Option Value → mg_M → Prop) : Prop := ∃ post', mg_Ct Y rm av M post' ∧ ∀ v M', post' v M' → post v M'
def duoP (A : Value → Prop) (Y Y' : mg_Y) (rm rm' : Room) (av : List Value) (q : stT) : Prop := ∃ (a : Value) (q' : stT), A a ∧ pI q' ∧ (∀ M, pP M q → mg_Ce Y rm (.ref 1 :: av) M (fun v M' => v = some a ∧ pP M' q' ∧ smC M M')) ∧ ∀ M, pM M q → mg_Ce Y' rm' (.ref 1000 :: av) M (fun v M' => v = some a ∧ pM M' q' ∧ sm 1000 1023 M M')
def aInt (a : Value) : Prop := ∃ r, a = .int r
def aLong (a : Value) : Prop := ∃ r, a = .long r
theorem pP.fr {M M' : mg_M} {q : stT} (h : pP M q) (hi : pI q) (hs : sm 1000 1023 M M') : pP M' q := by
  obtain ⟨gs, ps, ks, wa, fo, le, row, nu, pu, s⟩ := q
  have hi : Inv gs ps ks fo row pu := hi
  exact isPS.frM h hi.1.1 hi.2.1 (hi.2.2.1.le hi.1.1 hi.2.1) (fun k hk => hs k (by omega))
theorem pM.fr {M M' : mg_M} {q : stT} (h : pM M q) (hs : smC M M') : pM M' q := by
  obtain ⟨gs, ps, ks, wa, fo, le, row, nu, pu, s⟩ := q
  exact isMo.frC h hs
theorem pP.obj {M : mg_M} {q : stT} (h : pP M q) : ∃ fs, M 1 = some (.inr (0, fs)) := by
  obtain ⟨gs, ps, ks, wa, fo, le, row, nu, pu, s⟩ := q
  exact ⟨_, h.1⟩
theorem pM.obj {M : mg_M} {q : stT} (h : pM M q) : ∃ fs, M 1000 = some (.inr (11, fs)) := by
  obtain ⟨gs, ps, ks, wa, fo, le, row, nu, pu, s⟩ := q
  obtain ⟨si, x, h0, -⟩ := h
  exact ⟨_, h0⟩
section LAWC
variable {X : mg_X} {Q : State → Prop} {M : mg_M} {k j pc ix n : Nat} {lv : List (Option Value)} {st0 av : List Value} {Y' : mg_Y} {rm : Room} {q q' : stT} {a : Value}
theorem law_call1 (V : mg_VL Y_La_law Y' ix n) (hd : decode code pc = .ok (.invokevirtual ix, 3)) (hy : "PropertyShrink" = Y'.1.cls) (h : pP M q) (hm : pM M q) (ce : mg_Ce Y' rm (.ref 1 :: av) M (fun v M' => v = some a ∧ pP M' q' ∧ smC M M')) (hs0 : st0 = av.reverse ++ [.ref 1]) (hn : av.length = n) (hf : rm.frames + 1 ≤ (mg_R X).frames ∧ 8 + (mg_nl Y' + 11) + rm.locals ≤ (mg_R X).locals) (hcs : k + rm.cells ≤ (mg_R X).cells ∧ j + rm.slots ≤ (mg_R X).slots)
    (kk : ∀ M', pP M' q' → pM M' q → mg_G X Y_La_law Q M' (k + rm.cells) (j + rm.slots) (pc + 3) lv [a]) : mg_G X Y_La_law Q M k j pc lv st0 := by
  obtain ⟨fs, hO⟩ := h.obj
  obtain ⟨post, ct, hp⟩ := ce
  refine mg_callV (b := 1) (ci := 0) (r := ("PropertyShrink", FT_PS, 17)) (rest := []) V hd hO rfl hy ct hs0 hn hf hcs (Nat.zero_le _) ?_
  intro v M' hv
  obtain ⟨rfl, h1, h2⟩ := hp v M' hv
  exact kk M' h1 (hm.fr h2)
theorem law_call2 (V : mg_VL Y_La_law Y' ix n) (hd : decode code pc = .ok (.invokevirtual ix, 3)) (hy : "PropertyShrinkModel" = Y'.1.cls) (hi : pI q') (h : pP M q') (hm : pM M q) (ce : mg_Ce Y' rm (.ref 1000 :: av) M (fun v M' => v = some a ∧ pM M' q' ∧ sm 1000 1023 M M')) (hs0 : st0 = av.reverse ++ [.ref 1000, a]) (hn : av.length = n) (hf : rm.frames + 1 ≤ (mg_R X).frames ∧ 8 + (mg_nl Y' + 11) + rm.locals ≤ (mg_R X).locals) (hcs : k + rm.cells ≤ (mg_R X).cells ∧ j + rm.slots ≤ (mg_R X).slots)
    (kk : ∀ M', pP M' q' → pM M' q' → mg_G X Y_La_law Q M' (k + rm.cells) (j + rm.slots) (pc + 3) lv [a, a]) : mg_G X Y_La_law Q M k j pc lv st0 := by
  obtain ⟨fs, hO⟩ := hm.obj
  obtain ⟨post, ct, hp⟩ := ce
  refine mg_callV (b := 1000) (ci := 11) (r := ("PropertyShrinkModel", FT_Mo, 43)) (rest := [a]) V hd hO rfl hy ct hs0 hn hf hcs ?_ ?_
  · show a.category + 0 ≤ 8
    rcases lv_cat a with e | e <;> rw [e] <;> decide
  · intro v M' hv
    obtain ⟨rfl, h1, h2⟩ := hp v M' hv
    exact kk M' (h.fr hi h2) h1
end LAWC
