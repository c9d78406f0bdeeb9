/-! CONTRACTS over the memory by handles -/
def mg_Pc (D : va_G) (gT ad : Nat → Nat) (M : mg_M) (av : List Value) (sz : Nat) : Array Value → State → Prop := va_Pc (av.map (mg_tr ad)) (fun U => U.heap.size = sz ∧ mg_H D gT mg_cl (fun _ => True) ad M U.heap ∧ mg_cS M av ∧ mg_K D gT U)
def mg_Qc (D : va_G) (gT ad : Nat → Nat) (M : mg_M) (post : Option Value → mg_M → Prop) (sz : Nat) : Array Value → State → Outcome → State → Prop := fun _ st oc t => (∃ (v : Option Value) (M' : mg_M) (ad' : Nat → Nat), oc = .returned (v.map (mg_tr ad')) ∧ post v M' ∧ (∀ q, (q = 0 ∨ M q ≠ none) → (q = 0 ∨ M' q ≠ none) ∧ ad' q = ad q) ∧ (∀ x, v = some x → mg_cv M' x) ∧ mg_H D gT mg_cl (mg_A ad M sz) ad' M' t.heap) ∧ va_F (mg_A ad M sz) st t
/-- a method's words: its code, and all the tables' -/
abbrev mg_ws (Y : mg_Y) : List Cond := Cond.code Y.1 (mg_cc Y) (mg_nl Y) (mg_ret Y) :: mg_GT
/-- THE CONTRACT of the method Y in the room rm: called with av over the memory M it returns, and answer and memory are as post says -/
def mg_Ct (Y : mg_Y) (rm : Room) (av : List Value) (M : mg_M) (post : Option Value → mg_M → Prop) : Prop := ∀ (l : Launch) (D : va_G) (gT ad : Nat → Nat) (sz : Nat), Met l Y.1 (mg_ws Y) rm (mg_Pc D gT ad M av sz) (mg_Qc D gT ad M post sz) rm.cells rm.slots (mg_A ad M sz)
def mg_Q (X : mg_X) (post : Option Value → mg_M → Prop) (rm : Room) : State → Prop := match X with
  | (_, _, _, _, s, _, args, below, _, _, D, gT, M0, ad0) => MQ below (mg_Qc D gT ad0 M0 post s.heap.size) args s rm.cells rm.slots (mg_A ad0 M0 s.heap.size)
def mg_en : List Value → List (Option Value)
  | [] => []
  | v :: r => match v.category with
    | 2 => some v :: none :: mg_en r
    | _ => some v :: mg_en r
def mg_ent (av : List Value) (n : Nat) : List (Option Value) := mg_en av ++ List.replicate (n - (mg_en av).length) none
theorem mg_en_mem (ad : Nat → Nat) : ∀ (av : List Value) (i t : Nat) (v : Value), (mg_en av)[t]? = some (some v) → (i + t, mg_tr ad v) ∈ lv_args i (av.map (mg_tr ad))
  | [], i, t, v, h => by simp [mg_en] at h
  | u :: r, i, t, v, h => by
    rcases lv_cat u with hc | hc
    · have e1 : mg_en (u :: r) = some u :: mg_en r := by simp [mg_en, hc]
      rw [e1] at h
      rw [List.map_cons, lv_args, mg_tr_cat, hc]
      cases t with
      | zero =>
        have : u = v := by simpa using h
        subst this
        exact List.mem_cons_self
      | succ t =>
        have h2 := mg_en_mem ad r (i + 1) t v (by simpa using h)
        refine List.mem_cons_of_mem _ ?_
        simpa [show i + 1 + t = i + (t + 1) by omega] using h2
    · have e1 : mg_en (u :: r) = some u :: none :: mg_en r := by simp [mg_en, hc]
      rw [e1] at h
      rw [List.map_cons, lv_args, mg_tr_cat, hc]
      cases t with
      | zero =>
        have : u = v := by simpa using h
        subst this
        exact List.mem_cons_self
      | succ t =>
        cases t with
        | zero => simp at h
        | succ t =>
          have h2 := mg_en_mem ad r (i + 2) t v (by simpa using h)
          refine List.mem_cons_of_mem _ ?_
          simpa [show i + 2 + t = i + (t + 1 + 1) by omega] using h2
theorem mg_en_len (ad : Nat → Nat) : ∀ av : List Value, (lg_sl (av.map (mg_tr ad))).length = (mg_en av).length
  | [] => rfl
  | u :: r => by
    have ih := mg_en_len ad r
    rcases lv_cat u with hc | hc
    · simp only [lg_sl, List.map_cons, List.flatMap_cons, mg_tr_cat, hc, mg_en] at ih ⊢
      simp at ih ⊢
      omega
    · simp only [lg_sl, List.map_cons, List.flatMap_cons, mg_tr_cat, hc, mg_en] at ih ⊢
      simp at ih ⊢
      omega
theorem mg_en_val : ∀ (av : List Value) (t : Nat) (v : Value), (mg_en av)[t]? = some (some v) → v ∈ av
  | [], t, v, h => by simp [mg_en] at h
  | u :: r, t, v, h => by
    rcases lv_cat u with hc | hc
    · have e1 : mg_en (u :: r) = some u :: mg_en r := by simp [mg_en, hc]
      rw [e1] at h
      cases t with
      | zero =>
        have : u = v := by simpa using h
        subst this
        exact List.mem_cons_self
      | succ t => exact List.mem_cons_of_mem _ (mg_en_val r t v (by simpa using h))
    · have e1 : mg_en (u :: r) = some u :: none :: mg_en r := by simp [mg_en, hc]
      rw [e1] at h
      cases t with
      | zero =>
        have : u = v := by simpa using h
        subst this
        exact List.mem_cons_self
      | succ t =>
        cases t with
        | zero => simp at h
        | succ t => exact List.mem_cons_of_mem _ (mg_en_val r t v (by simpa using h))
theorem mg_ent_get {av : List Value} {n t : Nat} {v : Value} (h : (mg_ent av n)[t]? = some (some v)) : (mg_en av)[t]? = some (some v) := by
  unfold mg_ent at h
  by_cases hl : t < (mg_en av).length
  · rw [List.getElem?_append_left hl] at h; exact h
  · rw [List.getElem?_append_right (by omega)] at h
    have := List.mem_of_getElem? h
    rw [List.mem_replicate] at this
    cases this.2
theorem mg_met {Y : mg_Y} {rm : Room} {av : List Value} {M : mg_M} {post : Option Value → mg_M → Prop} (lv : List (Option Value)) (hy : plainName Y.1.cls = true) (hlv : mg_ent av (mg_nl Y) = lv) (hle : (mg_en av).length ≤ mg_nl Y)
    (body : ∀ X : mg_X, mg_R X = rm → mg_M0 X = M → mg_G X Y (mg_Q X post rm) M 0 0 0 lv []) : mg_Ct Y rm av M post := by
  obtain ⟨y, cc, n, ret⟩ := Y
  intro l D gT ad sz
  refine Met.ofW (cc := cc) (maxL := n) (ret := ret) hy rfl ?_
  intro p e s m args below meth c s₁ B hml hv
  obtain ⟨rfl, hsz, hH, hcS, hK⟩ := hv
  have hts := fun w hw => atoms_spec (ws := Cond.code y cc n ret :: mg_GT) B.pre w (List.mem_cons_of_mem _ hw)
  have hown : s.vm.findClass y.cls = some m.cls := findClass_of_methodNamed B.named
  have hnm : meth.name = y.name := (name_of_methodNamed B.named B.method).1
  subst hsz
  subst hlv
  rw [lg_entry_eq]
  have hle2 : (lg_sl (av.map (mg_tr ad))).length ≤ n := by rw [mg_en_len]; exact hle
  have hl := lv_entry (av.map (mg_tr ad)) (n := n) hle2
  refine body (p, l, e, rm, s, m, (av.map (mg_tr ad)).toArray, below, meth, c, D, gT, M, ad) rfl rfl ⟨B.exec, B.bytes, B.returns, hml, hown, hts, hK, B.notSynchronized, hnm⟩ ad s.heap [] _ (hH.weaken fun k hk => Or.inl ⟨k, hk, rfl⟩) ⟨hl.1, hl.2.1, fun i v hv => ?_⟩ (fun q hq => ⟨hq, rfl⟩) (fun i v hv => hcS v (mg_en_val av i v (mg_ent_get hv))) (fun v hv => by cases hv) va_S.rf
  have h1 := mg_en_mem ad av 0 i v (mg_ent_get hv)
  rw [Nat.zero_add] at h1
  exact hl.2.2 _ h1
section MGRet
variable {X : mg_X} {Y : mg_Y} {M : mg_M} {k j pc : Nat} {lv : List (Option Value)} {post : Option Value → mg_M → Prop} {rm : Room}
theorem mg_qc {D : va_G} {gT ad0 ad : Nat → Nat} {M0 : mg_M} {s t : State} {H : Heap} {v : Option Value} {a : Array Value} {locs : List Loc} (hH : mg_H D gT mg_cl (mg_A ad0 M0 s.heap.size) ad M H) (hk : ∀ q, (q = 0 ∨ M0 q ≠ none) → (q = 0 ∨ M q ≠ none) ∧ ad q = ad0 q) (hv : ∀ x, v = some x → mg_cv M x) (hp : post v M) (hS : va_S (mg_A ad0 M0 s.heap.size) s.heap H locs) (ht : t.heap = H) : mg_Qc D gT ad0 M0 post s.heap.size a s (.returned (v.map (mg_tr ad))) t :=
  ⟨⟨v, M, ad, rfl, hp, hk, hv, by rw [ht]; exact hH⟩, hS.F ht⟩
theorem mg_ireturn {v : Int32} {ty : FieldType} (hd : decode (mg_cc Y) pc = .ok (.ireturn, 1)) (hr : mg_ret Y = some ty) (hn : narrow ty (.int v) = .int v) (hc1 : k ≤ rm.cells) (hc2 : j ≤ rm.slots) (hp : post (some (.int v)) M) : mg_G X Y (mg_Q X post rm) M k j pc lv [.int v] := by
  obtain ⟨p, l, e, R, s, m, args, below, meth, c, D, gT, M0, ad0⟩ := X
  obtain ⟨yy, cc, n, ret⟩ := Y
  intro hC ad H locs ls hH hL hk hlv hst hS
  refine W.widen hc1 hc2 ?_
  exact W.zret hC.1 hC.2.1 (hC.2.2.1.trans hr) hn (fun t ht hW => mg_qc (v := some (.int v)) hH hk (fun x hx => by cases hx; trivial) hp hS ht) hS.2.2 hd hC.2.2.2.2.2.2.2.1
theorem mg_lreturn {v : Int64} (hd : decode (mg_cc Y) pc = .ok (.lreturn, 1)) (hr : mg_ret Y = some .long) (hc1 : k ≤ rm.cells) (hc2 : j ≤ rm.slots) (hp : post (some (.long v)) M) : mg_G X Y (mg_Q X post rm) M k j pc lv [.long v] := by
  obtain ⟨p, l, e, R, s, m, args, below, meth, c, D, gT, M0, ad0⟩ := X
  obtain ⟨yy, cc, n, ret⟩ := Y
  intro hC ad H locs ls hH hL hk hlv hst hS
  refine W.widen hc1 hc2 ?_
  exact W.lret hC.1 hC.2.1 (hC.2.2.1.trans hr) (fun t ht hW => mg_qc (v := some (.long v)) hH hk (fun x hx => by cases hx; trivial) hp hS ht) hS.2.2 hd hC.2.2.2.2.2.2.2.1
theorem mg_return (hd : decode (mg_cc Y) pc = .ok (.return_, 1)) (hr : mg_ret Y = none) (hc1 : k ≤ rm.cells) (hc2 : j ≤ rm.slots) (hp : post none M) : mg_G X Y (mg_Q X post rm) M k j pc lv [] := by
  obtain ⟨p, l, e, R, s, m, args, below, meth, c, D, gT, M0, ad0⟩ := X
  obtain ⟨yy, cc, n, ret⟩ := Y
  intro hC ad H locs ls hH hL hk hlv hst hS
  refine W.widen hc1 hc2 ?_
  exact W.vret hC.1 hC.2.1 (hC.2.2.1.trans hr) (fun t ht hW => mg_qc (v := none) hH hk (fun x hx => by cases hx) hp hS ht) hS.2.2 hd hC.2.2.2.2.2.2.2.1
theorem mg_areturn {v : Value} {C : String} (hd : decode (mg_cc Y) pc = .ok (.areturn, 1)) (hr : mg_ret Y = some (.object C)) (hv : v = .null ∨ ∃ a, v = .ref a) (hc1 : k ≤ rm.cells) (hc2 : j ≤ rm.slots) (hp : post (some v) M) : mg_G X Y (mg_Q X post rm) M k j pc lv [v] := by
  obtain ⟨p, l, e, R, s, m, args, below, meth, c, D, gT, M0, ad0⟩ := X
  obtain ⟨yy, cc, n, ret⟩ := Y
  intro hC ad H locs ls hH hL hk hlv hst hS
  refine W.widen hc1 hc2 ?_
  have hv2 : mg_tr ad v = .null ∨ ∃ a, mg_tr ad v = .ref a := by
    rcases hv with rfl | ⟨a, rfl⟩
    · exact Or.inl rfl
    · exact Or.inr ⟨ad a, rfl⟩
  exact W.aret hC.1 hC.2.1 (hC.2.2.1.trans hr) (Or.inl ⟨C, rfl⟩) hv2 (fun t ht hW => mg_qc (v := some v) hH hk (fun x hx => by cases hx; exact hst.hd) hp hS ht) hS.2.2 hd hC.2.2.2.2.2.2.2.1
end MGRet
/-! CALLS -/
theorem mg_blind {D : va_G} {gT ad : Nat → Nat} {M : mg_M} {av : List Value} {sz : Nat} : FrameBlind (mg_Pc D gT ad M av sz) := fun a U g mk h => ⟨h.1, h.2.1, h.2.2.1, h.2.2.2.1, h.2.2.2.2.call⟩
section MGCall
variable {p : Program} {l : Launch} {e : Env} {R : Room} {s : State} {m : MethodId} {args : Array Value} {below : List Frame} {meth : Method} {c : Code} {D : va_G} {gT : Nat → Nat} {M0 : mg_M} {ad0 : Nat → Nat}
variable {Y : mg_Y} {Q : State → Prop} {M : mg_M} {k j pc : Nat} {lv : List (Option Value)} {rest st0 : List Value} {post : Option Value → mg_M → Prop} {rm : Room}
/-- behind a call -/
theorem mg_behind {ad : Nat → Nat} {H : Heap} {locs : List Loc} {ls : Array Slot} {a : Array Value} (hC : mg_C (p, l, e, R, s, m, args, below, meth, c, D, gT, M0, ad0) Y) (hH : mg_H D gT mg_cl (mg_A ad0 M0 s.heap.size) ad M H) (hL : mg_L ad (mg_nl Y) lv ls) (hk : ∀ q, (q = 0 ∨ M0 q ≠ none) → (q = 0 ∨ M q ≠ none) ∧ ad q = ad0 q) (hlv : mg_cL M lv) (hst : mg_cS M rest) (hS : va_S (mg_A ad0 M0 s.heap.size) s.heap H locs)
    (hr : va_Run p l e R s m args below meth c H locs k j rm.cells rm.slots (F0 m pc ls st0) (rest.map (mg_tr ad)) (mg_Qc D gT ad M post H.size a) (mg_A ad M H.size))
    (kk : ∀ (v : Option Value) (M' : mg_M), post v M' → mg_G (p, l, e, R, s, m, args, below, meth, c, D, gT, M0, ad0) Y Q M' (k + rm.cells) (j + rm.slots) (pc + 3) lv (v.toList ++ rest)) : W p l e R s m args below meth c H locs k j Q (F0 m pc ls st0) := by
  intro T hT X
  obtain ⟨v0, st₀, t, T', L, h0, X', hL2, e1, e2, ⟨⟨v, M', ad', hv, hp, hdom, hcv, hH'⟩, hz, hkp⟩, st⟩ := hr T hT X
  rw [h0] at hz hkp
  have hv0 : v0 = v.map (mg_tr ad') := Outcome.returned.inj hv
  subst hv0
  have hAA : ∀ q, mg_A ad M H.size q → mg_A ad0 M0 s.heap.size q := fun q hq => by
    rcases hq with ⟨z, hz1, rfl⟩ | hq
    · exact (hH.inA hz1).1
    · exact Or.inr (Nat.le_trans hS.1 hq)
  have hdm : ∀ q, M q ≠ none → M' q ≠ none := fun q hq => by
    rcases (hdom q (Or.inr hq)).1 with h | h
    · subst h; exact absurd hH.2.2.2 hq
    · exact h
  have hH2 : mg_H D gT mg_cl (mg_A ad0 M0 s.heap.size) ad' M' T'.heap := by
    rw [e1]
    exact hH'.weaken fun q hq => hAA _ (hH'.inA hq).1
  have hLn : mg_L ad' (mg_nl Y) lv ls := ⟨hL.1, hL.2.1, fun i w hw => by rw [mg_tr_eq (hlv i w hw) (fun q hq => (hdom q hq).2)]; exact hL.2.2 i w hw⟩
  have hS2 : va_S (mg_A ad0 M0 s.heap.size) s.heap T'.heap (locs ++ L) := ⟨Nat.le_trans hS.1 (by rw [e1]; exact hz), fun q h1 h2 => by rw [e1, hkp q (Nat.lt_of_lt_of_le h1 hS.1) (fun z => h2 (hAA q z))]; exact hS.2.1 q h1 h2, fun q hq => by
      rcases List.mem_append.mp hq with h | h
      · exact hS.2.2 q h
      · exact hAA _ (hL2 q h)⟩
  have hmp : (v.map (mg_tr ad')).toList = v.toList.map (mg_tr ad') := by cases v <;> rfl
  have hrs : rest.map (mg_tr ad) = rest.map (mg_tr ad') := List.map_congr_left fun w hw => (mg_tr_eq (hst w hw) (fun q hq => (hdom q hq).2)).symm
  have hcs : mg_cS M' (v.toList ++ rest) := mg_cS.app (fun x hx => hcv x (by cases v with
    | none => simp at hx
    | some y => simp at hx; rw [hx])) (hst.mono hdm)
  have K := kk v M' hp hC ad' T'.heap (locs ++ L) ls hH2 hLn (fun q hq => ⟨((hk q hq).1).imp id (hdm q), ((hdom q (hk q hq).1).2).trans (hk q hq).2⟩) (hlv.mono hdm) hcs hS2
  obtain ⟨t2, a1, b1⟩ := K T' rfl X'
  refine ⟨t2, st t2 ?_, b1⟩
  rw [List.map_append, ← hmp, ← hrs] at a1
  exact a1
end MGCall
