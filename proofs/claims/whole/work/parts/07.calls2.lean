/-! a call's static facts, and the call -/
def mg_BL (Y' : mg_Y) (n : Nat) : Prop := Cond.code Y'.1 (mg_cc Y') (mg_nl Y') (mg_ret Y') ∈ mg_GT ∧ Cond.initialized Y'.1.cls ∈ mg_GT ∧ (Y'.1.cls ≠ "java/lang/invoke/MethodHandle" ∧ Y'.1.cls ≠ "java/lang/invoke/VarHandle" ∧ (parseMethodDescriptor Y'.1.desc).map (fun d => d.parameters.length) = some n)
theorem mg_good {Y' : mg_Y} (h : Cond.code Y'.1 (mg_cc Y') (mg_nl Y') (mg_ret Y') ∈ mg_GT) : GoodIn mg_GT (mg_ws Y') := fun w hw => by
  rcases List.mem_cons.mp hw with rfl | hw
  · exact ⟨h, mg_GT_good _ h⟩
  · exact ⟨hw, mg_GT_good _ hw⟩
def mg_KL (Y Y' : mg_Y) (ix : Nat) : Prop := Cond.methodLink (mg_own Y) ix Y'.1 ∈ mg_GT ∨ ∃ host, Cond.methodLinkNest (mg_own Y) ix Y'.1 host ∈ mg_NW
def mg_VL (Y Y' : mg_Y) (ix n : Nat) : Prop := mg_BL Y' n ∧ mg_KL Y Y' ix ∧ Cond.instanceMethod Y'.1 ∈ mg_GT ∧ Cond.selects Y'.1.cls Y'.1 Y'.1 ∈ mg_GT
def mg_IL (Y Y' : mg_Y) (ix n : Nat) : Prop := mg_BL Y' n ∧ mg_KL Y Y' ix ∧ Cond.instanceMethod Y'.1 ∈ mg_GT ∧ Y'.1.name = "<init>" ∧ mg_ret Y' = none
def mg_SL (Y Y' : mg_Y) (ix n : Nat) : Prop := mg_BL Y' n ∧ mg_KL Y Y' ix ∧ Cond.static Y'.1 ∈ mg_GT
/-- the named method x is abstract, declared by owner -/
def mg_UL (Y Y' : mg_Y) (x : MethodName) (ix n : Nat) : Prop := mg_BL Y' n ∧ Cond.methodLink (mg_own Y) ix x ∈ mg_GT ∧ Cond.sameMethod x.cls x.cls x.name x.desc ∈ mg_GT ∧ Cond.selects Y'.1.cls x Y'.1 ∈ mg_GT ∧ Cond.instanceMethod Y'.1 ∈ mg_GT ∧ Cond.declares ⟨x.cls, x.name, x.desc⟩ ∈ mg_NW ∧ (x.cls ≠ "java/lang/invoke/MethodHandle" ∧ x.cls ≠ "java/lang/invoke/VarHandle" ∧ (parseMethodDescriptor x.desc).map (fun d => d.parameters.length) = some n)
theorem mg_cats (ad : Nat → Nat) (rest : List Value) : ((rest.map (mg_tr ad)).map fun v => v.category) = rest.map fun v => v.category := by
  rw [List.map_map]
  exact List.map_congr_left fun v _ => mg_tr_cat ad v
section MGCalls
variable {X : mg_X} {Y Y' : mg_Y} {Q : State → Prop} {M : mg_M} {k j pc ix n : Nat} {lv : List (Option Value)} {rest st0 As : List Value} {post : Option Value → mg_M → Prop} {rm : Room}
theorem mg_callV {b ci : Nat} {fs : List Value} {r : vw_C} (V : mg_VL Y Y' ix n) (hd : decode (mg_cc Y) pc = .ok (.invokevirtual ix, 3)) (hM : M b = some (.inr (ci, fs))) (hc : mg_cl[ci]? = some r) (hrc : r.1 = Y'.1.cls) (ct : mg_Ct Y' rm (.ref b :: As) M post) (hs0 : st0 = As.reverse ++ .ref b :: rest) (hn : As.length = n) (hf : rm.frames + 1 ≤ (mg_R X).frames ∧ 8 + (mg_nl Y' + 11) + rm.locals ≤ (mg_R X).locals) (hcs : k + rm.cells ≤ (mg_R X).cells ∧ j + rm.slots ≤ (mg_R X).slots) (hrs : (rest.map fun v => v.category).sum ≤ 8)
    (kk : ∀ (v : Option Value) (M' : mg_M), post v M' → mg_G X Y Q M' (k + rm.cells) (j + rm.slots) (pc + 3) lv (v.toList ++ rest)) : mg_G X Y Q M k j pc lv st0 := by
  obtain ⟨p, l, e, R, s, m, args, below, meth, c, D, gT, M0, ad0⟩ := X
  obtain ⟨yy, cc, nn, ret⟩ := Y
  intro hC ad H locs ls hH hL hk hlv hst hS
  obtain ⟨hx, hb, hr, hml, hown, hts, hK, hlo, hnm⟩ := id hC
  obtain ⟨⟨hG0, hini, hdd⟩, hl, hin, hsel⟩ := V
  subst hs0
  have hcl1 : mg_cS M As := fun v hv => hst v (List.mem_append_left _ (List.mem_reverse.mpr hv))
  have hcl2 : mg_cS M (.ref b :: rest) := fun v hv => hst v (List.mem_append_right _ hv)
  obtain ⟨ws, q0, hP, hD, hq, -⟩ := hH.use hM
  have hrecv := va_recv hK.va hP hc hq
  rw [hrc] at hrecv
  have hpre : PreV s H Y'.1.cls (ad b) (mg_Pc D gT ad M (.ref b :: As) H.size) (As.map (mg_tr ad)) := ⟨mg_blind, hrecv, fun U hU hW => ⟨rfl, by rw [hU], by rw [hU]; exact hH.weaken fun _ _ => trivial, hcl1.cons hcl2.hd, hK.warm hW⟩⟩
  have hroom : 2 * (F0 m pc ls ((As.reverse ++ Value.ref b :: rest).map (mg_tr ad))).monitorRoom + ((rest.map (mg_tr ad)).map fun v => v.category).sum ≤ 8 := lv_room (by rw [mg_cats]; exact hrs)
  have hstk : (F0 m pc ls ((As.reverse ++ Value.ref b :: rest).map (mg_tr ad))).stack = (As.map (mg_tr ad)).reverse ++ Value.ref (ad b) :: rest.map (mg_tr ad) := by
    show (As.reverse ++ Value.ref b :: rest).map (mg_tr ad) = _
    rw [List.map_append, List.map_reverse]; rfl
  refine mg_behind (a := (Value.ref (ad b) :: As.map (mg_tr ad)).toArray) (rm := rm) (post := post) hC hH hL hk hlv hcl2.tl hS ?_ kk
  rcases hl with hl | ⟨host, hl⟩
  · exact va_runV (n := n) (C := Y'.1.cls) ⟨hx, hb, hml, hown, hts⟩ (ct l D gT ad H.size) ⟨callB_of n hts (mg_good hG0) rfl rfl rfl (hts _ hini) (hts _ hl) hdd hf, hts _ hin, hts _ hsel⟩ hpre rfl (by rw [List.length_map]; exact hn) hL.1 hstk hroom hd hcs
  · exact va_runVN (n := n) (C := Y'.1.cls) (host := host) ⟨hx, hb, hml, hown, hts⟩ (ct l D gT ad H.size) ⟨va_cnB n hts (mg_good hG0) rfl rfl rfl (hK.2.2.1 _ hl) (hts _ hini) hdd hf, hts _ hin, hts _ hsel⟩ hpre rfl (by rw [List.length_map]; exact hn) hL.1 hstk hroom hd hcs
theorem mg_callI {b : Nat} (V : mg_IL Y Y' ix n) (hd : decode (mg_cc Y) pc = .ok (.invokespecial ix, 3)) (ct : mg_Ct Y' rm (.ref b :: As) M post) (hs0 : st0 = As.reverse ++ .ref b :: rest) (hn : As.length = n) (hf : rm.frames + 1 ≤ (mg_R X).frames ∧ 8 + (mg_nl Y' + 11) + rm.locals ≤ (mg_R X).locals) (hcs : k + rm.cells ≤ (mg_R X).cells ∧ j + rm.slots ≤ (mg_R X).slots) (hrs : (rest.map fun v => v.category).sum ≤ 8)
    (kk : ∀ (v : Option Value) (M' : mg_M), post v M' → mg_G X Y Q M' (k + rm.cells) (j + rm.slots) (pc + 3) lv (v.toList ++ rest)) : mg_G X Y Q M k j pc lv st0 := by
  obtain ⟨p, l, e, R, s, m, args, below, meth, c, D, gT, M0, ad0⟩ := X
  obtain ⟨yy, cc, nn, ret⟩ := Y
  obtain ⟨y', cc', nn', ret'⟩ := Y'
  intro hC ad H locs ls hH hL hk hlv hst hS
  obtain ⟨hx, hb, hr, hml, hown, hts, hK, hlo, hnm⟩ := id hC
  obtain ⟨⟨hG0, hini, hdd⟩, hl, hin, hnmi, hret⟩ := V
  have hret2 : ret' = none := hret
  subst hret2
  subst hs0
  have hcl1 : mg_cS M As := fun v hv => hst v (List.mem_append_left _ (List.mem_reverse.mpr hv))
  have hcl2 : mg_cS M (.ref b :: rest) := fun v hv => hst v (List.mem_append_right _ hv)
  have hpre : PreS s H (mg_Pc D gT ad M (.ref b :: As) H.size) (.ref (ad b) :: As.map (mg_tr ad)) := ⟨mg_blind, fun U hU hW => ⟨rfl, by rw [hU], by rw [hU]; exact hH.weaken fun _ _ => trivial, hcl1.cons hcl2.hd, hK.warm hW⟩⟩
  have hroom : 2 * (F0 m pc ls ((As.reverse ++ Value.ref b :: rest).map (mg_tr ad))).monitorRoom + ((rest.map (mg_tr ad)).map fun v => v.category).sum ≤ 8 := lv_room (by rw [mg_cats]; exact hrs)
  have hstk : (F0 m pc ls ((As.reverse ++ Value.ref b :: rest).map (mg_tr ad))).stack = (As.map (mg_tr ad)).reverse ++ Value.ref (ad b) :: rest.map (mg_tr ad) := by
    show (As.reverse ++ Value.ref b :: rest).map (mg_tr ad) = _
    rw [List.map_append, List.map_reverse]; rfl
  refine mg_behind (a := (Value.ref (ad b) :: As.map (mg_tr ad)).toArray) (rm := rm) (post := post) hC hH hL hk hlv hcl2.tl hS ?_ kk
  rcases hl with hl | ⟨host, hl⟩
  · exact va_runI (n := n) ⟨hx, hb, hml, hown, hts⟩ (ct l D gT ad H.size) ⟨callB_of n hts (mg_good hG0) rfl rfl rfl (hts _ hini) (hts _ hl) hdd hf, hnmi, hts _ hin⟩ hpre rfl (by rw [List.length_map]; exact hn) hL.1 hstk hroom hd hcs
  · exact va_runIN (n := n) (host := host) ⟨hx, hb, hml, hown, hts⟩ (ct l D gT ad H.size) ⟨va_cnB n hts (mg_good hG0) rfl rfl rfl (hK.2.2.1 _ hl) (hts _ hini) hdd hf, hnmi, hts _ hin⟩ hpre rfl (by rw [List.length_map]; exact hn) hL.1 hstk hroom hd hcs
theorem mg_callS (V : mg_SL Y Y' ix n) (hd : decode (mg_cc Y) pc = .ok (.invokestatic ix, 3)) (ct : mg_Ct Y' rm As M post) (hs0 : st0 = As.reverse ++ rest) (hn : As.length = n) (hf : rm.frames + 1 ≤ (mg_R X).frames ∧ 8 + (mg_nl Y' + 11) + rm.locals ≤ (mg_R X).locals) (hcs : k + rm.cells ≤ (mg_R X).cells ∧ j + rm.slots ≤ (mg_R X).slots) (hrs : (rest.map fun v => v.category).sum ≤ 8)
    (kk : ∀ (v : Option Value) (M' : mg_M), post v M' → mg_G X Y Q M' (k + rm.cells) (j + rm.slots) (pc + 3) lv (v.toList ++ rest)) : mg_G X Y Q M k j pc lv st0 := by
  obtain ⟨p, l, e, R, s, m, args, below, meth, c, D, gT, M0, ad0⟩ := X
  obtain ⟨yy, cc, nn, ret⟩ := Y
  intro hC ad H locs ls hH hL hk hlv hst hS
  obtain ⟨hx, hb, hr, hml, hown, hts, hK, hlo, hnm⟩ := id hC
  obtain ⟨⟨hG0, hini, hdd⟩, hl, hstc⟩ := V
  subst hs0
  have hcl1 : mg_cS M As := fun v hv => hst v (List.mem_append_left _ (List.mem_reverse.mpr hv))
  have hcl2 : mg_cS M rest := fun v hv => hst v (List.mem_append_right _ hv)
  have hpre : PreS s H (mg_Pc D gT ad M As H.size) (As.map (mg_tr ad)) := ⟨mg_blind, fun U hU hW => ⟨rfl, by rw [hU], by rw [hU]; exact hH.weaken fun _ _ => trivial, hcl1, hK.warm hW⟩⟩
  have hroom : 2 * (F0 m pc ls ((As.reverse ++ rest).map (mg_tr ad))).monitorRoom + ((rest.map (mg_tr ad)).map fun v => v.category).sum ≤ 8 := lv_room (by rw [mg_cats]; exact hrs)
  have hstk : (F0 m pc ls ((As.reverse ++ rest).map (mg_tr ad))).stack = (As.map (mg_tr ad)).reverse ++ rest.map (mg_tr ad) := by
    show (As.reverse ++ rest).map (mg_tr ad) = _
    rw [List.map_append, List.map_reverse]
  refine mg_behind (a := (As.map (mg_tr ad)).toArray) (rm := rm) (post := post) hC hH hL hk hlv hcl2 hS ?_ kk
  rcases hl with hl | ⟨host, hl⟩
  · exact va_runS (n := n) ⟨hx, hb, hml, hown, hts⟩ (ct l D gT ad H.size) ⟨callB_of n hts (mg_good hG0) rfl rfl rfl (hts _ hini) (hts _ hl) hdd hf, hts _ hstc⟩ hpre rfl (by rw [List.length_map]; exact hn) hL.1 hstk hroom hd hcs
  · exact va_runSN (n := n) (host := host) ⟨hx, hb, hml, hown, hts⟩ (ct l D gT ad H.size) ⟨va_cnB n hts (mg_good hG0) rfl rfl rfl (hK.2.2.1 _ hl) (hts _ hini) hdd hf, hts _ hstc, trivial⟩ hpre rfl (by rw [List.length_map]; exact hn) hL.1 hstk hroom hd hcs
theorem mg_callU {b ci : Nat} {fs : List Value} {r : vw_C} {x : MethodName} (V : mg_UL Y Y' x ix n) (hd : decode (mg_cc Y) pc = .ok (.invokevirtual ix, 3)) (hM : M b = some (.inr (ci, fs))) (hc : mg_cl[ci]? = some r) (hrc : r.1 = Y'.1.cls) (ct : mg_Ct Y' rm (.ref b :: As) M post) (hs0 : st0 = As.reverse ++ .ref b :: rest) (hn : As.length = n) (hf : rm.frames + 1 ≤ (mg_R X).frames ∧ 8 + (mg_nl Y' + 11) + rm.locals ≤ (mg_R X).locals) (hcs : k + rm.cells ≤ (mg_R X).cells ∧ j + rm.slots ≤ (mg_R X).slots) (hrs : (rest.map fun v => v.category).sum ≤ 8)
    (kk : ∀ (v : Option Value) (M' : mg_M), post v M' → mg_G X Y Q M' (k + rm.cells) (j + rm.slots) (pc + 3) lv (v.toList ++ rest)) : mg_G X Y Q M k j pc lv st0 := by
  obtain ⟨p, l, e, R, s, m, args, below, meth, c, D, gT, M0, ad0⟩ := X
  obtain ⟨yy, cc, nn, ret⟩ := Y
  intro hC ad H locs ls hH hL hk hlv hst hS
  obtain ⟨hx, hb, hr, hml, hown, hts, hK, hlo, hnm⟩ := id hC
  obtain ⟨⟨hG0, hini, hdd⟩, hl, hsm, hsel, hin, hdec, hxx⟩ := V
  subst hs0
  have hcl1 : mg_cS M As := fun v hv => hst v (List.mem_append_left _ (List.mem_reverse.mpr hv))
  have hcl2 : mg_cS M (.ref b :: rest) := fun v hv => hst v (List.mem_append_right _ hv)
  obtain ⟨ws, q0, hP, hD, hq, -⟩ := hH.use hM
  have hrecv := va_recv hK.va hP hc hq
  rw [hrc] at hrecv
  have hpre : PreV s H Y'.1.cls (ad b) (mg_Pc D gT ad M (.ref b :: As) H.size) (As.map (mg_tr ad)) := ⟨mg_blind, hrecv, fun U hU hW => ⟨rfl, by rw [hU], by rw [hU]; exact hH.weaken fun _ _ => trivial, hcl1.cons hcl2.hd, hK.warm hW⟩⟩
  have hroom : 2 * (F0 m pc ls ((As.reverse ++ Value.ref b :: rest).map (mg_tr ad))).monitorRoom + ((rest.map (mg_tr ad)).map fun v => v.category).sum ≤ 8 := lv_room (by rw [mg_cats]; exact hrs)
  have hstk : (F0 m pc ls ((As.reverse ++ Value.ref b :: rest).map (mg_tr ad))).stack = (As.map (mg_tr ad)).reverse ++ Value.ref (ad b) :: rest.map (mg_tr ad) := by
    show (As.reverse ++ Value.ref b :: rest).map (mg_tr ad) = _
    rw [List.map_append, List.map_reverse]; rfl
  have hcode : Cond.code Y'.1 (mg_cc Y') (mg_nl Y') (mg_ret Y') ∈ mg_ws Y' := List.mem_cons_self
  have hlen : ∀ sig, parseMethodDescriptor x.desc = some sig → n = sig.parameters.length := fun sig h => by
    have h2 := hxx.2.2
    rw [h] at h2
    exact (Option.some.inj h2).symm
  refine mg_behind (a := (Value.ref (ad b) :: As.map (mg_tr ad)).toArray) (rm := rm) (post := post) hC hH hL hk hlv hcl2.tl hS ?_ kk
  exact va_runU (n := n) (C := Y'.1.cls) (owner := x.cls) (x := x) ⟨hx, hb, hml, hown, hts⟩ (ct l D gT ad H.size) ⟨⟨rfl, rfl, hf.1, hf.2, pay_in hts (mg_good hG0), hcode⟩, hts _ hG0, hts _ hini, ⟨hxx.1, hxx.2.1⟩, hlen, hts _ hl, hts _ hsm, va_Decl.abs (hK.2.2.1 _ hdec), hts _ hsel, hts _ hin⟩ hpre rfl (by rw [List.length_map]; exact hn) hL.1 hstk hroom hd hcs
/-- Object.<init> -/
theorem mg_objInit {a : Nat} (hw1 : Cond.methodLink (mg_own Y) ix Lib.objectInit ∈ mg_GT) (hw2 : Cond.instanceMethod Lib.objectInit ∈ mg_GT) (hw3 : Cond.code Lib.objectInit ⟨#[0xb1]⟩ 1 none ∈ mg_GT) (hd : decode (mg_cc Y) pc = .ok (.invokespecial ix, 3)) (hf : 1 ≤ (mg_R X).frames) (hlo : (rest.map fun v => v.category).sum + 12 ≤ (mg_R X).locals) (kk : mg_G X Y Q M k j (pc + 3) lv rest) : mg_G X Y Q M k j pc lv (.ref a :: rest) := by
  obtain ⟨p, l, e, R, s, m, args, below, meth, c, D, gT, M0, ad0⟩ := X
  obtain ⟨yy, cc, nn, ret⟩ := Y
  intro hC ad H locs ls hH hL hk hlv hst hS
  obtain ⟨hx, hb, hr, hml, hown, hts, hK, hlo2, hnm⟩ := id hC
  refine W.objInit hx hb hown (hts _ hw1) (hts _ hw2) (hts _ hw3) rfl (by rw [hml]; exact hL.1) rfl hd hf ?_ (kk hC ad H locs ls hH hL hk hlv hst.tl hS)
  rw [mg_cats]
  have hlo3 : (rest.map fun v => v.category).sum + 12 ≤ R.locals := hlo
  show 2 * 0 + _ + 12 ≤ _
  omega
theorem mg_max {x y : Int32} (hw1 : Cond.methodLink (mg_own Y) ix Lib.Math.max.name ∈ mg_GT) (hw2 : Cond.static Lib.Math.max.name ∈ mg_GT) (hw3 : Cond.initialized "java/lang/Math" ∈ mg_GT) (hw4 : Cond.code Lib.Math.max.name Lib.Math.max.code 2 (some .int) ∈ mg_GT) (hd : decode (mg_cc Y) pc = .ok (.invokestatic ix, 3)) (hf : 1 ≤ (mg_R X).frames) (hlo : (rest.map fun v => v.category).sum + 13 ≤ (mg_R X).locals) (hc1 : k ≤ (mg_R X).cells) (hc2 : j ≤ (mg_R X).slots) (kk : mg_G X Y Q M k j (pc + 3) lv (.int (if x < y then y else x) :: rest)) : mg_G X Y Q M k j pc lv (.int y :: .int x :: rest) := by
  obtain ⟨p, l, e, R, s, m, args, below, meth, c, D, gT, M0, ad0⟩ := X
  obtain ⟨yy, cc, nn, ret⟩ := Y
  intro hC ad H locs ls hH hL hk hlv hst hS
  obtain ⟨hx, hb, hr, hml, hown, hts, hK, hlo2, hnm⟩ := id hC
  exact va_mmax hx hb (by rw [hml]; exact hL.1.symm) hown (hts _ hw1) (hts _ hw2) (hts _ hw3) (hts _ hw4) hf (by rw [mg_cats]; exact hlo) hc1 hc2 hd (kk hC ad H locs ls hH hL hk hlv (hst.tl.tl.cons trivial) hS)
theorem mg_min {x y : Int32} (hw1 : Cond.methodLink (mg_own Y) ix Lib.Math.min.name ∈ mg_GT) (hw2 : Cond.static Lib.Math.min.name ∈ mg_GT) (hw3 : Cond.initialized "java/lang/Math" ∈ mg_GT) (hw4 : Cond.code Lib.Math.min.name Lib.Math.min.code 2 (some .int) ∈ mg_GT) (hd : decode (mg_cc Y) pc = .ok (.invokestatic ix, 3)) (hf : 1 ≤ (mg_R X).frames) (hlo : (rest.map fun v => v.category).sum + 13 ≤ (mg_R X).locals) (hc1 : k ≤ (mg_R X).cells) (hc2 : j ≤ (mg_R X).slots) (kk : mg_G X Y Q M k j (pc + 3) lv (.int (if y < x then y else x) :: rest)) : mg_G X Y Q M k j pc lv (.int y :: .int x :: rest) := by
  obtain ⟨p, l, e, R, s, m, args, below, meth, c, D, gT, M0, ad0⟩ := X
  obtain ⟨yy, cc, nn, ret⟩ := Y
  intro hC ad H locs ls hH hL hk hlv hst hS
  obtain ⟨hx, hb, hr, hml, hown, hts, hK, hlo2, hnm⟩ := id hC
  exact va_mmin hx hb (by rw [hml]; exact hL.1.symm) hown (hts _ hw1) (hts _ hw2) (hts _ hw3) (hts _ hw4) hf (by rw [mg_cats]; exact hlo) hc1 hc2 hd (kk hC ad H locs ls hH hL hk hlv (hst.tl.tl.cons trivial) hS)
end MGCalls
