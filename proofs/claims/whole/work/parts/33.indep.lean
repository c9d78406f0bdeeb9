/-! WHAT A RUN DOES NOT DEPEND ON -/
def dRel (how : Int32) (σ τ : dS) : Prop := σ.1 = τ.1 ∧ σ.2.1 = τ.2.1 ∧ σ.2.2.1 = τ.2.2.1 ∧ (how = 1 → σ.2.2.2.1 = τ.2.2.2.1) ∧ ∀ j, j < σ.1.length → σ.2.2.2.2 j = τ.2.2.2.2 j
def mRel (md me : dM) : Prop := md.1 = me.1 ∧ (md.1 ≠ 1 → md.2.1 = me.2.1) ∧ (md.1 = 1 → md.2.2 = me.2.2)
theorem pick_rel {how : Int32} {gv gv' : List Int32} {pl sp sp' : Int32} {x x' : Int64} (hg : how ≠ 1 → gv = gv') (hx : how = 1 → x = x') (hs : how = 1 → sp = sp') : (pickF how gv pl sp x).1 = (pickF how gv' pl sp' x').1 ∧ (how = 1 → (pickF how gv pl sp x).2 = (pickF how gv' pl sp' x').2) := by
  by_cases h1 : how = 1
  · rw [hx h1, hs h1]
    unfold pickF
    rw [if_pos h1, if_pos h1]
    exact ⟨rfl, fun _ => rfl⟩
  · rw [hg h1]
    unfold pickF
    rw [if_neg h1, if_neg h1]
    by_cases h2 : how = 2
    · rw [if_pos h2, if_pos h2]; exact ⟨rfl, fun h => absurd h h1⟩
    · rw [if_neg h2, if_neg h2]; exact ⟨rfl, fun h => absurd h h1⟩
theorem drawF_ill {md : dM} {cs ns : List Int32} {x : Int64} {lm : Nat → Int32} {m s : Int32} : drawF md (cs, ns, true, x, lm) m s = (0, (cs, ns, true, x, lm)) := by
  unfold drawF
  rw [if_pos rfl]
theorem dRel_mk {how : Int32} {cs ns : List Int32} {il : Bool} {x y : Int64} {f g : Nat → Int32} (h1 : how = 1 → x = y) (h2 : ∀ j, j < cs.length → f j = g j) : dRel how (cs, ns, il, x, f) (cs, ns, il, y, g) := ⟨rfl, rfl, rfl, h1, h2⟩
theorem draw_rel {md me : dM} {σ τ : dS} {m sp sp' : Int32} (hm : mRel md me) (h : dRel md.1 σ τ) (hs : md.1 = 1 → sp = sp') : (drawF md σ m sp).1 = (drawF me τ m sp').1 ∧ dRel md.1 (drawF md σ m sp).2 (drawF me τ m sp').2 := by
  obtain ⟨p1, p2⟩ := pick_rel (how := md.1) (gv := md.2.1) (gv' := me.2.1) (pl := nI σ.1.length) (sp := sp) (sp' := sp') (x := σ.2.2.2.1) (x' := τ.2.2.2.1) (fun h => hm.2.1 h) h.2.2.2.1 hs
  unfold drawF
  rw [← hm.1, ← h.1, ← h.2.2.1, ← h.2.1]
  generalize pickF md.1 md.2.1 (nI σ.1.length) sp σ.2.2.2.1 = a at p1 p2 ⊢
  generalize pickF md.1 me.2.1 (nI σ.1.length) sp' τ.2.2.2.1 = b at p1 p2 ⊢
  rw [← p1]
  by_cases hil : σ.2.2.1 = true
  · rw [if_pos hil, if_pos hil]; exact ⟨rfl, h⟩
  · rw [if_neg hil, if_neg hil]
    by_cases hb : a.1 < 0 ∨ m < a.1 ∨ 60 ≤ σ.1.length
    · rw [if_pos hb, if_pos hb]
      exact ⟨Eq.refl (0 : Int32), show dRel md.1 (σ.1, σ.2.1, true, a.2, σ.2.2.2.2) (σ.1, σ.2.1, true, b.2, τ.2.2.2.2) from dRel_mk p2 h.2.2.2.2⟩
    · rw [if_neg hb, if_neg hb]
      refine ⟨Eq.refl a.1, show dRel md.1 (σ.1 ++ [a.1], σ.2.1, false, a.2, upd σ.2.2.2.2 σ.1.length m) (σ.1 ++ [a.1], σ.2.1, false, b.2, upd τ.2.2.2.2 σ.1.length m) from dRel_mk p2 (fun j hj => ?_)⟩
      have hj2 : j < (σ.1 ++ [a.1]).length := hj
      rw [List.length_append] at hj2
      have hj3 : j < σ.1.length + 1 := hj2
      by_cases hjc : j = σ.1.length
      · subst hjc
        show upd σ.2.2.2.2 σ.1.length m σ.1.length = upd τ.2.2.2.2 σ.1.length m σ.1.length
        rw [pk_us, pk_us]
      · show upd σ.2.2.2.2 σ.1.length m j = upd τ.2.2.2.2 σ.1.length m j
        rw [pk_un hjc, pk_un hjc]; exact h.2.2.2.2 j (by omega)
theorem num_rel {how : Int32} {σ τ : dS} {n : Int32} (h : dRel how σ τ) : dRel how (numF σ n) (numF τ n) := by
  obtain ⟨cs, ns, il, x, lm⟩ := σ
  obtain ⟨cs', ns', il', x', lm'⟩ := τ
  obtain ⟨e1, e2, e3, e4, e5⟩ := h
  simp only at e1 e2 e3 e4 e5
  subst e1; subst e2; subst e3
  unfold numF
  dsimp only
  split
  · exact ⟨rfl, rfl, rfl, e4, e5⟩
  · split
    · exact ⟨rfl, rfl, rfl, e4, e5⟩
    · exact ⟨rfl, rfl, rfl, e4, e5⟩
theorem ill_rel {how : Int32} {σ τ : dS} (h : dRel how σ τ) : dRel how (illF σ) (illF τ) := ⟨h.1, h.2.1, rfl, h.2.2.2.1, h.2.2.2.2⟩
theorem cut_rel {how : Int32} {σ τ : dS} {n : Nat} (h : dRel how σ τ) : dRel how (cutF σ n) (cutF τ n) := ⟨h.1, congrArg (List.take n) h.2.1, h.2.2.1, h.2.2.2.1, h.2.2.2.2⟩
theorem raise_rel {how : Int32} {σ τ : dS} {n : Nat} {b : Int32} (h : dRel how σ τ) : dRel how (raiseF σ n b) (raiseF τ n b) := ⟨h.1, congrArg (fun l => raiseL l n b) h.2.1, h.2.2.1, h.2.2.2.1, h.2.2.2.2⟩
theorem list_rel {md me : dM} {s t : dS → dS} (hm : mRel md me) (hs : ∀ σ τ, dRel md.1 σ τ → dRel md.1 (s σ) (t τ)) : ∀ (n : Nat) (σ τ : dS), dRel md.1 σ τ → dRel md.1 (listF s md n σ) (listF t me n τ) := by
  intro n
  induction n with
  | zero => intro σ τ h; exact h
  | succ n ih =>
    intro σ τ h
    obtain ⟨h1, h2⟩ := draw_rel (m := 1) (sp := 2) (sp' := 2) hm h (fun _ => rfl)
    rw [listF, listF, ← h1]
    split
    · exact ih _ _ (hs _ _ h2)
    · exact h2
theorem keep_rel {how : Int32} {s t : dS → dS} {st : Nat} {b : Int32} (hs : ∀ σ τ, dRel how σ τ → dRel how (s σ) (t τ)) : ∀ (n : Nat) (σ τ : dS), dRel how σ τ → dRel how (keepF s st b n σ) (keepF t st b n τ) := by
  intro n
  induction n with
  | zero => intro σ τ h; exact ill_rel h
  | succ n ih =>
    intro σ τ h
    have h2 := hs _ _ (cut_rel (n := st) h)
    rw [keepF, keepF, ← h.2.2.1, ← h2.2.1]
    split
    · exact ill_rel h
    · split
      · exact h2
      · exact ih _ _ h2
theorem gF_none {gs : List gN} {md : dM} {d i : Nat} {σ : dS} (hg : gs[i]? = none) : giveF gs md (d + 1) i σ = σ := by simp only [giveF, hg]
theorem gF_0 {gs : List gN} {md : dM} {d i : Nat} {σ : dS} {a b : Int32} {dp : Nat} (hg : gs[i]? = some (0, a, b, dp)) : giveF gs md (d + 1) i σ = numF (drawF md σ (b - a) (spanF md.2.2 (b - a))).2 (a + (drawF md σ (b - a) (spanF md.2.2 (b - a))).1) := by simp only [giveF, hg]
theorem gF_1 {gs : List gN} {md : dM} {d i : Nat} {σ : dS} {a b : Int32} {dp : Nat} (hg : gs[i]? = some (1, a, b, dp)) : giveF gs md (d + 1) i σ = listF (giveF gs md d a.toNatClampNeg) md b.toNatClampNeg σ := by simp only [giveF, hg]
theorem gF_2 {gs : List gN} {md : dM} {d i : Nat} {σ : dS} {a b : Int32} {dp : Nat} (hg : gs[i]? = some (2, a, b, dp)) : giveF gs md (d + 1) i σ = if (giveF gs md d a.toNatClampNeg σ).2.2.1 = true then giveF gs md d a.toNatClampNeg σ else giveF gs md d b.toNatClampNeg (giveF gs md d a.toNatClampNeg σ) := by simp only [giveF, hg]
theorem gF_3 {gs : List gN} {md : dM} {d i : Nat} {σ : dS} {a b : Int32} {dp : Nat} (hg : gs[i]? = some (3, a, b, dp)) : giveF gs md (d + 1) i σ = if (drawF md σ 1 2).2.2.2.1 = true then (drawF md σ 1 2).2 else if (drawF md σ 1 2).1 = 0 then giveF gs md d a.toNatClampNeg (drawF md σ 1 2).2 else giveF gs md d b.toNatClampNeg (drawF md σ 1 2).2 := by simp only [giveF, hg]
theorem gF_4 {gs : List gN} {md : dM} {d i : Nat} {σ : dS} {a b : Int32} {dp : Nat} (hg : gs[i]? = some (4, a, b, dp)) : giveF gs md (d + 1) i σ = keepF (giveF gs md d a.toNatClampNeg) σ.2.1.length b 3 σ := by simp only [giveF, hg]
theorem gF_5 {gs : List gN} {md : dM} {d i k : Nat} {σ : dS} {a b : Int32} {dp : Nat} (hg : gs[i]? = some (k + 5, a, b, dp)) : giveF gs md (d + 1) i σ = raiseF (giveF gs md d a.toNatClampNeg σ) σ.2.1.length b := by simp only [giveF, hg]
theorem give_rel {gs : List gN} {md me : dM} (hm : mRel md me) : ∀ (d i : Nat) (σ τ : dS), dRel md.1 σ τ → dRel md.1 (giveF gs md d i σ) (giveF gs me d i τ) := by
  intro d
  induction d with
  | zero => intro i σ τ h; exact h
  | succ d ih =>
    intro i σ τ h
    cases hg : gs[i]? with
    | none => rw [gF_none hg, gF_none hg]; exact h
    | some g =>
      obtain ⟨k, a, b, dp⟩ := g
      match k, hg with
      | 0, hg =>
        obtain ⟨h1, h2⟩ := draw_rel (m := b - a) (sp := spanF md.2.2 (b - a)) (sp' := spanF me.2.2 (b - a)) hm h (fun e => by rw [hm.2.2 e])
        rw [gF_0 hg, gF_0 hg, ← h1]
        exact num_rel h2
      | 1, hg => rw [gF_1 hg, gF_1 hg]; exact list_rel hm (ih _) _ _ _ h
      | 2, hg =>
        have h1 := ih a.toNatClampNeg _ _ h
        rw [gF_2 hg, gF_2 hg, ← h1.2.2.1]
        split
        · exact h1
        · exact ih _ _ _ h1
      | 3, hg =>
        obtain ⟨h1, h2⟩ := draw_rel (m := 1) (sp := 2) (sp' := 2) hm h (fun _ => rfl)
        rw [gF_3 hg, gF_3 hg, ← h2.2.2.1, ← h1]
        split
        · exact h2
        · split
          · exact ih _ _ _ h2
          · exact ih _ _ _ h2
      | 4, hg =>
        rw [gF_4 hg, gF_4 hg, ← h.2.1]
        exact keep_rel (ih _) _ _ _ h
      | k + 5, hg =>
        rw [gF_5 hg, gF_5 hg, ← h.2.1]
        exact raise_rel (ih _ _ _ h)
/-- a row's run, as it is whatever stood there before -/
def rowC (gs : List gN) (i : Nat) (ys : List Int32) : List Int32 × List Int32 × Bool := ((runR gs ys 0 i 0 (fun _ => 0)).1, (runR gs ys 0 i 0 (fun _ => 0)).2.1, (runR gs ys 0 i 0 (fun _ => 0)).2.2.1)
theorem row_eq (gs : List gN) (i : Nat) (ys : List Int32) (z : Int32) (x : Int64) (lm : Nat → Int32) : (runR gs ys z i x lm).1 = (rowC gs i ys).1 ∧ (runR gs ys z i x lm).2.1 = (rowC gs i ys).2.1 ∧ (runR gs ys z i x lm).2.2.1 = (rowC gs i ys).2.2 := by
  have h := give_rel (gs := gs) (md := (0, ys, z)) (me := (0, ys, 0)) ⟨rfl, fun _ => rfl, fun e => absurd (show (0 : Int32) = 1 from e) (by decide)⟩ 8 i ([], [], false, x, lm) ([], [], false, 0, fun _ => 0) ⟨rfl, rfl, rfl, fun e => absurd (show (0 : Int32) = 1 from e) (by decide), fun j hj => absurd hj (by simp)⟩
  exact ⟨h.1, h.2.1, h.2.2.1⟩
/-- a try's run -/
def tryC (gs : List gN) (i z : Nat) (x : Int64) : List Int32 × List Int32 × Bool × Int64 := ((tryR gs [] z i x (fun _ => 0)).1, (tryR gs [] z i x (fun _ => 0)).2.1, (tryR gs [] z i x (fun _ => 0)).2.2.1, (tryR gs [] z i x (fun _ => 0)).2.2.2.1)
theorem try_eq (gs : List gN) (gv : List Int32) (i z : Nat) (x : Int64) (lm : Nat → Int32) : (tryR gs gv z i x lm).1 = (tryC gs i z x).1 ∧ (tryR gs gv z i x lm).2.1 = (tryC gs i z x).2.1 ∧ (tryR gs gv z i x lm).2.2.1 = (tryC gs i z x).2.2.1 ∧ (tryR gs gv z i x lm).2.2.2.1 = (tryC gs i z x).2.2.2 := by
  have h := give_rel (gs := gs) (md := (1, gv, nI z)) (me := (1, [], nI z)) ⟨rfl, fun e => absurd rfl e, fun _ => rfl⟩ 8 i ([], [], false, x, lm) ([], [], false, x, fun _ => 0) ⟨rfl, rfl, rfl, fun _ => rfl, fun j hj => absurd hj (by simp)⟩
  exact ⟨h.1, h.2.1, h.2.2.1, h.2.2.2.1 rfl⟩
/-- a turn's run -/
def turnC (gs : List gN) (i : Nat) (gv : List Int32) : dS := giveF gs (2, gv, 0) 8 i ([], [], false, 0, fun _ => 0)
theorem next_congr {cs : List Int32} {lm lm' : Nat → Int32} : ∀ n, (∀ j, j < n → lm j = lm' j) → nextF cs lm n = nextF cs lm' n
  | 0, _ => rfl
  | n + 1, h => by
    rw [nextF, nextF, h n (by omega), next_congr n (fun j hj => h j (by omega))]
theorem turn_eq (gs : List gN) (i : Nat) (gv : List Int32) (z : Int32) (x : Int64) (lm : Nat → Int32) : (giveF gs (2, gv, z) 8 i ([], [], false, x, lm)).2.1 = (turnC gs i gv).2.1 ∧ (giveF gs (2, gv, z) 8 i ([], [], false, x, lm)).2.2.1 = (turnC gs i gv).2.2.1 ∧ nextF (giveF gs (2, gv, z) 8 i ([], [], false, x, lm)).1 (giveF gs (2, gv, z) 8 i ([], [], false, x, lm)).2.2.2.2 (giveF gs (2, gv, z) 8 i ([], [], false, x, lm)).1.length = nextF (turnC gs i gv).1 (turnC gs i gv).2.2.2.2 (turnC gs i gv).1.length := by
  have h := give_rel (gs := gs) (md := (2, gv, z)) (me := (2, gv, 0)) ⟨rfl, fun _ => rfl, fun e => absurd (show (2 : Int32) = 1 from e) (by decide)⟩ 8 i ([], [], false, x, lm) ([], [], false, 0, fun _ => 0) ⟨rfl, rfl, rfl, fun e => absurd (show (2 : Int32) = 1 from e) (by decide), fun j hj => absurd hj (by simp)⟩
  refine ⟨h.2.1, h.2.2.1, ?_⟩
  rw [next_congr _ h.2.2.2.2, h.1]
  rfl
