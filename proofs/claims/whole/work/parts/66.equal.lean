/-! WHAT BOTH SIDES' STATES SHARE: a run read again is the same run; the invariant of the calls -/
def upR (σ τ : dS) : Prop := (σ.2.2.1 = true → τ.2.2.1 = true) ∧ ∃ e, τ.1 = σ.1 ++ e
theorem upR.rf {σ : dS} : upR σ σ := ⟨id, [], (List.append_nil _).symm⟩
theorem upR.tr {σ τ υ : dS} (h : upR σ τ) (h' : upR τ υ) : upR σ υ := by
  obtain ⟨a, e, b⟩ := h
  obtain ⟨a', e', b'⟩ := h'
  exact ⟨fun q => a' (a q), e ++ e', by rw [b', b, List.append_assoc]⟩
theorem up_draw {md : dM} {σ : dS} {m sp : Int32} : upR σ (drawF md σ m sp).2 := by
  unfold drawF
  by_cases hil : σ.2.2.1 = true
  · rw [if_pos hil]; exact upR.rf
  · rw [if_neg hil]
    generalize pickF md.1 md.2.1 (nI σ.1.length) sp σ.2.2.2.1 = a
    by_cases hb : a.1 < 0 ∨ m < a.1 ∨ 60 ≤ σ.1.length
    · rw [if_pos hb]; exact ⟨fun _ => Eq.refl true, [], (List.append_nil _).symm⟩
    · rw [if_neg hb]; exact ⟨fun q => absurd q hil, [a.1], Eq.refl (σ.1 ++ [a.1])⟩
theorem up_num {σ : dS} {n : Int32} : upR σ (numF σ n) := by
  unfold numF
  by_cases hil : σ.2.2.1 = true
  · rw [if_pos hil]; exact upR.rf
  · rw [if_neg hil]
    by_cases hl : σ.2.1.length < 60
    · rw [if_pos hl]; exact ⟨fun q => absurd q hil, [], (List.append_nil _).symm⟩
    · rw [if_neg hl]; exact ⟨fun q => absurd q hil, [], (List.append_nil _).symm⟩
theorem up_ill {σ : dS} : upR σ (illF σ) := ⟨fun _ => Eq.refl true, [], (List.append_nil _).symm⟩
theorem up_cut {σ : dS} {n : Nat} : upR σ (cutF σ n) := ⟨id, [], (List.append_nil _).symm⟩
theorem up_raise {σ : dS} {n : Nat} {b : Int32} : upR σ (raiseF σ n b) := ⟨id, [], (List.append_nil _).symm⟩
theorem up_list {md : dM} {s : dS → dS} (hs : ∀ σ, upR σ (s σ)) : ∀ (n : Nat) (σ : dS), upR σ (listF s md n σ) := by
  intro n
  induction n with
  | zero => intro σ; exact upR.rf
  | succ n ih =>
    intro σ
    rw [listF]
    split
    · exact (up_draw.tr (hs _)).tr (ih _)
    · exact up_draw
theorem up_keep {s : dS → dS} {st : Nat} {b : Int32} (hs : ∀ σ, upR σ (s σ)) : ∀ (n : Nat) (σ : dS), upR σ (keepF s st b n σ) := by
  intro n
  induction n with
  | zero => intro σ; exact up_ill
  | succ n ih =>
    intro σ
    rw [keepF]
    split
    · exact up_ill
    · split
      · exact up_cut.tr (hs _)
      · exact (up_cut.tr (hs _)).tr (ih _)
theorem up_give {gs : List gN} {md : dM} : ∀ (d i : Nat) (σ : dS), upR σ (giveF gs md d i σ) := by
  intro d
  induction d with
  | zero => intro i σ; exact upR.rf
  | succ d ih =>
    intro i σ
    cases hg : gs[i]? with
    | none => rw [gF_none hg]; exact upR.rf
    | some g =>
      obtain ⟨k, a, b, dp⟩ := g
      match k, hg with
      | 0, hg => rw [gF_0 hg]; exact up_draw.tr up_num
      | 1, hg => rw [gF_1 hg]; exact up_list (ih _) _ _
      | 2, hg =>
        rw [gF_2 hg]
        split
        · exact ih _ _
        · exact (ih _ _).tr (ih _ _)
      | 3, hg =>
        rw [gF_3 hg]
        split
        · exact up_draw
        · split
          · exact up_draw.tr (ih _ _)
          · exact up_draw.tr (ih _ _)
      | 4, hg => rw [gF_4 hg]; exact up_keep (ih _) _ _
      | k + 5, hg => rw [gF_5 hg]; exact (ih _ _).tr up_raise
/-- not ill, and of the row Z -/
def okZ (Z : List Int32) (σ : dS) : Prop := σ.2.2.1 = false ∧ ∃ e, Z = σ.1 ++ e
theorem okZ.up {Z : List Int32} {σ τ : dS} (h : okZ Z τ) (u : upR σ τ) : okZ Z σ := by
  obtain ⟨h1, e, h2⟩ := h
  obtain ⟨u1, f, u2⟩ := u
  refine ⟨?_, f ++ e, by rw [h2, u2, List.append_assoc]⟩
  cases hq : σ.2.2.1 with
  | false => rfl
  | true => rw [u1 hq] at h1; cases h1
/-- two runs side by side -/
def flR (σ τ : dS) : Prop := σ.1 = τ.1 ∧ σ.2.1 = τ.2.1 ∧ σ.2.2.1 = false ∧ τ.2.2.1 = false
theorem draw_fl {md : dM} {Z : List Int32} {z : Int32} {σ τ : dS} {m sp sp' : Int32} (hZ : Z.length ≤ 60) (h : flR σ τ) (ho : okZ Z (drawF md σ m sp).2) : (drawF md σ m sp).1 = (drawF (0, Z, z) τ m sp').1 ∧ flR (drawF md σ m sp).2 (drawF (0, Z, z) τ m sp').2 := by
  obtain ⟨cs, ns, il, x, lm⟩ := σ
  obtain ⟨cs', ns', il', x', lm'⟩ := τ
  obtain ⟨e1, e2, e3, e4⟩ := h
  simp only at e1 e2 e3 e4
  subst e1; subst e2; subst e3; subst e4
  by_cases hb : (pickF md.1 md.2.1 (nI cs.length) sp x).1 < 0 ∨ m < (pickF md.1 md.2.1 (nI cs.length) sp x).1 ∨ 60 ≤ cs.length
  · rw [drawF_bad rfl hb] at ho
    obtain ⟨o1, -⟩ := ho
    cases o1
  · have hb1 : ¬ (pickF md.1 md.2.1 (nI cs.length) sp x).1 < 0 := fun q => hb (Or.inl q)
    have hb2 : ¬ m < (pickF md.1 md.2.1 (nI cs.length) sp x).1 := fun q => hb (Or.inr (Or.inl q))
    have hb3 : cs.length < 60 := Nat.lt_of_not_le (fun q => hb (Or.inr (Or.inr q)))
    rw [drawF_ok rfl hb1 hb2 hb3] at ho ⊢
    obtain ⟨-, e, o2⟩ := ho
    generalize pickF md.1 md.2.1 (nI cs.length) sp x = a at o2 hb1 hb2 ⊢
    replace o2 : Z = cs ++ [a.1] ++ e := o2
    have hl : cs.length < Z.length := by rw [o2]; simp
    have hp : pickF (0 : Int32) Z (nI cs.length) sp' x' = (a.1, x') := by
      unfold pickF
      rw [if_neg (by decide), if_neg (by decide), atI_in hZ hl, o2, List.getD_eq_getElem?_getD, List.append_assoc, List.getElem?_append_right (Nat.le_refl _), Nat.sub_self]
      rfl
    rw [drawF_ok (md := (0, Z, z)) hp hb1 hb2 hb3]
    exact ⟨Eq.refl a.1, Eq.refl (cs ++ [a.1]), Eq.refl ns, Eq.refl false, Eq.refl false⟩
theorem num_fl {σ τ : dS} {n : Int32} (h : flR σ τ) (ho : (numF σ n).2.2.1 = false) : flR (numF σ n) (numF τ n) := by
  obtain ⟨cs, ns, il, x, lm⟩ := σ
  obtain ⟨cs', ns', il', x', lm'⟩ := τ
  obtain ⟨e1, e2, e3, e4⟩ := h
  simp only at e1 e2 e3 e4
  subst e1; subst e2; subst e3; subst e4
  unfold numF at ho ⊢
  dsimp only at ho ⊢
  rw [if_neg (by decide)] at ho ⊢
  by_cases hl : ns.length < 60
  · rw [if_pos hl, if_neg (by decide), if_pos hl]; exact ⟨rfl, rfl, rfl, rfl⟩
  · rw [if_neg hl] at ho; cases ho
theorem cut_fl {σ τ : dS} {n : Nat} (h : flR σ τ) : flR (cutF σ n) (cutF τ n) := ⟨h.1, congrArg (List.take n) h.2.1, h.2.2.1, h.2.2.2⟩
theorem raise_fl {σ τ : dS} {n : Nat} {b : Int32} (h : flR σ τ) : flR (raiseF σ n b) (raiseF τ n b) := ⟨h.1, congrArg (fun l => raiseL l n b) h.2.1, h.2.2.1, h.2.2.2⟩
theorem list_fl {md : dM} {Z : List Int32} {z : Int32} {s t : dS → dS} (hZ : Z.length ≤ 60) (hu : ∀ σ, upR σ (s σ)) (hs : ∀ σ τ, flR σ τ → okZ Z (s σ) → flR (s σ) (t τ)) : ∀ (n : Nat) (σ τ : dS), flR σ τ → okZ Z (listF s md n σ) → flR (listF s md n σ) (listF t (0, Z, z) n τ) := by
  intro n
  induction n with
  | zero => intro σ τ h _; exact h
  | succ n ih =>
    intro σ τ h ho
    rw [listF] at ho ⊢
    rw [listF]
    by_cases hc : (drawF md σ 1 2).1 = 1
    · rw [if_pos hc] at ho ⊢
      have o2 : okZ Z (s (drawF md σ 1 2).2) := ho.up (up_list hu _ _)
      obtain ⟨d1, d2⟩ := draw_fl (z := z) (sp' := 2) hZ h (o2.up (hu _))
      rw [← d1, if_pos hc]
      exact ih _ _ (hs _ _ d2 o2) ho
    · rw [if_neg hc] at ho ⊢
      obtain ⟨d1, d2⟩ := draw_fl (z := z) (sp' := 2) hZ h ho
      rw [← d1, if_neg hc]
      exact d2
theorem keep_fl {Z : List Int32} {s t : dS → dS} {st : Nat} {b : Int32} (hu : ∀ σ, upR σ (s σ)) (hs : ∀ σ τ, flR σ τ → okZ Z (s σ) → flR (s σ) (t τ)) : ∀ (n : Nat) (σ τ : dS), flR σ τ → okZ Z (keepF s st b n σ) → flR (keepF s st b n σ) (keepF t st b n τ) := by
  intro n
  induction n with
  | zero =>
    intro σ τ h ho
    obtain ⟨o1, -⟩ := ho
    cases o1
  | succ n ih =>
    intro σ τ h ho
    rw [keepF] at ho ⊢
    rw [keepF]
    have n1 : ¬ σ.2.2.1 = true := by rw [h.2.2.1]; decide
    have n2 : ¬ τ.2.2.1 = true := by rw [h.2.2.2]; decide
    rw [if_neg n1] at ho ⊢
    rw [if_neg n2]
    by_cases hc : sumF 0 ((s (cutF σ st)).2.1.drop st) &&& 1 = b.toInt64
    · rw [if_pos hc] at ho ⊢
      have h2 := hs _ _ (cut_fl (n := st) h) ho
      rw [← h2.2.1, if_pos hc]
      exact h2
    · rw [if_neg hc] at ho ⊢
      have h2 := hs _ _ (cut_fl (n := st) h) (ho.up (up_keep hu _ _))
      rw [← h2.2.1, if_neg hc]
      exact ih _ _ h2 ho
theorem give_fl {gs : List gN} {md : dM} {Z : List Int32} {z : Int32} (hZ : Z.length ≤ 60) : ∀ (d i : Nat) (σ τ : dS), flR σ τ → okZ Z (giveF gs md d i σ) → flR (giveF gs md d i σ) (giveF gs (0, Z, z) d i τ) := by
  intro d
  induction d with
  | zero => intro i σ τ h _; exact h
  | succ d ih =>
    intro i σ τ h ho
    cases hg : gs[i]? with
    | none => rw [gF_none hg, gF_none hg]; exact h
    | some g =>
      obtain ⟨k, a, b, dp⟩ := g
      match k, hg with
      | 0, hg =>
        rw [gF_0 hg] at ho ⊢
        rw [gF_0 hg]
        obtain ⟨d1, d2⟩ := draw_fl (z := z) (sp' := spanF ((0 : Int32), Z, z).2.2 (b - a)) hZ h (ho.up up_num)
        rw [← d1]
        exact num_fl d2 ho.1
      | 1, hg =>
        rw [gF_1 hg] at ho ⊢
        rw [gF_1 hg]
        exact list_fl hZ (up_give _ _) (ih _) _ _ _ h ho
      | 2, hg =>
        rw [gF_2 hg] at ho ⊢
        rw [gF_2 hg]
        by_cases hc : (giveF gs md d a.toNatClampNeg σ).2.2.1 = true
        · rw [if_pos hc] at ho
          rw [ho.1] at hc; cases hc
        · rw [if_neg hc] at ho ⊢
          have h2 := ih _ _ _ h (ho.up (up_give _ _ _))
          rw [if_neg (by rw [h2.2.2.2]; decide)]
          exact ih _ _ _ h2 ho
      | 3, hg =>
        rw [gF_3 hg] at ho ⊢
        rw [gF_3 hg]
        by_cases hc : (drawF md σ 1 2).2.2.2.1 = true
        · rw [if_pos hc] at ho
          rw [ho.1] at hc; cases hc
        · rw [if_neg hc] at ho ⊢
          by_cases h0 : (drawF md σ 1 2).1 = 0
          · rw [if_pos h0] at ho ⊢
            obtain ⟨d1, d2⟩ := draw_fl (z := z) (sp' := 2) hZ h (ho.up (up_give _ _ _))
            rw [← d1, if_pos h0, if_neg (by rw [d2.2.2.2]; decide)]
            exact ih _ _ _ d2 ho
          · rw [if_neg h0] at ho ⊢
            obtain ⟨d1, d2⟩ := draw_fl (z := z) (sp' := 2) hZ h (ho.up (up_give _ _ _))
            rw [← d1, if_neg h0, if_neg (by rw [d2.2.2.2]; decide)]
            exact ih _ _ _ d2 ho
      | 4, hg =>
        rw [gF_4 hg] at ho ⊢
        rw [gF_4 hg, ← h.2.1]
        exact keep_fl (up_give _ _) (ih _) _ _ _ h ho
      | k + 5, hg =>
        rw [gF_5 hg] at ho ⊢
        rw [gF_5 hg, ← h.2.1]
        exact raise_fl (ih _ _ _ h (ho.up up_raise))
theorem len_draw {md : dM} {σ : dS} {m sp : Int32} (h : σ.1.length ≤ 60) : (drawF md σ m sp).2.1.length ≤ 60 := by
  unfold drawF
  by_cases hil : σ.2.2.1 = true
  · rw [if_pos hil]; exact h
  · rw [if_neg hil]
    generalize pickF md.1 md.2.1 (nI σ.1.length) sp σ.2.2.2.1 = a
    by_cases hb : a.1 < 0 ∨ m < a.1 ∨ 60 ≤ σ.1.length
    · rw [if_pos hb]; exact h
    · rw [if_neg hb]
      show (σ.1 ++ [a.1]).length ≤ 60
      have : ¬ 60 ≤ σ.1.length := fun q => hb (Or.inr (Or.inr q))
      rw [List.length_append]
      show σ.1.length + 1 ≤ 60
      omega
theorem len_num {σ : dS} {n : Int32} (h : σ.1.length ≤ 60) : (numF σ n).1.length ≤ 60 := by
  unfold numF
  split
  · exact h
  · split
    · exact h
    · exact h
theorem len_list {md : dM} {s : dS → dS} (hs : ∀ σ : dS, σ.1.length ≤ 60 → (s σ).1.length ≤ 60) : ∀ (n : Nat) (σ : dS), σ.1.length ≤ 60 → (listF s md n σ).1.length ≤ 60 := by
  intro n
  induction n with
  | zero => intro σ h; exact h
  | succ n ih =>
    intro σ h
    rw [listF]
    split
    · exact ih _ (hs _ (len_draw h))
    · exact len_draw h
theorem len_keep {s : dS → dS} {st : Nat} {b : Int32} (hs : ∀ σ : dS, σ.1.length ≤ 60 → (s σ).1.length ≤ 60) : ∀ (n : Nat) (σ : dS), σ.1.length ≤ 60 → (keepF s st b n σ).1.length ≤ 60 := by
  intro n
  induction n with
  | zero => intro σ h; exact h
  | succ n ih =>
    intro σ h
    have h2 : (s (cutF σ st)).1.length ≤ 60 := hs _ h
    rw [keepF]
    split
    · exact h
    · split
      · exact h2
      · exact ih _ h2
theorem len_give {gs : List gN} {md : dM} : ∀ (d i : Nat) (σ : dS), σ.1.length ≤ 60 → (giveF gs md d i σ).1.length ≤ 60 := by
  intro d
  induction d with
  | zero => intro i σ h; exact h
  | succ d ih =>
    intro i σ h
    cases hg : gs[i]? with
    | none => rw [gF_none hg]; exact h
    | some g =>
      obtain ⟨k, a, b, dp⟩ := g
      match k, hg with
      | 0, hg => rw [gF_0 hg]; exact len_num (len_draw h)
      | 1, hg => rw [gF_1 hg]; exact len_list (ih _) _ _ h
      | 2, hg =>
        rw [gF_2 hg]
        split
        · exact ih _ _ h
        · exact ih _ _ (ih _ _ h)
      | 3, hg =>
        rw [gF_3 hg]
        split
        · exact len_draw h
        · split
          · exact ih _ _ (len_draw h)
          · exact ih _ _ (len_draw h)
      | 4, hg => rw [gF_4 hg]; exact len_keep (ih _) _ _ h
      | k + 5, hg => rw [gF_5 hg]; exact ih _ _ h
/-- a run that was not ill, read again from its own choices -/
theorem give_idem {gs : List gN} {md : dM} {i : Nat} {x : Int64} {lm : Nat → Int32} {σ : dS} (e : giveF gs md 8 i ([], [], false, x, lm) = σ) (h : σ.2.2.1 = false) : rowC gs i σ.1 = (σ.1, σ.2.1, false) := by
  have hl : σ.1.length ≤ 60 := by rw [← e]; exact len_give 8 i _ (Nat.zero_le _)
  have q := give_fl (gs := gs) (md := md) (Z := σ.1) (z := 0) hl 8 i ([], [], false, x, lm) ([], [], false, 0, fun _ => 0) ⟨rfl, rfl, rfl, rfl⟩ (by rw [e]; exact ⟨h, [], (List.append_nil _).symm⟩)
  rw [e] at q
  unfold rowC runR
  rw [← q.1, ← q.2.1, q.2.2.2]
theorem row_idem {gs : List gN} {i : Nat} {l : List Int32} (h : (rowC gs i l).2.2 = false) : rowC gs i (rowC gs i l).1 = ((rowC gs i l).1, (rowC gs i l).2.1, false) := give_idem (gs := gs) (md := (0, l, 0)) (i := i) (x := 0) (lm := fun _ => 0) rfl h
theorem try_idem {gs : List gN} {i z : Nat} {x : Int64} (h : (tryC gs i z x).2.2.1 = false) : rowC gs i (tryC gs i z x).1 = ((tryC gs i z x).1, (tryC gs i z x).2.1, false) := give_idem (gs := gs) (md := (1, [], nI z)) (i := i) (x := x) (lm := fun _ => 0) rfl h
/-- a row that is read wholly, and gives a value -/
def fxR (gs : List gN) (i : Nat) (row : List Int32) : Prop := (rowC gs i row).1 = row ∧ (rowC gs i row).2.2 = false
theorem fxR.of {gs : List gN} {i : Nat} {row ns : List Int32} (h : rowC gs i row = (row, ns, false)) : fxR gs i row := by
  unfold fxR; rw [h]; exact ⟨rfl, rfl⟩
theorem fxR.nn {gs : List gN} {i : Nat} {row : List Int32} (h : fxR gs i row) : nnL row := by
  have := nn_row gs i row
  rw [h.1] at this; exact this
theorem vdC_ok {p : pN} {r : List Int32 × List Int32 × Bool} (h : ¬ vdC p r = 4) : r.2.2 = false := by
  cases hq : r.2.2 with
  | false => rfl
  | true => exact absurd (by unfold vdC; rw [if_pos hq]) h
theorem vdT_ok {p : pN} {r : List Int32 × List Int32 × Bool × Int64} (h : ¬ vdT p r = 4) : r.2.2.1 = false := by
  cases hq : r.2.2.1 with
  | false => rfl
  | true => exact absurd (by unfold vdT; rw [if_pos hq]) h
theorem isBd_4 {v : Int32} (h : isBd v = true) : ¬ v = 4 := fun e => by subst e; exact absurd h (by decide)
theorem rwT_ok {r : List Int32 × List Int32 × Bool} (h : r.2.2 = false) : rwT r = r.2.1 := by
  unfold rwT; rw [if_neg (by rw [h]; decide)]
theorem shr_eq {gs : List gN} {p : pN} {i : Nat} {v0 : Int32} (hv : ¬ v0 = 4) : ∀ (n w got : Nat) (row nu : List Int32), fxR gs i row → (shrF gs p i v0 n w got row (rowC gs i row).2.1).1 = (shrF gs p i v0 n w got row nu).1 ∧ (shrF gs p i v0 n w got row (rowC gs i row).2.1).2.1 = (shrF gs p i v0 n w got row nu).2.1 ∧ (shrF gs p i v0 n w got row (rowC gs i row).2.1).2.2.1 = (shrF gs p i v0 n w got row nu).2.2.1 ∧ (shrF gs p i v0 n w got row (rowC gs i row).2.1).2.2.2 = rwT (rowC gs i (shrF gs p i v0 n w got row nu).2.2.1) ∧ fxR gs i (shrF gs p i v0 n w got row nu).2.2.1 := by
  intro n
  induction n with
  | zero =>
    intro w got row nu h
    rw [shrF, shrF]
    exact ⟨rfl, rfl, rfl, (rwT_ok h.2).symm, h⟩
  | succ n ih =>
    intro w got row nu h
    rw [shrF, shrF]
    cases hs : stepF row w with
    | none => exact ⟨rfl, rfl, rfl, (rwT_ok h.2).symm, h⟩
    | some l =>
      dsimp only
      by_cases hc : vdC p (rowC gs i l) = v0
      · rw [if_pos hc, if_pos hc]
        have h1 := row_idem (gs := gs) (i := i) (l := l) (vdC_ok (p := p) (by rw [hc]; exact hv))
        have h2 := ih 0 (got + 1) (rowC gs i l).1 (rowC gs i l).2.1 (fxR.of h1)
        rw [h1] at h2
        exact h2
      · rw [if_neg hc, if_neg hc]
        exact ih _ _ _ _ h
/-- shrink: the class's answer and state are the reference's -/
theorem shk_eq {gs : List gN} {p : pN} {i tries : Nat} {v0 : Int32} {row nu : List Int32} (hv : ¬ v0 = 4) (h : fxR gs i row) : (shkS gs p i tries v0 row).1 = (shrF gs p i v0 tries 0 0 row nu).1 ∧ (shkS gs p i tries v0 row).2.1 = (shrF gs p i v0 tries 0 0 row nu).2.1 ∧ (shkS gs p i tries v0 row).2.2.1 = (shrF gs p i v0 tries 0 0 row nu).2.2.1 ∧ (shkS gs p i tries v0 row).2.2.2 = rwT (rowC gs i (shrF gs p i v0 tries 0 0 row nu).2.2.1) ∧ fxR gs i (shrF gs p i v0 tries 0 0 row nu).2.2.1 := by
  have q := shr_eq (gs := gs) (p := p) (i := i) hv tries 0 0 row nu h
  unfold shkS
  rw [h.1]
  exact q
