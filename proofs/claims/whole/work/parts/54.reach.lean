/-! THE REFERENCE's loop is the class's give -/
def goF (gs : List gN) (md : dM) : Nat → dS → List fR → dS × List fR
  | 0, σ, fr => (σ, fr)
  | n + 1, σ, fr => if fr = [] ∨ σ.2.2.1 = true then (σ, fr) else goF gs md n (turnF gs md σ fr).1 (turnF gs md σ fr).2
theorem goF_stop {gs : List gN} {md : dM} {σ : dS} {fr : List fR} (h : fr = [] ∨ σ.2.2.1 = true) : ∀ n, goF gs md n σ fr = (σ, fr)
  | 0 => rfl
  | n + 1 => by rw [goF, if_pos h]
theorem goF_add {gs : List gN} {md : dM} : ∀ (n m : Nat) (σ : dS) (fr : List fR), goF gs md (n + m) σ fr = goF gs md m (goF gs md n σ fr).1 (goF gs md n σ fr).2
  | 0, m, σ, fr => by rw [Nat.zero_add, goF]
  | n + 1, m, σ, fr => by
    by_cases h : fr = [] ∨ σ.2.2.1 = true
    · rw [goF_stop h, goF_stop h]; exact (goF_stop h m).symm
    · rw [show n + 1 + m = (n + m) + 1 by omega, goF, if_neg h, goF, if_neg h]; exact goF_add n m _ _
def reach (gs : List gN) (md : dM) (σ : dS) (fr : List fR) (τ : dS) (fr' : List fR) : Prop := ∃ n, goF gs md n σ fr = (τ, fr')
theorem reach.rf {gs : List gN} {md : dM} {σ : dS} {fr : List fR} : reach gs md σ fr σ fr := ⟨0, rfl⟩
theorem reach.tr {gs : List gN} {md : dM} {σ τ υ : dS} {f1 f2 f3 : List fR} (h : reach gs md σ f1 τ f2) (h' : reach gs md τ f2 υ f3) : reach gs md σ f1 υ f3 := by
  obtain ⟨n, hn⟩ := h
  obtain ⟨m, hm⟩ := h'
  exact ⟨n + m, by rw [goF_add, hn]; exact hm⟩
theorem reach.st {gs : List gN} {md : dM} {σ τ : dS} {f : fR} {r fr' : List fR} (hil : σ.2.2.1 = false) (ht : turnF gs md σ (f :: r) = (τ, fr')) : reach gs md σ (f :: r) τ fr' := ⟨1, by
  rw [goF, if_neg (fun e => e.elim (fun e => by cases e) (fun e => by rw [hil] at e; cases e)), goF, ht]⟩
/-- the run of a stretch ends as T, or is ill as T is -/
def fin (gs : List gN) (md : dM) (σ : dS) (fr : List fR) (T : dS) (r : List fR) : Prop := (T.2.2.1 = false → reach gs md σ fr T r) ∧ (T.2.2.1 = true → ∃ τ fr', reach gs md σ fr τ fr' ∧ τ.1 = T.1 ∧ τ.2.2 = T.2.2)
theorem fin.done {gs : List gN} {md : dM} {T : dS} {r : List fR} : fin gs md T r T r := ⟨fun _ => reach.rf, fun _ => ⟨T, r, reach.rf, rfl, rfl⟩⟩
theorem fin.ill {gs : List gN} {md : dM} {σ T : dS} {fr r : List fR} (h : T.2.2.1 = true) (h1 : σ.1 = T.1) (h2 : σ.2.2 = T.2.2) : fin gs md σ fr T r := ⟨fun e => (by rw [h] at e; cases e), fun _ => ⟨σ, fr, reach.rf, h1, h2⟩⟩
theorem fin.of {gs : List gN} {md : dM} {σ τ T : dS} {fr fr' r : List fR} (h : reach gs md σ fr τ fr') (h' : fin gs md τ fr' T r) : fin gs md σ fr T r :=
  ⟨fun e => h.tr (h'.1 e), fun e => by obtain ⟨υ, f3, a, b, c⟩ := h'.2 e; exact ⟨υ, f3, h.tr a, b, c⟩⟩
theorem fin.bind {gs : List gN} {md : dM} {σ T1 T : dS} {fr r' r : List fR} (h : fin gs md σ fr T1 r') (h1 : T1.2.2.1 = false → fin gs md T1 r' T r) (h2 : T1.2.2.1 = true → T1.1 = T.1 ∧ T1.2.2 = T.2.2) : fin gs md σ fr T r := by
  cases e : T1.2.2.1 with
  | false => exact fin.of (h.1 e) (h1 e)
  | true =>
    obtain ⟨b1, b2⟩ := h2 e
    obtain ⟨υ, f3, a, b, c⟩ := h.2 e
    have e2 : T.2.2.1 = true := by rw [← b2]; exact e
    exact ⟨fun e3 => (by rw [e2] at e3; cases e3), fun _ => ⟨υ, f3, a, b.trans b1, c.trans b2⟩⟩
theorem draw_01 {md : dM} {σ : dS} {sp : Int32} (h : ¬ (drawF md σ 1 sp).1 = 0) : (drawF md σ 1 sp).1 = 1 ∧ (drawF md σ 1 sp).2.2.2.1 = false := by
  revert h
  unfold drawF
  generalize pickF md.1 md.2.1 (nI σ.1.length) sp σ.2.2.2.1 = p
  intro h
  by_cases h1 : σ.2.2.1 = true
  · rw [if_pos h1] at h; exact absurd rfl h
  · rw [if_neg h1] at h ⊢
    by_cases h2 : p.1 < 0 ∨ 1 < p.1 ∨ 60 ≤ σ.1.length
    · rw [if_pos h2] at h; exact absurd rfl h
    · rw [if_neg h2] at h ⊢
      refine ⟨?_, rfl⟩
      obtain ⟨j, hj, e⟩ := nI_of (x := p.1) (fun e => h2 (Or.inl e))
      have h3 : ¬ p.1 = 0 := h
      have h4 : ¬ 1 < p.1 := fun e => h2 (Or.inr (Or.inl e))
      show p.1 = 1
      rw [e] at h3 h4 ⊢
      have h5 : j ≠ 0 := fun e => h3 (by rw [e]; rfl)
      have h6 : ¬ 1 < j := fun e => h4 (nI_lt (a := 1) e hj)
      rw [show j = 1 by omega]; rfl
theorem listF_ill {s : dS → dS} {md : dM} {T : dS} (h : T.2.2.1 = true) : ∀ m, listF s md m T = T
  | 0 => rfl
  | m + 1 => by
    obtain ⟨cs, ns, il, x, lm⟩ := T
    have e : il = true := h
    subst e
    rw [listF, drawF_ill, if_neg (show ¬ (0 : Int32) = 1 by decide)]
theorem keepF_ill {s : dS → dS} {st : Nat} {par : Int32} {T : dS} (h : T.2.2.1 = true) : ∀ m, keepF s st par m T = illF T
  | 0 => rfl
  | m + 1 => by rw [keepF, if_pos h]
theorem illF_eq {T : dS} (h : T.2.2.1 = true) : T.2.2 = (illF T).2.2 := by
  obtain ⟨cs, ns, il, x, lm⟩ := T
  have e : il = true := h
  subst e
  rfl
theorem par_add64 (x y : Int64) : (x + y).toBitVec.getLsbD 0 = (x.toBitVec.getLsbD 0 ^^ y.toBitVec.getLsbD 0) := by
  rw [Int64.toBitVec_add, BitVec.getLsbD_add (by decide)]
  simp [BitVec.carry_zero]
theorem par_add32 (x y : Int32) : (x + y).toBitVec.getLsbD 0 = (x.toBitVec.getLsbD 0 ^^ y.toBitVec.getLsbD 0) := by
  rw [Int32.toBitVec_add, BitVec.getLsbD_add (by decide)]
  simp [BitVec.carry_zero]
theorem par_ext (x : Int32) : x.toInt64.toBitVec.getLsbD 0 = x.toBitVec.getLsbD 0 := by
  rw [Int32.toBitVec_toInt64, BitVec.getLsbD_signExtend]
  simp
theorem par_sum : ∀ (l : List Int32) (s : Int64) (n : Int32), s.toBitVec.getLsbD 0 = n.toBitVec.getLsbD 0 → (sumF s l).toBitVec.getLsbD 0 = (sumI n l).toBitVec.getLsbD 0
  | [], s, n, h => h
  | x :: l, s, n, h => par_sum l (s + x.toInt64) (n + x) (by rw [par_add64, par_add32, par_ext, h])
theorem and1_64 (x : Int64) : x &&& 1 = if x.toBitVec.getLsbD 0 = true then 1 else 0 := by
  apply Int64.toBitVec_inj.mp
  rw [Int64.toBitVec_and]
  rw [show (1 : Int64).toBitVec = 1#64 from rfl, BitVec.and_one_eq_setWidth_ofBool_getLsbD]
  cases x.toBitVec.getLsbD 0 <;> rfl
theorem and1_32 (x : Int32) : x &&& 1 = if x.toBitVec.getLsbD 0 = true then 1 else 0 := by
  apply Int32.toBitVec_inj.mp
  rw [Int32.toBitVec_and]
  rw [show (1 : Int32).toBitVec = 1#32 from rfl, BitVec.and_one_eq_setWidth_ofBool_getLsbD]
  cases x.toBitVec.getLsbD 0 <;> rfl
theorem par_iff {l : List Int32} {par : Int32} (hp : par = 0 ∨ par = 1) : (sumF 0 l &&& 1 = par.toInt64) ↔ (sumI 0 l &&& 1 = par) := by
  rw [and1_64, and1_32, par_sum l 0 0 rfl]
  rcases hp with rfl | rfl
  · cases (sumI 0 l).toBitVec.getLsbD 0 <;> decide
  · cases (sumI 0 l).toBitVec.getLsbD 0 <;> decide
theorem par_iff_if {l : List Int32} {par : Int32} (hp : par = 0 ∨ par = 1) {α : Type} {x y : α} : (if sumF 0 l &&& 1 = par.toInt64 then x else y) = (if sumI 0 l &&& 1 = par then x else y) := by
  by_cases h : sumI 0 l &&& 1 = par
  · rw [if_pos h, if_pos ((par_iff hp).mpr h)]
  · rw [if_neg h, if_neg (fun e => h ((par_iff hp).mp e))]
theorem rch {gs : List gN} {md : dM} (hw : wfG gs) : ∀ (d i : Nat) (g : gN) (σ : dS) (r : List fR), gs[i]? = some g → g.2.2.2 ≤ d → σ.2.2.1 = false → fin gs md σ (nwF i σ :: r) (giveF gs md d i σ) r := by
  intro d
  induction d with
  | zero =>
    intro i g σ r hg hd hil
    obtain ⟨k, p, q, dp⟩ := g
    have h1 := (hw.2 i k p q dp hg).2.1
    have h2 : dp ≤ 0 := hd
    omega
  | succ d ih =>
    intro i g σ r hg hd hil
    obtain ⟨k, p, q, dp⟩ := g
    have hd2 : dp ≤ d + 1 := hd
    obtain ⟨w1, w2, w3, w4, w5, w6, w7, w8⟩ := hw.2 i k p q dp hg
    match k, w1, w4, w5, w6, w7, w8, hg with
    | 0, w1, w4, w5, w6, w7, w8, hg =>
      rw [gF_0 hg]
      exact fin.of (reach.st hil (tF_0 hg)) fin.done
    | 1, w1, w4, w5, w6, w7, w8, hg =>
      rw [gF_1 hg]
      obtain ⟨ja, Ga, rfl, hja, hGa, hda⟩ := w5 (by decide)
      obtain ⟨b, hb, rfl⟩ := w7 rfl
      rw [nI_clamp (show ja < 2 ^ 31 by omega), nI_clamp (show b < 2 ^ 31 by omega)]
      have hl : ∀ (m k : Nat) (s : Int32) (σ : dS) (a : Nat), k + m = b → σ.2.2.1 = false → fin gs md σ ((i, s, nI k, a) :: r) (listF (giveF gs md d ja) md m σ) r := by
        intro m
        induction m with
        | zero =>
          intro k s σ a hk hil
          have ht := tF_1 (md := md) (σ := σ) (s := s) (c := nI k) (a := a) (r := r) hg
          rw [if_pos (show nI k = nI b by rw [show k = b by omega])] at ht
          exact fin.of (reach.st hil ht) fin.done
        | succ m im =>
          intro k s σ a hk hil
          have ht := tF_1 (md := md) (σ := σ) (s := s) (c := nI k) (a := a) (r := r) hg
          rw [if_neg (fun e => by have := (nI_eq (by omega) (by omega)).mp e; omega)] at ht
          rw [listF]
          by_cases h0 : (drawF md σ 1 2).1 = 0
          · rw [if_pos h0] at ht
            rw [if_neg (by rw [h0]; decide)]
            exact fin.of (reach.st hil ht) fin.done
          · rw [if_neg h0, nI_clamp (show ja < 2 ^ 31 by omega), nI_1] at ht
            obtain ⟨h1, h2⟩ := draw_01 h0
            rw [if_pos h1]
            refine fin.of (reach.st hil ht) (fin.bind (ih ja Ga _ _ hGa (by omega) h2) (fun e => im (k + 1) _ _ _ (by omega) e) (fun e => ?_))
            rw [listF_ill e]
            exact ⟨rfl, rfl⟩
      exact hl b 0 0 σ _ (by omega) hil
    | 2, w1, w4, w5, w6, w7, w8, hg =>
      rw [gF_2 hg]
      obtain ⟨ja, Ga, rfl, hja, hGa, hda⟩ := w5 (by decide)
      obtain ⟨jb, Gb, rfl, hjb, hGb, hdb⟩ := w6 (by decide)
      rw [nI_clamp (show ja < 2 ^ 31 by omega), nI_clamp (show jb < 2 ^ 31 by omega)]
      have ht := tF_2 (md := md) (σ := σ) (s := 0) (c := 0) (a := σ.2.1.length) (r := r) hg
      rw [if_pos (by decide), if_pos (by decide), nI_clamp (show ja < 2 ^ 31 by omega)] at ht
      refine fin.of (reach.st hil ht) (fin.bind (ih ja Ga _ _ hGa (by omega) hil) (fun e => ?_) (fun e => ?_))
      · rw [if_neg (by rw [e]; decide)]
        generalize giveF gs md d ja σ = T1 at e ⊢
        have ht := tF_2 (md := md) (σ := T1) (s := 0 + 1) (c := 0) (a := σ.2.1.length) (r := r) hg
        rw [if_pos (by decide), if_neg (by decide), nI_clamp (show jb < 2 ^ 31 by omega)] at ht
        refine fin.of (reach.st e ht) (fin.bind (ih jb Gb _ _ hGb (by omega) e) (fun e => ?_) (fun e => ⟨rfl, rfl⟩))
        generalize giveF gs md d jb T1 = T2 at e ⊢
        have ht := tF_2 (md := md) (σ := T2) (s := 0 + 1 + 1) (c := 0) (a := σ.2.1.length) (r := r) hg
        rw [if_neg (by decide)] at ht
        exact fin.of (reach.st e ht) fin.done
      · rw [if_pos e]; exact ⟨rfl, rfl⟩
    | 3, w1, w4, w5, w6, w7, w8, hg =>
      rw [gF_3 hg]
      obtain ⟨ja, Ga, rfl, hja, hGa, hda⟩ := w5 (by decide)
      obtain ⟨jb, Gb, rfl, hjb, hGb, hdb⟩ := w6 (by decide)
      rw [nI_clamp (show ja < 2 ^ 31 by omega), nI_clamp (show jb < 2 ^ 31 by omega)]
      have ht := tF_3 (md := md) (σ := σ) (s := 0) (c := 0) (a := σ.2.1.length) (r := r) hg
      rw [if_pos (by decide)] at ht
      refine fin.of (reach.st hil ht) ?_
      generalize drawF md σ 1 2 = D
      have pop : ∀ T : dS, T.2.2.1 = false → fin gs md T ((i, 0 + 1, 0, σ.2.1.length) :: r) T r := fun T e => by
        have ht := tF_3 (md := md) (σ := T) (s := 0 + 1) (c := 0) (a := σ.2.1.length) (r := r) hg
        rw [if_neg (by decide)] at ht
        exact fin.of (reach.st e ht) fin.done
      cases e : D.2.2.2.1 with
      | true => rw [if_pos rfl]; exact fin.ill e rfl rfl
      | false =>
        rw [if_neg (show ¬ (false = true) by decide)]
        by_cases h0 : D.1 = 0
        · rw [if_pos h0, if_pos h0, nI_clamp (show ja < 2 ^ 31 by omega)]
          exact fin.bind (ih ja Ga _ _ hGa (by omega) e) (pop _) (fun e => ⟨rfl, rfl⟩)
        · rw [if_neg h0, if_neg h0, nI_clamp (show jb < 2 ^ 31 by omega)]
          exact fin.bind (ih jb Gb _ _ hGb (by omega) e) (pop _) (fun e => ⟨rfl, rfl⟩)
    | 4, w1, w4, w5, w6, w7, w8, hg =>
      rw [gF_4 hg]
      obtain ⟨ja, Ga, rfl, hja, hGa, hda⟩ := w5 (by decide)
      rw [nI_clamp (show ja < 2 ^ 31 by omega)]
      have hq := w8 rfl
      have hl : ∀ (m s : Nat) (σ : dS) (a : Nat), s + m = 3 → σ.2.2.1 = false → ¬ (1 < nI s + 1 ∧ sumI 0 (σ.2.1.drop a) &&& 1 = q) → fin gs md σ ((i, nI s, 0, a) :: r) (keepF (giveF gs md d ja) a q m σ) r := by
        intro m
        induction m with
        | zero =>
          intro s σ a hs hil hne
          have ht := tF_4 (md := md) (σ := σ) (s := nI s) (c := 0) (a := a) (r := r) hg
          rw [if_neg hne, if_pos (by rw [show s = 3 by omega]; rfl)] at ht
          exact fin.of (reach.st hil ht) (fin.ill rfl rfl rfl)
        | succ m im =>
          intro s σ a hs hil hne
          have ht := tF_4 (md := md) (σ := σ) (s := nI s) (c := 0) (a := a) (r := r) hg
          rw [if_neg hne, if_neg (fun e => by rw [nI_1] at e; have := (nI_eq (b := 4) (by omega) (by decide)).mp e; omega), nI_clamp (show ja < 2 ^ 31 by omega)] at ht
          refine fin.of (reach.st hil ht) (fin.bind (ih ja Ga _ _ hGa (by omega) hil) (fun e => ?_) (fun e => ?_))
          · rw [keepF, if_neg (by rw [hil]; decide)]
            generalize giveF gs md d ja (cutF σ a) = T1 at e ⊢
            rw [par_iff_if hq]
            have ht := tF_4 (md := md) (σ := T1) (s := nI s + 1) (c := 0) (a := a) (r := r) hg
            have h1 : (1 : Int32) < nI s + 1 + 1 := by rw [nI_1, nI_1]; exact nI_lt (a := 1) (by omega) (by omega)
            by_cases hp : sumI 0 (T1.2.1.drop a) &&& 1 = q
            · rw [if_pos ⟨h1, hp⟩] at ht
              rw [if_pos hp]
              exact fin.of (reach.st e ht) fin.done
            · rw [if_neg hp]
              have := im (s + 1) T1 a (by omega) e (fun e => hp e.2)
              rw [← nI_1] at this
              exact this
          · rw [keepF, if_neg (by rw [hil]; decide)]
            generalize giveF gs md d ja (cutF σ a) = T1 at e ⊢
            split
            · exact ⟨rfl, rfl⟩
            · rw [keepF_ill e]; exact ⟨rfl, illF_eq e⟩
      exact hl 3 0 σ _ (by omega) hil (fun e => absurd e.1 (by decide))
    | 5, w1, w4, w5, w6, w7, w8, hg =>
      rw [gF_5 hg]
      obtain ⟨ja, Ga, rfl, hja, hGa, hda⟩ := w5 (by decide)
      rw [nI_clamp (show ja < 2 ^ 31 by omega)]
      have ht := tF_5 (md := md) (σ := σ) (s := 0) (c := 0) (a := σ.2.1.length) (r := r) hg
      rw [if_pos (by decide), nI_clamp (show ja < 2 ^ 31 by omega)] at ht
      refine fin.of (reach.st hil ht) (fin.bind (ih ja Ga _ _ hGa (by omega) hil) (fun e => ?_) (fun e => ⟨rfl, rfl⟩))
      generalize giveF gs md d ja σ = T1 at e ⊢
      have ht := tF_5 (md := md) (σ := T1) (s := 0 + 1) (c := 0) (a := σ.2.1.length) (r := r) hg
      rw [if_neg (by decide), if_pos (by decide)] at ht
      exact fin.of (reach.st e ht) fin.done
    | k + 6, w1, _, _, _, _, _, _ => exact absurd w1 (by omega)
/-! the invariant of the loop -/
theorem draw_ns {md : dM} {σ : dS} {m sp : Int32} : (drawF md σ m sp).2.2.1 = σ.2.1 := by
  unfold drawF
  split
  · rfl
  · split <;> rfl
theorem num_le {σ : dS} {n : Int32} : σ.2.1.length ≤ (numF σ n).2.1.length ∧ (numF σ n).1 = σ.1 := by
  unfold numF
  split
  · exact ⟨Nat.le_refl _, rfl⟩
  · split
    · exact ⟨by show _ ≤ (σ.2.1 ++ [n]).length; rw [List.length_append]; omega, rfl⟩
    · exact ⟨Nat.le_refl _, rfl⟩
theorem draw_okS {md : dM} {σ : dS} {m sp : Int32} (h : okS md σ) : okS md (drawF md σ m sp).2 := by
  intro e
  unfold drawF
  split
  · exact h e
  · split
    · exact h e
    · rename_i h1 h2
      have h3 := h e
      rw [show pickF md.1 md.2.1 (nI σ.1.length) sp σ.2.2.2.1 = (atI md.2.1 (nI σ.1.length) (-1), σ.2.2.2.1) by rw [e]; rfl] at h2 ⊢
      show (σ.1 ++ [_]).length ≤ md.2.1.length
      rw [List.length_append]
      show σ.1.length + 1 ≤ _
      rcases Nat.lt_or_ge σ.1.length md.2.1.length with q | q
      · omega
      · exact absurd (Or.inl (by rw [atI_ge (nI_le q (by have : ¬ 60 ≤ σ.1.length := fun e => h2 (Or.inr (Or.inr e)); omega))]; exact (show (-1 : Int32) < 0 by decide))) h2
theorem turn_ok {gs : List gN} {md : dM} (hw : wfG gs) {σ : dS} : ∀ {fr : List fR}, okF gs σ.2.1.length fr → okS md σ → okF gs (turnF gs md σ fr).1.2.1.length (turnF gs md σ fr).2 ∧ okS md (turnF gs md σ fr).1
  | [], h, hs => ⟨trivial, hs⟩
  | (g, s, c, a) :: r, h, hs => by
    obtain ⟨⟨⟨k, p, q, dp⟩, hg, hdl⟩, hal, hr⟩ := h
    have hdl2 : dp + r.length ≤ 8 := hdl
    obtain ⟨w1, w2, w3, w4, w5, w6, w7, w8⟩ := hw.2 g k p q dp hg
    have hr2 : okF gs σ.2.1.length r := okF_mono hal hr
    have nw : ∀ (x : Int32) (τ : dS) (s' c' : Int32), gP gs dp x → a ≤ τ.2.1.length → okF gs τ.2.1.length (nwF x.toNatClampNeg τ :: (g, s', c', a) :: r) := fun x τ s' c' hx ha => by
      obtain ⟨ja, Ga, rfl, hja, hGa, hda⟩ := hx
      rw [nI_clamp (show ja < 2 ^ 31 by omega)]
      exact ⟨⟨Ga, hGa, by show _ + (r.length + 1) ≤ 8; omega⟩, Nat.le_refl _, ⟨_, hg, hdl⟩, ha, hr⟩
    match k, w1, w4, w5, w6, w7, w8, hg with
    | 0, w1, w4, w5, w6, w7, w8, hg =>
      rw [tF_0 hg]
      refine ⟨okF_mono (Nat.le_trans hal (by rw [← draw_ns (md := md) (σ := σ) (m := q - p) (sp := spanF md.2.2 (q - p))]; exact num_le.1)) hr, fun e => ?_⟩
      rw [num_le.2]; exact draw_okS hs e
    | 1, w1, w4, w5, w6, w7, w8, hg =>
      rw [tF_1 hg]
      split
      · exact ⟨hr2, hs⟩
      · split
        · exact ⟨by rw [draw_ns]; exact hr2, draw_okS hs⟩
        · exact ⟨nw p _ _ _ (w5 (by decide)) (by rw [draw_ns]; exact hal), draw_okS hs⟩
    | 2, w1, w4, w5, w6, w7, w8, hg =>
      rw [tF_2 hg]
      split
      · refine ⟨?_, hs⟩
        split
        · exact nw p _ _ _ (w5 (by decide)) hal
        · exact nw q _ _ _ (w6 (by decide)) hal
      · exact ⟨hr2, hs⟩
    | 3, w1, w4, w5, w6, w7, w8, hg =>
      rw [tF_3 hg]
      split
      · refine ⟨?_, draw_okS hs⟩
        split
        · exact nw p _ _ _ (w5 (by decide)) (by rw [draw_ns]; exact hal)
        · exact nw q _ _ _ (w6 (by decide)) (by rw [draw_ns]; exact hal)
      · exact ⟨hr2, hs⟩
    | 4, w1, w4, w5, w6, w7, w8, hg =>
      have hl : (σ.2.1.take a).length = a := by rw [List.length_take]; omega
      rw [tF_4 hg]
      split
      · exact ⟨hr2, hs⟩
      · split
        · exact ⟨⟨⟨_, hg, hdl⟩, by show a ≤ (σ.2.1.take a).length; omega, hr⟩, hs⟩
        · exact ⟨nw p (cutF σ a) _ _ (w5 (by decide)) (by show a ≤ (σ.2.1.take a).length; omega), hs⟩
    | 5, w1, w4, w5, w6, w7, w8, hg =>
      rw [tF_5 hg]
      split
      · exact ⟨nw p _ _ _ (w5 (by decide)) hal, hs⟩
      · refine ⟨?_, ?_⟩
        · show okF gs (if s + 1 = 2 then raiseF σ a q else σ).2.1.length r
          split
          · show okF gs (raiseL σ.2.1 a q).length r
            rw [raiseL_len]; exact hr2
          · exact hr2
        · show okS md (if s + 1 = 2 then raiseF σ a q else σ)
          split
          · exact hs
          · exact hs
    | k + 6, w1, _, _, _, _, _, _ => exact absurd w1 (by omega)
