/-! THE STATES GROW; the invariant of the calls -/
theorem gP_ix {gs : List gN} {dp : Nat} {a : Int32} (h : gP gs dp a) : a.toNatClampNeg < gs.length := by
  obtain ⟨ja, g, rfl, h2, h3, -⟩ := h
  rw [nI_clamp (by omega)]
  exact (List.getElem?_eq_some_iff.mp h3).1
theorem give_grow {gs : List gN} {g : gN} {md : dM} (hw : wfG gs) : ∀ (d i : Nat) (σ : dS), i < gs.length → giveF (gs ++ [g]) md d i σ = giveF gs md d i σ := by
  intro d
  induction d with
  | zero => intro i σ _; rfl
  | succ d ih =>
    intro i σ hi
    have e : (gs ++ [g])[i]? = gs[i]? := List.getElem?_append_left hi
    cases hg : gs[i]? with
    | none => exact absurd hi (Nat.not_lt.mpr (List.getElem?_eq_none_iff.mp hg))
    | some q =>
      obtain ⟨k, a, b, dp⟩ := q
      have hg' := e.trans hg
      obtain ⟨-, -, -, -, wa, wb, -, -⟩ := hw.2 i k a b dp hg
      match k, hg, hg', wa, wb with
      | 0, hg, hg', wa, wb => rw [gF_0 hg, gF_0 hg']
      | 1, hg, hg', wa, wb =>
        have ea : giveF (gs ++ [g]) md d a.toNatClampNeg = giveF gs md d a.toNatClampNeg := funext (fun σ => ih _ σ (gP_ix (wa (by decide))))
        rw [gF_1 hg, gF_1 hg', ea]
      | 2, hg, hg', wa, wb =>
        have ea : giveF (gs ++ [g]) md d a.toNatClampNeg = giveF gs md d a.toNatClampNeg := funext (fun σ => ih _ σ (gP_ix (wa (by decide))))
        have eb : giveF (gs ++ [g]) md d b.toNatClampNeg = giveF gs md d b.toNatClampNeg := funext (fun σ => ih _ σ (gP_ix (wb (Or.inl rfl))))
        rw [gF_2 hg, gF_2 hg', ea, eb]
      | 3, hg, hg', wa, wb =>
        have ea : giveF (gs ++ [g]) md d a.toNatClampNeg = giveF gs md d a.toNatClampNeg := funext (fun σ => ih _ σ (gP_ix (wa (by decide))))
        have eb : giveF (gs ++ [g]) md d b.toNatClampNeg = giveF gs md d b.toNatClampNeg := funext (fun σ => ih _ σ (gP_ix (wb (Or.inr rfl))))
        rw [gF_3 hg, gF_3 hg', ea, eb]
      | 4, hg, hg', wa, wb =>
        have ea : giveF (gs ++ [g]) md d a.toNatClampNeg = giveF gs md d a.toNatClampNeg := funext (fun σ => ih _ σ (gP_ix (wa (by decide))))
        rw [gF_4 hg, gF_4 hg', ea]
      | k + 5, hg, hg', wa, wb =>
        have ea : giveF (gs ++ [g]) md d a.toNatClampNeg = giveF gs md d a.toNatClampNeg := funext (fun σ => ih _ σ (gP_ix (wa (by omega))))
        rw [gF_5 hg, gF_5 hg', ea]
theorem row_grow {gs : List gN} {g : gN} {i : Nat} {ys : List Int32} (hw : wfG gs) (hi : i < gs.length) : rowC (gs ++ [g]) i ys = rowC gs i ys := by
  unfold rowC runR
  rw [give_grow hw 8 i _ hi]
theorem gP.grow {gs : List gN} {g : gN} {dp : Nat} {a : Int32} (h : gP gs dp a) : gP (gs ++ [g]) dp a := by
  obtain ⟨ja, q, h1, h2, h3, h4⟩ := h
  exact ⟨ja, q, h1, h2, by rw [List.getElem?_append_left (List.getElem?_eq_some_iff.mp h3).1]; exact h3, h4⟩
theorem isNr_in {v : Int32} (h : isNr v = true) : -1000 ≤ v.toInt ∧ v.toInt ≤ 1000 := by
  unfold isNr at h
  rw [Bool.and_eq_true, decide_eq_true_eq, decide_eq_true_eq] at h
  obtain ⟨h1, h2⟩ := h
  rw [Int32.lt_iff_toInt_lt] at h1 h2
  have e1 : (-1000 : Int32).toInt = -1000 := by decide
  have e2 : (1000 : Int32).toInt = 1000 := by decide
  rw [e1] at h1; rw [e2] at h2
  omega
theorem gP.of {gs : List gN} {a : Int32} {dp : Nat} {g : gN} (hl : gs.length ≤ 20) (h1 : ¬ (a < 0 ∨ nI gs.length ≤ a)) (h2 : gs[a.toNatClampNeg]? = some g) (h3 : g.2.2.2 < dp) : gP gs dp a := by
  obtain ⟨j, h4, rfl⟩ := nI_of (x := a) (fun q => h1 (Or.inl q))
  rw [nI_clamp h4] at h2
  have := (List.getElem?_eq_some_iff.mp h2).1
  exact ⟨j, g, rfl, by omega, h2, h3⟩
theorem mkG_ok {gs : List gN} {kd a b : Int32} {k : Nat} {x y : Int32} {dp : Nat} (hl : gs.length ≤ 20) (h : mkG gs kd a b = some (k, x, y, dp)) : k ≤ 5 ∧ 1 ≤ dp ∧ (k = 0 → -1000 ≤ x.toInt ∧ x.toInt ≤ y.toInt ∧ y.toInt ≤ 1000) ∧ (k ≠ 0 → gP gs dp x) ∧ (k = 2 ∨ k = 3 → gP gs dp y) ∧ (k = 1 → ∃ m, m ≤ 9 ∧ y = nI m) ∧ (k = 4 → y = 0 ∨ y = 1) := by
  unfold mkG at h
  by_cases k0 : kd = 0
  · rw [if_pos k0] at h
    by_cases hc : isNr a = true ∧ isNr b = true ∧ a ≤ b
    · rw [if_pos hc] at h
      cases h
      obtain ⟨c1, c2, c3⟩ := hc
      have d1 := isNr_in c1
      have d2 := isNr_in c2
      rw [Int32.le_iff_toInt_le] at c3
      exact ⟨by omega, by omega, fun _ => ⟨d1.1, c3, d2.2⟩, fun q => absurd rfl q, fun q => by omega, fun q => by omega, fun q => by omega⟩
    · rw [if_neg hc] at h; cases h
  · rw [if_neg k0] at h
    by_cases ha : a < 0 ∨ nI gs.length ≤ a
    · rw [if_pos ha] at h; cases h
    · rw [if_neg ha] at h
      cases hga : gs[a.toNatClampNeg]? with
      | none => rw [hga] at h; cases h
      | some ga =>
        rw [hga] at h
        dsimp only at h
        by_cases k1 : kd = 1
        · rw [if_pos k1] at h
          by_cases hc : ¬ b < 0 ∧ b ≤ 9
          · rw [if_pos hc] at h
            cases h
            exact ⟨by omega, by omega, fun q => by omega, fun _ => gP.of hl ha hga (by omega), fun q => by omega, fun _ => nI_of2 (M := 9) (n := 9) (by decide) hc.1 hc.2, fun q => by omega⟩
          · rw [if_neg hc] at h; cases h
        · rw [if_neg k1] at h
          by_cases k4 : kd = 4
          · rw [if_pos k4] at h
            by_cases hc : b = 0 ∨ b = 1
            · rw [if_pos hc] at h
              cases h
              exact ⟨by omega, by omega, fun q => by omega, fun _ => gP.of hl ha hga (by omega), fun q => by omega, fun q => by omega, fun _ => hc⟩
            · rw [if_neg hc] at h; cases h
          · rw [if_neg k4] at h
            by_cases k5 : kd = 5
            · rw [if_pos k5] at h
              by_cases hc : isNr b = true
              · rw [if_pos hc] at h
                cases h
                exact ⟨by omega, by omega, fun q => by omega, fun _ => gP.of hl ha hga (by omega), fun q => by omega, fun q => by omega, fun q => by omega⟩
              · rw [if_neg hc] at h; cases h
            · rw [if_neg k5] at h
              by_cases hb : b < 0 ∨ nI gs.length ≤ b
              · rw [if_pos hb] at h; cases h
              · rw [if_neg hb] at h
                cases hgb : gs[b.toNatClampNeg]? with
                | none => rw [hgb] at h; cases h
                | some gb =>
                  rw [hgb] at h
                  dsimp only at h
                  by_cases k2 : kd = 2
                  · rw [if_pos k2] at h
                    cases h
                    exact ⟨by omega, by omega, fun q => by omega, fun _ => gP.of hl ha hga (by omega), fun _ => gP.of hl hb hgb (by omega), fun q => by omega, fun q => by omega⟩
                  · rw [if_neg k2] at h
                    by_cases k3 : kd = 3
                    · rw [if_pos k3] at h
                      cases h
                      exact ⟨by omega, by omega, fun q => by omega, fun _ => gP.of hl ha hga (by omega), fun _ => gP.of hl hb hgb (by omega), fun q => by omega, fun q => by omega⟩
                    · rw [if_neg k3] at h; cases h
/-- generator: refused, or one more -/
theorem genS_or {gs : List gN} {kd a b : Int32} (hw : wfG gs) : (genS gs kd a b).2 = gs ∨ ∃ g, (genS gs kd a b).2 = gs ++ [g] ∧ wfG (gs ++ [g]) := by
  unfold genS
  by_cases h20 : 20 ≤ gs.length
  · rw [if_pos h20]; exact Or.inl rfl
  · rw [if_neg h20]
    cases hm : mkG gs kd a b with
    | none => exact Or.inl rfl
    | some g =>
      obtain ⟨k, x, y, dp⟩ := g
      dsimp only
      by_cases h8 : 8 < dp
      · rw [if_pos h8]; exact Or.inl rfl
      · rw [if_neg h8]
        refine Or.inr ⟨(k, x, y, dp), rfl, by rw [List.length_append]; show gs.length + 1 ≤ 20; omega, fun i k' a' b' dp' hg => ?_⟩
        rcases Nat.lt_or_ge i gs.length with q | q
        · rw [List.getElem?_append_left q] at hg
          obtain ⟨w1, w2, w3, w4, w5, w6, w7, w8⟩ := hw.2 i k' a' b' dp' hg
          exact ⟨w1, w2, w3, w4, fun z => (w5 z).grow, fun z => (w6 z).grow, w7, w8⟩
        · rw [List.getElem?_append_right q] at hg
          have hz : i - gs.length < 1 := (List.getElem?_eq_some_iff.mp hg).1
          have e : i - gs.length = 0 := by omega
          rw [e] at hg
          replace hg : some ((k, x, y, dp) : gN) = some (k', a', b', dp') := hg
          cases hg
          obtain ⟨w1, w2, w4, w5, w6, w7, w8⟩ := mkG_ok hw.1 hm
          exact ⟨w1, w2, by omega, w4, fun z => (w5 z).grow, fun z => (w6 z).grow, w7, w8⟩
/-- property: refused, or one more -/
theorem prS_or {ps : List pN} {kd k c : Int32} : (prS ps kd k c).2 = ps ∨ ∃ p, (prS ps kd k c).2 = ps ++ [p] ∧ ps.length < 10 := by
  unfold prS
  by_cases h : 10 ≤ ps.length ∨ kd < 0 ∨ 4 < kd ∨ c < 0 ∨ 10 < c
  · rw [if_pos h]; exact Or.inl rfl
  · rw [if_neg h]; exact Or.inr ⟨(kd, k, c), rfl, Nat.lt_of_not_le (fun q => h (Or.inl q))⟩
/-- the kept rows -/
def kkN (k : kN) : Nat := k.1.toNatClampNeg * 10 + k.2.1.toNatClampNeg
def ivK1 (gs : List gN) (ps : List pN) (k : kN) : Prop := ∃ i j g p, k.1 = nI i ∧ k.2.1 = nI j ∧ gs[i]? = some g ∧ ps[j]? = some p ∧ isBd (vdC p (rowC gs i k.2.2)) = true ∧ nnL k.2.2
def ivK (gs : List gN) (ps : List pN) (ks : List kN) : Prop := (∀ k ∈ ks, ivK1 gs ps k) ∧ (ks.map kkN).Nodup
def ivF (gs : List gN) (ps : List pN) (fo : fO) (row : List Int32) : Prop := ∀ i j v, fo = some (i, j, v) → ∃ g p, gs[i]? = some g ∧ ps[j]? = some p ∧ isBd v = true ∧ fxR gs i row
def Inv (gs : List gN) (ps : List pN) (ks : List kN) (fo : fO) (row pu : List Int32) : Prop := wfG gs ∧ ps.length ≤ 10 ∧ ivK gs ps ks ∧ ivF gs ps fo row ∧ nnL pu
theorem Inv.nil : Inv [] [] [] none [] [] := ⟨⟨Nat.zero_le _, fun i k a b dp h => (by cases h)⟩, Nat.zero_le _, ⟨fun k h => (by cases h), List.nodup_nil⟩, fun i j v h => (by cases h), nnL_nil⟩
theorem nodup_le : ∀ (n : Nat) (l : List Nat), l.Nodup → (∀ x ∈ l, x < n) → l.length ≤ n
  | 0, l, _, h => by
    cases l with
    | nil => exact Nat.le_refl _
    | cons a r => exact absurd (h a List.mem_cons_self) (Nat.not_lt_zero _)
  | n + 1, l, hn, h => by
    by_cases hm : n ∈ l
    · have h1 := nodup_le n (l.erase n) (hn.erase n) (fun x hx => by
        have := (List.Nodup.mem_erase_iff hn).mp hx
        have := h x this.2
        omega)
      rw [List.length_erase_of_mem hm] at h1
      omega
    · have h1 := nodup_le n l hn (fun x hx => by
        have := h x hx
        have h3 : x ≠ n := fun e => hm (e ▸ hx)
        omega)
      omega
theorem ivK1.lt {gs : List gN} {ps : List pN} {k : kN} (h : ivK1 gs ps k) (hg : gs.length ≤ 20) (hp : ps.length ≤ 10) : ∃ i j, k.1 = nI i ∧ k.2.1 = nI j ∧ i < 20 ∧ j < 10 ∧ kkN k = i * 10 + j := by
  obtain ⟨i, j, g, p, h1, h2, h3, h4, -, -⟩ := h
  have := (List.getElem?_eq_some_iff.mp h3).1
  have := (List.getElem?_eq_some_iff.mp h4).1
  refine ⟨i, j, h1, h2, by omega, by omega, ?_⟩
  unfold kkN
  rw [h1, h2, nI_clamp (by omega), nI_clamp (by omega)]
theorem ivK.le {gs : List gN} {ps : List pN} {ks : List kN} (h : ivK gs ps ks) (hg : gs.length ≤ 20) (hp : ps.length ≤ 10) : ks.length ≤ 200 := by
  have := nodup_le 200 (ks.map kkN) h.2 (fun x hx => by
    obtain ⟨k, h1, rfl⟩ := List.mem_map.mp hx
    obtain ⟨i, j, -, -, h2, h3, h4⟩ := (h.1 k h1).lt hg hp
    omega)
  rw [List.length_map] at this
  exact this
theorem findK_no {gs : List gN} {p : pN} {i : Nat} {gi pi : Int32} {ks : List kN} : ∀ n, n ≤ ks.length → findKC gs p i gi pi ks n = none → ∀ m, m < n → ∀ k, ks[m]? = some k → k.1 = gi → k.2.1 = pi → ¬ isBd (vdC p (rowC gs i k.2.2)) = true
  | 0, _, _, m, hm, _, _, _, _ => absurd hm (Nat.not_lt_zero _)
  | n + 1, hn, h, m, hm, k, hk, e1, e2 => by
    rw [findKC] at h
    cases hq : ks[n]? with
    | none => exact absurd hn (Nat.not_le.mpr (by have := List.getElem?_eq_none_iff.mp hq; omega))
    | some q =>
      obtain ⟨a, b, ys⟩ := q
      rw [hq] at h
      dsimp only at h
      by_cases hmn : m = n
      · subst hmn
        rw [hq] at hk
        cases hk
        rw [if_pos ⟨e1, e2⟩] at h
        intro hb
        rw [if_pos hb] at h
        cases h
      · have h2 : findKC gs p i gi pi ks n = none := by
          by_cases hab : a = gi ∧ b = pi
          · rw [if_pos hab] at h
            by_cases hb : isBd (vdC p (rowC gs i ys)) = true
            · rw [if_pos hb] at h; cases h
            · rw [if_neg hb] at h; exact h
          · rw [if_neg hab] at h; exact h
        exact findK_no n (by omega) h2 m (by omega) k hk e1 e2
theorem findK_yes {gs : List gN} {p : pN} {i : Nat} {gi pi : Int32} {ks : List kN} {v : Int32} {r ns : List Int32} : ∀ n, findKC gs p i gi pi ks n = some (v, r, ns) → isBd v = true ∧ fxR gs i r
  | 0, h => by rw [findKC] at h; cases h
  | n + 1, h => by
    rw [findKC] at h
    cases hq : ks[n]? with
    | none => rw [hq] at h; cases h
    | some q =>
      obtain ⟨a, b, ys⟩ := q
      rw [hq] at h
      dsimp only at h
      by_cases hab : a = gi ∧ b = pi
      · rw [if_pos hab] at h
        by_cases hb : isBd (vdC p (rowC gs i ys)) = true
        · rw [if_pos hb] at h
          cases h
          exact ⟨hb, fxR.of (row_idem (vdC_ok (isBd_4 hb)))⟩
        · rw [if_neg hb] at h; exact findK_yes n h
      · rw [if_neg hab] at h; exact findK_yes n h
theorem seed_yes {gs : List gN} {p : pN} {i runs : Nat} {v : Int32} {r ns : List Int32} {c : Int32} {w : Nat} : ∀ (n z pa wa : Nat) (x : Int64), seedC gs p i runs n z pa wa x = (some (v, r, ns), c, w) → isBd v = true ∧ rowC gs i r = (r, ns, false) ∧ v = vdF p ns
  | 0, z, pa, wa, x, h => by rw [seedC] at h; cases h
  | n + 1, z, pa, wa, x, h => by
    rw [seedC] at h
    by_cases h1 : runs ≤ pa
    · rw [if_pos h1] at h; cases h
    · rw [if_neg h1] at h
      by_cases h2 : isBd (vdT p (tryC gs i z x)) = true
      · rw [if_pos h2] at h
        cases h
        have h3 := vdT_ok (isBd_4 h2)
        refine ⟨h2, try_idem h3, ?_⟩
        unfold vdT
        rw [if_neg (by rw [h3]; decide)]
      · rw [if_neg h2] at h
        by_cases h3 : runs < (if vdT p (tryC gs i z x) = 0 then wa else wa + 1)
        · rw [if_pos h3] at h; cases h
        · rw [if_neg h3] at h
          exact seed_yes n _ _ _ _ h
/-- the key of a pair that no kept row has -/
theorem ivK.new {gs : List gN} {ps : List pN} {ks : List kN} {i j : Nat} {g : gN} {p : pN} (h : ivK gs ps ks) (hgl : gs.length ≤ 20) (hpl : ps.length ≤ 10) (hg : gs[i]? = some g) (hp : ps[j]? = some p) (hf : findKC gs p i (nI i) (nI j) ks ks.length = none) : i * 10 + j ∉ ks.map kkN := by
  intro hm
  have li := (List.getElem?_eq_some_iff.mp hg).1
  have lj := (List.getElem?_eq_some_iff.mp hp).1
  obtain ⟨k, h1, h2⟩ := List.mem_map.mp hm
  obtain ⟨i', j', g', p', e1, e2, e3, e4, e5, -⟩ := h.1 k h1
  have li' := (List.getElem?_eq_some_iff.mp e3).1
  have lj' := (List.getElem?_eq_some_iff.mp e4).1
  unfold kkN at h2
  rw [e1, e2, nI_clamp (by omega), nI_clamp (by omega)] at h2
  have ei : i' = i := by omega
  have ej : j' = j := by omega
  subst ei; subst ej
  rw [hp] at e4
  cases e4
  obtain ⟨m, hm2⟩ := List.mem_iff_getElem?.mp h1
  have hm1 : m < ks.length := (List.getElem?_eq_some_iff.mp hm2).1
  exact findK_no ks.length (Nat.le_refl _) hf m hm1 k hm2 e1 e2 e5
theorem ivK.lt {gs : List gN} {ps : List pN} {ks : List kN} {i j : Nat} {g : gN} {p : pN} (h : ivK gs ps ks) (hgl : gs.length ≤ 20) (hpl : ps.length ≤ 10) (hg : gs[i]? = some g) (hp : ps[j]? = some p) (hf : findKC gs p i (nI i) (nI j) ks ks.length = none) : ks.length < 200 := by
  have li := (List.getElem?_eq_some_iff.mp hg).1
  have lj := (List.getElem?_eq_some_iff.mp hp).1
  have := nodup_le 200 ((i * 10 + j) :: ks.map kkN) (List.nodup_cons.mpr ⟨h.new hgl hpl hg hp hf, h.2⟩) (fun x hx => by
    rcases List.mem_cons.mp hx with rfl | hx
    · omega
    · obtain ⟨k, h1, rfl⟩ := List.mem_map.mp hx
      obtain ⟨i, j, -, -, h2, h3, h4⟩ := (h.1 k h1).lt hgl hpl
      omega)
  rw [List.length_cons, List.length_map] at this
  omega
theorem ivK.nn {gs : List gN} {ps : List pN} {ks : List kN} (h : ivK gs ps ks) : ∀ k ∈ ks, nnL k.2.2 := fun k hk => by
  obtain ⟨i, j, g, p, -, -, -, -, -, h6⟩ := h.1 k hk
  exact h6
theorem Inv.gen {gs : List gN} {ps : List pN} {ks : List kN} {fo : fO} {row pu : List Int32} {kd a b : Int32} (h : Inv gs ps ks fo row pu) : Inv (genS gs kd a b).2 ps ks fo row pu := by
  obtain ⟨h1, h2, ⟨h3, h4⟩, h5, h6⟩ := h
  rcases genS_or (kd := kd) (a := a) (b := b) h1 with e | ⟨g, e, hw⟩
  · rw [e]; exact ⟨h1, h2, ⟨h3, h4⟩, h5, h6⟩
  · rw [e]
    refine ⟨hw, h2, ⟨fun k hk => ?_, h4⟩, fun i j v hf => ?_, h6⟩
    · obtain ⟨i, j, g', p, a1, a2, a3, a4, a5, a6⟩ := h3 k hk
      have li := (List.getElem?_eq_some_iff.mp a3).1
      exact ⟨i, j, g', p, a1, a2, by rw [List.getElem?_append_left li]; exact a3, a4, by rw [row_grow h1 li]; exact a5, a6⟩
    · obtain ⟨g', p, a3, a4, a5, a6⟩ := h5 i j v hf
      have li := (List.getElem?_eq_some_iff.mp a3).1
      exact ⟨g', p, by rw [List.getElem?_append_left li]; exact a3, a4, a5, by unfold fxR; rw [row_grow h1 li]; exact a6⟩
theorem Inv.pro {gs : List gN} {ps : List pN} {ks : List kN} {fo : fO} {row pu : List Int32} {kd k c : Int32} (h : Inv gs ps ks fo row pu) : Inv gs (prS ps kd k c).2 ks fo row pu := by
  obtain ⟨h1, h2, ⟨h3, h4⟩, h5, h6⟩ := h
  rcases prS_or (ps := ps) (kd := kd) (k := k) (c := c) with e | ⟨q, e, hw⟩
  · rw [e]; exact ⟨h1, h2, ⟨h3, h4⟩, h5, h6⟩
  · rw [e]
    refine ⟨h1, by rw [List.length_append]; show ps.length + 1 ≤ 10; omega, ⟨fun k hk => ?_, h4⟩, fun i j v hf => ?_, h6⟩
    · obtain ⟨i, j, g', p, a1, a2, a3, a4, a5, a6⟩ := h3 k hk
      have li := (List.getElem?_eq_some_iff.mp a4).1
      exact ⟨i, j, g', p, a1, a2, a3, by rw [List.getElem?_append_left li]; exact a4, a5, a6⟩
    · obtain ⟨g', p, a3, a4, a5, a6⟩ := h5 i j v hf
      have li := (List.getElem?_eq_some_iff.mp a4).1
      exact ⟨g', p, a3, by rw [List.getElem?_append_left li]; exact a4, a5, a6⟩
theorem Inv.put {gs : List gN} {ps : List pN} {ks : List kN} {fo : fO} {row pu : List Int32} {c : Int32} (h : Inv gs ps ks fo row pu) : Inv gs ps ks fo row (if putB pu c = true then pu ++ [c] else pu) := by
  obtain ⟨h1, h2, h3, h5, h6⟩ := h
  refine ⟨h1, h2, h3, h5, ?_⟩
  by_cases hc : putB pu c = true
  · rw [if_pos hc]
    intro x hx
    rcases List.mem_append.mp hx with hx | hx
    · exact h6 x hx
    · rw [List.mem_singleton] at hx
      subst hx
      unfold putB at hc
      rw [Bool.and_eq_true, decide_eq_true_eq] at hc
      exact hc.1
  · rw [if_neg hc]; exact h6
theorem Inv.rep {gs : List gN} {ps : List pN} {ks : List kN} {fo : fO} {row pu : List Int32} (h : Inv gs ps ks fo row pu) : Inv gs ps ks fo row [] := ⟨h.1, h.2.1, h.2.2.1, h.2.2.2.1, nnL_nil⟩
theorem Inv.shr {gs : List gN} {ps : List pN} {ks : List kN} {row row' pu : List Int32} {i j : Nat} {v : Int32} (h : Inv gs ps ks (some (i, j, v)) row pu) (hr : fxR gs i row') : Inv gs ps ks (some (i, j, v)) row' pu := ⟨h.1, h.2.1, h.2.2.1, fun i' j' v' e => by
  cases e
  obtain ⟨g, p, a1, a2, a3, -⟩ := h.2.2.2.1 i j v rfl
  exact ⟨g, p, a1, a2, a3, hr⟩, h.2.2.2.2⟩
theorem Inv.chk {gs : List gN} {ps : List pN} {ks : List kN} {fo : fO} {le : Bool} {row nu pu : List Int32} {i j runs : Nat} {g : gN} {p : pN} {sd : Int64} (h : Inv gs ps ks fo row pu) (hg : gs[i]? = some g) (hp : ps[j]? = some p) : Inv gs ps (chkS gs ks fo le row nu p i j runs sd).2.1 (chkS gs ks fo le row nu p i j runs sd).2.2.2.1 (chkS gs ks fo le row nu p i j runs sd).2.2.2.2.2.1 pu := by
  unfold chkS
  cases hf : findKC gs p i (nI i) (nI j) ks ks.length with
  | some r =>
    obtain ⟨v, r, n⟩ := r
    obtain ⟨f1, f2⟩ := findK_yes _ hf
    refine ⟨h.1, h.2.1, h.2.2.1, fun i' j' v' e => ?_, h.2.2.2.2⟩
    cases e
    exact ⟨g, p, hg, hp, f1, f2⟩
  | none =>
    dsimp only
    rcases hq : seedC gs p i runs 121 0 0 0 sd with ⟨o, c, w⟩
    cases o with
    | none => exact h
    | some r =>
      obtain ⟨v, r, n⟩ := r
      obtain ⟨f1, f2, f3⟩ := seed_yes _ _ _ _ _ hq
      have li := (List.getElem?_eq_some_iff.mp hg).1
      have lj := (List.getElem?_eq_some_iff.mp hp).1
      have lg := h.1.1
      have lp := h.2.1
      have hx := fxR.of f2
      refine ⟨h.1, h.2.1, ⟨fun k hk => ?_, ?_⟩, fun i' j' v' e => ?_, h.2.2.2.2⟩
      · rcases List.mem_append.mp hk with hk | hk
        · exact h.2.2.1.1 k hk
        · rw [List.mem_singleton] at hk
          subst hk
          refine ⟨i, j, g, p, rfl, rfl, hg, hp, ?_, hx.nn⟩
          show isBd (vdC p (rowC gs i r)) = true
          rw [f2]
          unfold vdC
          rw [if_neg (show ¬ (false = true) from by decide)]
          show isBd (vdF p n) = true
          rw [← f3]; exact f1
      · show ((ks ++ [(nI i, nI j, r)]).map kkN).Nodup
        rw [List.map_append]
        have ek : [(nI i, nI j, r)].map kkN = [i * 10 + j] := by
          show [kkN (nI i, nI j, r)] = [i * 10 + j]
          unfold kkN
          rw [nI_clamp (by omega), nI_clamp (by omega)]
        rw [ek]
        refine List.nodup_append.mpr ⟨h.2.2.1.2, List.nodup_cons.mpr ⟨fun q => (by cases q), List.nodup_nil⟩, fun x hx y hy => ?_⟩
        rw [List.mem_singleton] at hy
        subst hy
        exact fun e => h.2.2.1.new lg lp hg hp hf (e ▸ hx)
      · cases e
        exact ⟨g, p, hg, hp, f1, hx⟩
