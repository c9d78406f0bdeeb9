/-! CHECK -/
abbrev rwR : Type := Int32 × List Int32 × List Int32
def findKC (gs : List gN) (p : pN) (i : Nat) (gi pi : Int32) (ks : List kN) : Nat → Option rwR
  | 0 => none
  | n + 1 => match ks[n]? with
    | none => none
    | some (a, b, ys) => if a = gi ∧ b = pi then (if isBd (vdC p (rowC gs i ys)) = true then some (vdC p (rowC gs i ys), (rowC gs i ys).1, (rowC gs i ys).2.1) else findKC gs p i gi pi ks n) else findKC gs p i gi pi ks n
theorem findK_eq {gs : List gN} {p : pN} {i : Nat} {gi pi : Int32} {ks : List kN} : ∀ (n : Nat) (md : dM) (σ : dS), findKC gs p i gi pi ks n = (findKF gs p i gi pi ks n md σ).1.map (fun v => (v, (findKF gs p i gi pi ks n md σ).2.2.1, (findKF gs p i gi pi ks n md σ).2.2.2.1)) := by
  intro n
  induction n with
  | zero => intro md σ; rfl
  | succ n ih =>
    intro md σ
    rw [findKC, findKF]
    cases hk : ks[n]? with
    | none => rfl
    | some k =>
      obtain ⟨a, b, ys⟩ := k
      dsimp only
      by_cases hab : a = gi ∧ b = pi
      · rw [if_pos hab, if_pos hab]
        obtain ⟨r1, r2, r3⟩ := row_eq gs i ys md.2.2 σ.2.2.2.1 σ.2.2.2.2
        rw [← vd_eq (p := p) r2 r3]
        by_cases hb : isBd (vdS p (runR gs ys md.2.2 i σ.2.2.2.1 σ.2.2.2.2)) = true
        · rw [if_pos hb, if_pos hb, ← r1, ← r2]; rfl
        · rw [if_neg hb, if_neg hb]; exact ih _ _
      · rw [if_neg hab, if_neg hab]; exact ih _ _
def vdT (p : pN) (t : List Int32 × List Int32 × Bool × Int64) : Int32 := if t.2.2.1 = true then 4 else vdF p t.2.1
theorem vdT_eq {p : pN} {σ : dS} {t : List Int32 × List Int32 × Bool × Int64} (h1 : σ.2.1 = t.2.1) (h2 : σ.2.2.1 = t.2.2.1) : vdS p σ = vdT p t := by
  unfold vdS vdT; rw [h1, h2]
abbrev scR : Type := Option rwR × Int32 × Nat
def seedC (gs : List gN) (p : pN) (i runs : Nat) : Nat → Nat → Nat → Nat → Int64 → scR
  | 0, _, _, wa, _ => (none, nI runs, wa)
  | n + 1, z, pa, wa, x => if runs ≤ pa then (none, nI runs, wa) else
    if isBd (vdT p (tryC gs i z x)) = true then (some (vdT p (tryC gs i z x), (tryC gs i z x).1, (tryC gs i z x).2.1), -1, wa)
    else if runs < (if vdT p (tryC gs i z x) = 0 then wa else wa + 1) then (none, -2, (if vdT p (tryC gs i z x) = 0 then wa else wa + 1))
    else seedC gs p i runs n (z + 1) (if vdT p (tryC gs i z x) = 0 then pa + 1 else pa) (if vdT p (tryC gs i z x) = 0 then wa else wa + 1) (tryC gs i z x).2.2.2
theorem seed_eq {gs : List gN} {p : pN} {i runs : Nat} : ∀ (n z pa wa : Nat) (md : dM) (σ : dS), seedC gs p i runs n z pa wa σ.2.2.2.1 = ((seedF gs p i runs n z pa wa md σ).1.map (fun v => (v, (seedF gs p i runs n z pa wa md σ).2.2.2.2.1, (seedF gs p i runs n z pa wa md σ).2.2.2.2.2.1)), (seedF gs p i runs n z pa wa md σ).2.1, (seedF gs p i runs n z pa wa md σ).2.2.1) := by
  intro n
  induction n with
  | zero => intro z pa wa md σ; rfl
  | succ n ih =>
    intro z pa wa md σ
    rw [seedC, seedF]
    by_cases h1 : runs ≤ pa
    · rw [if_pos h1, if_pos h1]; rfl
    · rw [if_neg h1, if_neg h1]
      obtain ⟨r1, r2, r3, r4⟩ := try_eq gs md.2.1 i z σ.2.2.2.1 σ.2.2.2.2
      rw [← vdT_eq (p := p) r2 r3]
      by_cases hb : isBd (vdS p (tryR gs md.2.1 z i σ.2.2.2.1 σ.2.2.2.2)) = true
      · rw [if_pos hb, if_pos hb, ← r1, ← r2]; rfl
      · rw [if_neg hb, if_neg hb, ← r4]
        generalize (if vdS p (tryR gs md.2.1 z i σ.2.2.2.1 σ.2.2.2.2) = 0 then wa else wa + 1) = w2
        generalize (if vdS p (tryR gs md.2.1 z i σ.2.2.2.1 σ.2.2.2.2) = 0 then pa + 1 else pa) = p2
        by_cases hw2 : runs < w2
        · rw [if_pos hw2, if_pos hw2]; rfl
        · rw [if_neg hw2, if_neg hw2]; exact ih _ _ _ _ _
theorem seedF_c {gs : List gN} {p : pN} {i runs : Nat} (hr : runs < 2 ^ 31) : ∀ (n z pa wa : Nat) (md : dM) (σ : dS), ((seedF gs p i runs n z pa wa md σ).1 = none → ¬ (seedF gs p i runs n z pa wa md σ).2.1 = -1) ∧ (∀ v, (seedF gs p i runs n z pa wa md σ).1 = some v → (seedF gs p i runs n z pa wa md σ).2.1 = -1) := by
  intro n
  induction n with
  | zero => intro z pa wa md σ; exact ⟨fun _ => ne_m1 hr, fun v hv => by rw [seedF] at hv; cases hv⟩
  | succ n ih =>
    intro z pa wa md σ
    rw [seedF]
    by_cases h1 : runs ≤ pa
    · rw [if_pos h1]; exact ⟨fun _ => ne_m1 hr, fun v hv => by cases hv⟩
    · rw [if_neg h1]
      by_cases hb : isBd (vdS p (tryR gs md.2.1 z i σ.2.2.2.1 σ.2.2.2.2)) = true
      · rw [if_pos hb]; exact ⟨(fun hv => by cases hv), fun v _ => rfl⟩
      · rw [if_neg hb]
        generalize (if vdS p (tryR gs md.2.1 z i σ.2.2.2.1 σ.2.2.2.2) = 0 then wa else wa + 1) = w2
        generalize (if vdS p (tryR gs md.2.1 z i σ.2.2.2.1 σ.2.2.2.2) = 0 then pa + 1 else pa) = p2
        by_cases hw2 : runs < w2
        · rw [if_pos hw2]; exact ⟨fun _ => show ¬ (-2 : Int32) = -1 by decide, fun v hv => by cases hv⟩
        · rw [if_neg hw2]; exact ih _ _ _ _ _
/-- what check answers, and the state behind it -/
def chkS (gs : List gN) (ks : List kN) (fo : fO) (le : Bool) (row nu : List Int32) (p : pN) (i j runs : Nat) (sd : Int64) : Int32 × List kN × Nat × fO × Bool × List Int32 × List Int32 := match findKC gs p i (nI i) (nI j) ks ks.length with
  | some (v, r, n) => (-1, ks, 0, some (i, j, v), false, r, n)
  | none => match seedC gs p i runs 121 0 0 0 sd with
    | (some (v, r, n), c, w) => (c, ks ++ [(nI i, nI j, r)], w, some (i, j, v), false, r, n)
    | (none, c, w) => (c, ks, w, fo, le, row, nu)
theorem isK.push {M : mg_M} {ks : List kN} {k : kN} (h : isK M ks) (h1 : M (200 + 3 * ks.length) = some (.inr (10, [.int k.1, .int k.2.1, .ref (200 + 3 * ks.length + 1), kpV ks.length]))) (h2 : isI M (200 + 3 * ks.length + 1) k.2.2) : isK M (ks ++ [k]) := fun i x hx => by
  rcases Nat.lt_or_ge i ks.length with q | q
  · rw [List.getElem?_append_left q] at hx; exact h i x hx
  · rw [List.getElem?_append_right q] at hx
    have hz : i - ks.length < 1 := (List.getElem?_eq_some_iff.mp hx).1
    have e : i = ks.length := by omega
    subst e
    rw [Nat.sub_self] at hx
    cases hx
    exact ⟨h1, h2⟩

set_option maxHeartbeats 4000000 in
set_option maxRecDepth 100000 in
theorem c_PS_check_n1 {M : mg_M} {gs : List gN} {ps : List pN} {ks : List kN} {wa : Nat} {fo : fO} {le : Bool} {row nu pu : List Int32} {s : Int64} {gi pj rn : Int32} {sd : Int64}  (h : isPS M gs ps ks wa fo le row nu pu s) (hw : wfG gs) (hpl : ps.length ≤ 10) (hi : offR gi gs.length) (hj : offR pj ps.length) : mg_Ct Y_PS_check { frames := 13, cells := 3, slots := 66, locals := 308 } [.ref 1, .int gi, .int pj, .long sd, .int rn] M (fun v M' => v = some (.int (-3)) ∧ M' = M) := by
  obtain ⟨hO, hA, hB, hG, hRr, hK, h4, h6, h8, ⟨st, h10⟩, ⟨md, σ, hD⟩, hF, T, hT, hJ⟩ := id h
  refine mg_met [some (.ref 1), some (.int gi), some (.int pj), some (.long sd), none, some (.int rn), none, none, none] (by decide +kernel) rfl (Nat.le_of_ble_eq_true rfl) ?_
  intro X hR _
  first | refine mg_aload_n d_PS_check_0 rfl rfl ?_ | refine mg_aload_nN d_PS_check_0 rfl rfl ?_
  refine mg_iload_n d_PS_check_1 rfl rfl ?_
  refine mg_callV (vl_PS_61 rfl) d_PS_check_2 hO rfl rfl (c_PS_generatorAt_out hO hi) rfl rfl (by rw [hR]; decide) (by rw [hR]; decide) (Nat.le_of_ble_eq_true rfl) ?_
  rintro v M2 ⟨rfl, rfl⟩
  first | refine mg_astore d_PS_check_5 (Nat.le_of_ble_eq_true rfl) rfl ?_ | refine mg_astoreN d_PS_check_5 (Nat.le_of_ble_eq_true rfl) rfl ?_
  first | refine mg_aload_n d_PS_check_7 rfl rfl ?_ | refine mg_aload_nN d_PS_check_7 rfl rfl ?_
  refine mg_iload_n d_PS_check_8 rfl rfl ?_
  refine mg_callV (vl_PS_65 rfl) d_PS_check_9 hO rfl rfl (c_PS_propertyAt_out hO hj) rfl rfl (by rw [hR]; decide) (by rw [hR]; decide) (Nat.le_of_ble_eq_true rfl) ?_
  rintro v M3 ⟨rfl, rfl⟩
  first | refine mg_astore d_PS_check_12 (Nat.le_of_ble_eq_true rfl) rfl ?_ | refine mg_astoreN d_PS_check_12 (Nat.le_of_ble_eq_true rfl) rfl ?_
  first | refine mg_aload d_PS_check_14 rfl ?_ | refine mg_aloadN d_PS_check_14 rfl ?_
  refine mg_ifnullN (tgt := 37) d_PS_check_16 (by decide) ?_
  refine mg_bipush (v := -3) d_PS_check_37 (by decide) ?_
  exact mg_ireturn d_PS_check_39 rfl rfl (Nat.le_of_ble_eq_true rfl) (Nat.le_of_ble_eq_true rfl) ⟨rfl, rfl⟩

set_option maxHeartbeats 4000000 in
set_option maxRecDepth 100000 in
theorem c_PS_check_n2 {M : mg_M} {gs : List gN} {ps : List pN} {ks : List kN} {wa : Nat} {fo : fO} {le : Bool} {row nu pu : List Int32} {s : Int64} {gi rn : Int32} {sd : Int64} {j : Nat} (h : isPS M gs ps ks wa fo le row nu pu s) (hw : wfG gs) (hpl : ps.length ≤ 10) (hi : offR gi gs.length) (hj : j < ps.length) : mg_Ct Y_PS_check { frames := 13, cells := 3, slots := 66, locals := 308 } [.ref 1, .int gi, .int (nI j), .long sd, .int rn] M (fun v M' => v = some (.int (-3)) ∧ M' = M) := by
  obtain ⟨hO, hA, hB, hG, hRr, hK, h4, h6, h8, ⟨st, h10⟩, ⟨md, σ, hD⟩, hF, T, hT, hJ⟩ := id h
  refine mg_met [some (.ref 1), some (.int gi), some (.int (nI j)), some (.long sd), none, some (.int rn), none, none, none] (by decide +kernel) rfl (Nat.le_of_ble_eq_true rfl) ?_
  intro X hR _
  first | refine mg_aload_n d_PS_check_0 rfl rfl ?_ | refine mg_aload_nN d_PS_check_0 rfl rfl ?_
  refine mg_iload_n d_PS_check_1 rfl rfl ?_
  refine mg_callV (vl_PS_61 rfl) d_PS_check_2 hO rfl rfl (c_PS_generatorAt_out hO hi) rfl rfl (by rw [hR]; decide) (by rw [hR]; decide) (Nat.le_of_ble_eq_true rfl) ?_
  rintro v M2 ⟨rfl, rfl⟩
  first | refine mg_astore d_PS_check_5 (Nat.le_of_ble_eq_true rfl) rfl ?_ | refine mg_astoreN d_PS_check_5 (Nat.le_of_ble_eq_true rfl) rfl ?_
  first | refine mg_aload_n d_PS_check_7 rfl rfl ?_ | refine mg_aload_nN d_PS_check_7 rfl rfl ?_
  refine mg_iload_n d_PS_check_8 rfl rfl ?_
  refine mg_callV (vl_PS_65 rfl) d_PS_check_9 hO rfl rfl (c_PS_propertyAt_in hO hB hj hpl) rfl rfl (by rw [hR]; decide) (by rw [hR]; decide) (Nat.le_of_ble_eq_true rfl) ?_
  rintro v M3 ⟨rfl, rfl⟩
  first | refine mg_astore d_PS_check_12 (Nat.le_of_ble_eq_true rfl) rfl ?_ | refine mg_astoreN d_PS_check_12 (Nat.le_of_ble_eq_true rfl) rfl ?_
  first | refine mg_aload d_PS_check_14 rfl ?_ | refine mg_aloadN d_PS_check_14 rfl ?_
  refine mg_ifnullN (tgt := 37) d_PS_check_16 (by decide) ?_
  refine mg_bipush (v := -3) d_PS_check_37 (by decide) ?_
  exact mg_ireturn d_PS_check_39 rfl rfl (Nat.le_of_ble_eq_true rfl) (Nat.le_of_ble_eq_true rfl) ⟨rfl, rfl⟩

set_option maxHeartbeats 4000000 in
set_option maxRecDepth 100000 in
theorem c_PS_check_n3 {M : mg_M} {gs : List gN} {ps : List pN} {ks : List kN} {wa : Nat} {fo : fO} {le : Bool} {row nu pu : List Int32} {s : Int64} {pj rn : Int32} {sd : Int64} {i : Nat} (h : isPS M gs ps ks wa fo le row nu pu s) (hw : wfG gs) (hpl : ps.length ≤ 10) (hi : i < gs.length) (hj : offR pj ps.length) : mg_Ct Y_PS_check { frames := 13, cells := 3, slots := 66, locals := 308 } [.ref 1, .int (nI i), .int pj, .long sd, .int rn] M (fun v M' => v = some (.int (-3)) ∧ M' = M) := by
  obtain ⟨hO, hA, hB, hG, hRr, hK, h4, h6, h8, ⟨st, h10⟩, ⟨md, σ, hD⟩, hF, T, hT, hJ⟩ := id h
  refine mg_met [some (.ref 1), some (.int (nI i)), some (.int pj), some (.long sd), none, some (.int rn), none, none, none] (by decide +kernel) rfl (Nat.le_of_ble_eq_true rfl) ?_
  intro X hR _
  first | refine mg_aload_n d_PS_check_0 rfl rfl ?_ | refine mg_aload_nN d_PS_check_0 rfl rfl ?_
  refine mg_iload_n d_PS_check_1 rfl rfl ?_
  refine mg_callV (vl_PS_61 rfl) d_PS_check_2 hO rfl rfl (c_PS_generatorAt_in hO hA hi hw.1) rfl rfl (by rw [hR]; decide) (by rw [hR]; decide) (Nat.le_of_ble_eq_true rfl) ?_
  rintro v M2 ⟨rfl, rfl⟩
  first | refine mg_astore d_PS_check_5 (Nat.le_of_ble_eq_true rfl) rfl ?_ | refine mg_astoreN d_PS_check_5 (Nat.le_of_ble_eq_true rfl) rfl ?_
  first | refine mg_aload_n d_PS_check_7 rfl rfl ?_ | refine mg_aload_nN d_PS_check_7 rfl rfl ?_
  refine mg_iload_n d_PS_check_8 rfl rfl ?_
  refine mg_callV (vl_PS_65 rfl) d_PS_check_9 hO rfl rfl (c_PS_propertyAt_out hO hj) rfl rfl (by rw [hR]; decide) (by rw [hR]; decide) (Nat.le_of_ble_eq_true rfl) ?_
  rintro v M3 ⟨rfl, rfl⟩
  first | refine mg_astore d_PS_check_12 (Nat.le_of_ble_eq_true rfl) rfl ?_ | refine mg_astoreN d_PS_check_12 (Nat.le_of_ble_eq_true rfl) rfl ?_
  first | refine mg_aload d_PS_check_14 rfl ?_ | refine mg_aloadN d_PS_check_14 rfl ?_
  refine mg_ifnull d_PS_check_16 ?_
  first | refine mg_aload d_PS_check_19 rfl ?_ | refine mg_aloadN d_PS_check_19 rfl ?_
  refine mg_ifnullN (tgt := 37) d_PS_check_21 (by decide) ?_
  refine mg_bipush (v := -3) d_PS_check_37 (by decide) ?_
  exact mg_ireturn d_PS_check_39 rfl rfl (Nat.le_of_ble_eq_true rfl) (Nat.le_of_ble_eq_true rfl) ⟨rfl, rfl⟩

set_option maxHeartbeats 4000000 in
set_option maxRecDepth 100000 in
theorem c_PS_check_n4 {M : mg_M} {gs : List gN} {ps : List pN} {ks : List kN} {wa : Nat} {fo : fO} {le : Bool} {row nu pu : List Int32} {s : Int64} {rn : Int32} {sd : Int64} {i j : Nat} (h : isPS M gs ps ks wa fo le row nu pu s) (hw : wfG gs) (hpl : ps.length ≤ 10) (hi : i < gs.length) (hj : j < ps.length) (hb : rn < 1 ∨ 60 < rn) : mg_Ct Y_PS_check { frames := 13, cells := 3, slots := 66, locals := 308 } [.ref 1, .int (nI i), .int (nI j), .long sd, .int rn] M (fun v M' => v = some (.int (-3)) ∧ M' = M) := by
  obtain ⟨hO, hA, hB, hG, hRr, hK, h4, h6, h8, ⟨st, h10⟩, ⟨md, σ, hD⟩, hF, T, hT, hJ⟩ := id h
  refine mg_met [some (.ref 1), some (.int (nI i)), some (.int (nI j)), some (.long sd), none, some (.int rn), none, none, none] (by decide +kernel) rfl (Nat.le_of_ble_eq_true rfl) ?_
  intro X hR _
  first | refine mg_aload_n d_PS_check_0 rfl rfl ?_ | refine mg_aload_nN d_PS_check_0 rfl rfl ?_
  refine mg_iload_n d_PS_check_1 rfl rfl ?_
  refine mg_callV (vl_PS_61 rfl) d_PS_check_2 hO rfl rfl (c_PS_generatorAt_in hO hA hi hw.1) rfl rfl (by rw [hR]; decide) (by rw [hR]; decide) (Nat.le_of_ble_eq_true rfl) ?_
  rintro v M2 ⟨rfl, rfl⟩
  first | refine mg_astore d_PS_check_5 (Nat.le_of_ble_eq_true rfl) rfl ?_ | refine mg_astoreN d_PS_check_5 (Nat.le_of_ble_eq_true rfl) rfl ?_
  first | refine mg_aload_n d_PS_check_7 rfl rfl ?_ | refine mg_aload_nN d_PS_check_7 rfl rfl ?_
  refine mg_iload_n d_PS_check_8 rfl rfl ?_
  refine mg_callV (vl_PS_65 rfl) d_PS_check_9 hO rfl rfl (c_PS_propertyAt_in hO hB hj hpl) rfl rfl (by rw [hR]; decide) (by rw [hR]; decide) (Nat.le_of_ble_eq_true rfl) ?_
  rintro v M3 ⟨rfl, rfl⟩
  first | refine mg_astore d_PS_check_12 (Nat.le_of_ble_eq_true rfl) rfl ?_ | refine mg_astoreN d_PS_check_12 (Nat.le_of_ble_eq_true rfl) rfl ?_
  first | refine mg_aload d_PS_check_14 rfl ?_ | refine mg_aloadN d_PS_check_14 rfl ?_
  refine mg_ifnull d_PS_check_16 ?_
  first | refine mg_aload d_PS_check_19 rfl ?_ | refine mg_aloadN d_PS_check_19 rfl ?_
  refine mg_ifnull d_PS_check_21 ?_
  refine mg_iload d_PS_check_24 rfl ?_
  refine mg_iconst (v := 1) d_PS_check_26 (by decide) ?_
  refine mg_icmp_lt (tgt := 37) d_PS_check_27 (by decide) (fun c_27 => ?_) (fun c_27 => ?_)
  · refine mg_bipush (v := -3) d_PS_check_37 (by decide) ?_
    exact mg_ireturn d_PS_check_39 rfl rfl (Nat.le_of_ble_eq_true rfl) (Nat.le_of_ble_eq_true rfl) ⟨rfl, rfl⟩
  · refine mg_iload d_PS_check_30 rfl ?_
    refine mg_bipush (v := 60) d_PS_check_32 (by decide) ?_
    refine mg_icmp_le (tgt := 40) d_PS_check_34 (by decide) (fun c_34 => ?_) (fun c_34 => ?_)
    · exact False.elim (hb.elim (fun q => absurd q c_27) (fun q => absurd q (Int32.not_lt.mpr c_34)))
    · refine mg_bipush (v := -3) d_PS_check_37 (by decide) ?_
      exact mg_ireturn d_PS_check_39 rfl rfl (Nat.le_of_ble_eq_true rfl) (Nat.le_of_ble_eq_true rfl) ⟨rfl, rfl⟩

theorem c_PS_check_no {M : mg_M} {gs : List gN} {ps : List pN} {ks : List kN} {wa : Nat} {fo : fO} {le : Bool} {row nu pu : List Int32} {s : Int64} {gi pj rn : Int32} {sd : Int64} (h : isPS M gs ps ks wa fo le row nu pu s) (hw : wfG gs) (hpl : ps.length ≤ 10) (hb : offR gi gs.length ∨ offR pj ps.length ∨ rn < 1 ∨ 60 < rn) : mg_Ct Y_PS_check { frames := 13, cells := 3, slots := 66, locals := 308 } [.ref 1, .int gi, .int pj, .long sd, .int rn] M (fun v M' => v = some (.int (-3)) ∧ M' = M) := by
  rcases offR_or gi (n := gs.length) hw.1 with hi | ⟨i, hi, rfl⟩
  · rcases offR_or pj (n := ps.length) (by omega) with hj | ⟨j, hj, rfl⟩
    · exact c_PS_check_n1 h hw hpl hi hj
    · exact c_PS_check_n2 h hw hpl hi hj
  · rcases offR_or pj (n := ps.length) (by omega) with hj | ⟨j, hj, rfl⟩
    · exact c_PS_check_n3 h hw hpl hi hj
    · have n1 : ¬ offR (nI i) gs.length := fun hh => hh.elim (nI_pos (by have := hw.1; omega)) (nI_ge hi (by have := hw.1; omega))
      have n2 : ¬ offR (nI j) ps.length := fun hh => hh.elim (nI_pos (by omega)) (nI_ge hj (by omega))
      exact c_PS_check_n4 h hw hpl hi hj (hb.elim (fun q => absurd q n1) (fun q => q.elim (fun q => absurd q n2) id))
theorem isPS.addK {M M' : mg_M} {gs : List gN} {ps : List pN} {ks : List kN} {wa : Nat} {fo : fO} {le : Bool} {row nu pu : List Int32} {s : Int64} {k : kN} (h : isPS M gs ps ks wa fo le row nu pu s) (hg : gs.length ≤ 20) (hp : ps.length ≤ 10) (hk : ks.length < 200) (b1 : M' 1 = some (psF gs.length ps.length (kpV (ks.length + 1)) (ks.length + 1) (nI wa) (foG fo) (foP fo) (foV fo) le s)) (b2 : M' (200 + 3 * ks.length) = some (.inr (10, [.int k.1, .int k.2.1, .ref (200 + 3 * ks.length + 1), kpV ks.length]))) (b3 : isI M' (200 + 3 * ks.length + 1) k.2.2) (hs : ∀ q, q ≠ 1 → (q < 200 + 3 * ks.length ∨ 200 + 3 * ks.length + 3 ≤ q) → M' q = M q) : isPS M' gs ps (ks ++ [k]) wa fo le row nu pu s := by
  obtain ⟨a1, a2, a3, aG, aR, aK, a4, a6, a8, ⟨st, a10⟩, ⟨md, σ, a12⟩, aF, T, aT, aJ⟩ := h
  have el : (ks ++ [k]).length = ks.length + 1 := by rw [List.length_append]; rfl
  refine ⟨by rw [el]; exact b1, by rw [hs 2 (by omega) (by omega)]; exact a2, by rw [hs 3 (by omega) (by omega)]; exact a3, aG.eq (fun q h1 h2 => hs q (by omega) (by omega)), aR.eq (fun q h1 h2 => hs q (by omega) (by omega)), isK.push (aK.eq (fun q h1 h2 => hs q (by omega) (by omega))) b2 b3, a4.eq (hs _ (by omega) (by omega)) (hs _ (by omega) (by omega)), a6.eq (hs _ (by omega) (by omega)) (hs _ (by omega) (by omega)), a8.eq (hs _ (by omega) (by omega)) (hs _ (by omega) (by omega)), ⟨st, a10.eq (hs _ (by omega) (by omega)) (hs _ (by omega) (by omega))⟩, ⟨md, σ, a12.eq (fun q h1 h2 => hs q (by omega) (by omega))⟩, ⟨fun q h1 h2 => ?_, fun q h1 h2 => ?_, fun q h1 h2 => ?_⟩, T, aT, fun q h1 => ?_⟩
  · rw [hs q (by omega) (by omega)]; exact aF.1 q h1 h2
  · rw [hs q (by omega) (by omega)]; exact aF.2.1 q h1 h2
  · rw [el] at h1; rw [hs q (by omega) (by omega)]; exact aF.2.2 q (by omega) h2
  · rw [hs q (by omega) (by omega)]; exact aJ q h1
set_option maxHeartbeats 4000000 in
set_option maxRecDepth 100000 in
theorem c_PS_check {M : mg_M} {gs : List gN} {ps : List pN} {ks : List kN} {wa : Nat} {fo : fO} {le : Bool} {row nu pu : List Int32} {s : Int64} {i j runs : Nat} {g : gN} {p : pN} {sd : Int64} (h : isPS M gs ps ks wa fo le row nu pu s) (hw : wfG gs) (hpl : ps.length ≤ 10) (hg : gs[i]? = some g) (hp : ps[j]? = some p) (hr1 : 1 ≤ runs) (hr2 : runs ≤ 60) (hk200 : findKC gs p i (nI i) (nI j) ks ks.length = none → ks.length < 200) : mg_Ct Y_PS_check { frames := 13, cells := 3, slots := 66, locals := 308 } [.ref 1, .int (nI i), .int (nI j), .long sd, .int (nI runs)] M (fun v M' => v = some (.int (chkS gs ks fo le row nu p i j runs sd).1) ∧ isPS M' gs ps (chkS gs ks fo le row nu p i j runs sd).2.1 (chkS gs ks fo le row nu p i j runs sd).2.2.1 (chkS gs ks fo le row nu p i j runs sd).2.2.2.1 (chkS gs ks fo le row nu p i j runs sd).2.2.2.2.1 (chkS gs ks fo le row nu p i j runs sd).2.2.2.2.2.1 (chkS gs ks fo le row nu p i j runs sd).2.2.2.2.2.2 pu s ∧ smC M M') := by
  obtain ⟨hO, hA, hB, hG, hRr, hK, h4, h6, h8, ⟨st, h10⟩, ⟨md, σ, hD⟩, hF, T, hT, hJ⟩ := id h
  have hi := (List.getElem?_eq_some_iff.mp hg).1
  have hj := (List.getElem?_eq_some_iff.mp hp).1
  refine mg_met [some (.ref 1), some (.int (nI i)), some (.int (nI j)), some (.long sd), none, some (.int (nI runs)), none, none, none] (by decide +kernel) rfl (Nat.le_of_ble_eq_true rfl) ?_
  intro X hR _
  first | refine mg_aload_n d_PS_check_0 rfl rfl ?_ | refine mg_aload_nN d_PS_check_0 rfl rfl ?_
  refine mg_iload_n d_PS_check_1 rfl rfl ?_
  refine mg_callV (vl_PS_61 rfl) d_PS_check_2 hO rfl rfl (c_PS_generatorAt_in hO hA hi hw.1) rfl rfl (by rw [hR]; decide) (by rw [hR]; decide) (Nat.le_of_ble_eq_true rfl) ?_
  rintro v M2 ⟨rfl, rfl⟩
  first | refine mg_astore d_PS_check_5 (Nat.le_of_ble_eq_true rfl) rfl ?_ | refine mg_astoreN d_PS_check_5 (Nat.le_of_ble_eq_true rfl) rfl ?_
  first | refine mg_aload_n d_PS_check_7 rfl rfl ?_ | refine mg_aload_nN d_PS_check_7 rfl rfl ?_
  refine mg_iload_n d_PS_check_8 rfl rfl ?_
  refine mg_callV (vl_PS_65 rfl) d_PS_check_9 hO rfl rfl (c_PS_propertyAt_in hO hB hj hpl) rfl rfl (by rw [hR]; decide) (by rw [hR]; decide) (Nat.le_of_ble_eq_true rfl) ?_
  rintro v M3 ⟨rfl, rfl⟩
  first | refine mg_astore d_PS_check_12 (Nat.le_of_ble_eq_true rfl) rfl ?_ | refine mg_astoreN d_PS_check_12 (Nat.le_of_ble_eq_true rfl) rfl ?_
  first | refine mg_aload d_PS_check_14 rfl ?_ | refine mg_aloadN d_PS_check_14 rfl ?_
  refine mg_ifnull d_PS_check_16 ?_
  first | refine mg_aload d_PS_check_19 rfl ?_ | refine mg_aloadN d_PS_check_19 rfl ?_
  refine mg_ifnull d_PS_check_21 ?_
  refine mg_iload d_PS_check_24 rfl ?_
  refine mg_iconst (v := 1) d_PS_check_26 (by decide) ?_
  refine mg_icmp_lt (tgt := 37) d_PS_check_27 (by decide) (fun c_27 => ?_) (fun c_27 => ?_)
  · exact absurd c_27 (nI_nlt (b := 1) hr1 (by omega))
  · refine mg_iload d_PS_check_30 rfl ?_
    refine mg_bipush (v := 60) d_PS_check_32 (by decide) ?_
    refine mg_icmp_le (tgt := 40) d_PS_check_34 (by decide) (fun c_34 => ?_) (fun c_34 => ?_)
    · first | refine mg_aload_n d_PS_check_40 rfl rfl ?_ | refine mg_aload_nN d_PS_check_40 rfl rfl ?_
      refine mg_iconst (v := 0) d_PS_check_41 (by decide) ?_
      refine mg_putfield (fw_PS_69 _) d_PS_check_42 hO (Nat.le_of_ble_eq_true rfl) (fun _ => ⟨rfl, rfl⟩) ?_
      refine mg_eqM (M' := mg_up M3 1 (psF gs.length ps.length (kpV ks.length) ks.length (nI 0) (foG fo) (foP fo) (foV fo) le s)) (by rw [nI_0]; rfl) ?_
      have hP1 : isPS (mg_up M3 1 (psF gs.length ps.length (kpV ks.length) ks.length (nI 0) (foG fo) (foP fo) (foV fo) le s)) gs ps ks 0 fo le row nu pu s := h.mk' (mg_up_s _ _ _) (h4.up (by omega) (by omega)) (h6.up (by omega) (by omega)) (h8.up (by omega) (by omega)) ⟨st, h10.up (by omega) (by omega)⟩ ⟨md, σ, hD.up (by omega)⟩ (fun k hk => mg_up_n _ _ (by omega))
      have hC1 : smC M3 (mg_up M3 1 (psF gs.length ps.length (kpV ks.length) ks.length (nI 0) (foG fo) (foP fo) (foV fo) le s)) := fun k hk => mg_up_n _ _ (by omega)
      generalize mg_up M3 1 (psF gs.length ps.length (kpV ks.length) ks.length (nI 0) (foG fo) (foP fo) (foV fo) le s) = M4 at hP1 hC1 ⊢
      clear h hO hA hB hG hRr hK h4 h6 h8 h10 hD hF hT hJ
      obtain ⟨hO, hA, hB, hG, hRr, hK, h4, h6, h8, ⟨st, h10⟩, ⟨md, σ, hD⟩, hF, T, hT, hJ⟩ := id hP1
      obtain ⟨cs, ns, il, x, lm⟩ := σ
      first | refine mg_aload_n d_PS_check_45 rfl rfl ?_ | refine mg_aload_nN d_PS_check_45 rfl rfl ?_
      refine mg_iload_n d_PS_check_46 rfl rfl ?_
      refine mg_iload_n d_PS_check_47 rfl rfl ?_
      refine mg_callV (vl_PS_72 rfl) d_PS_check_48 hO rfl rfl (c_PS_findAmongKept hw hg hi hj hw.1 hpl rfl hO hA hB hG hD (hRr j p hp) hK h4 h6) rfl rfl (by rw [hR]; decide) (by rw [hR]; exact ⟨Nat.le_of_ble_eq_true rfl, Nat.le_of_ble_eq_true rfl⟩) (Nat.le_of_ble_eq_true rfl) ?_
      intro v M5 hq
      have eK := findK_eq (gs := gs) (p := p) (i := i) (gi := nI i) (pi := nI j) (ks := ks) ks.length md (cs, ns, il, x, lm)
      generalize findKF gs p i (nI i) (nI j) ks ks.length md (cs, ns, il, x, lm) = rr at hq eK
      obtain ⟨ov, md5, σ5⟩ := rr
      cases ov with
      | some vv =>
        obtain ⟨rfl, q1, q4, q6, q12, qs⟩ := hq
        refine mg_if_eq (tgt := 56) d_PS_check_51 (by decide) (fun c => absurd c (by decide)) (fun _ => ?_)
        refine mg_iconst (v := -1) d_PS_check_54 (by decide) ?_
        refine mg_ireturn d_PS_check_55 rfl rfl (Nat.le_of_ble_eq_true rfl) (Nat.le_of_ble_eq_true rfl) ?_
        unfold chkS
        rw [eK]
        exact ⟨rfl, hP1.mk' (fo' := some (i, j, vv)) q1 q4 q6 (h8.eq (qs _ (by omega) (by omega) (by omega)) (qs _ (by omega) (by omega) (by omega))) ⟨st, h10.eq (qs _ (by omega) (by omega) (by omega)) (qs _ (by omega) (by omega) (by omega))⟩ ⟨_, _, q12⟩ (fun k hk => qs k (by omega) (by omega) (by omega)), hC1.tr (fun k hk => qs k (by omega) (by omega) (by omega))⟩
      | none =>
        obtain ⟨rfl, q12, qs⟩ := hq
        refine mg_if_eq (tgt := 56) d_PS_check_51 (by decide) (fun _ => ?_) (fun c => absurd rfl c)
        have hP5 : isPS M5 gs ps ks 0 fo le row nu pu s := hP1.mk' ((qs 1 (by omega)).trans hO) (h4.sm qs (by omega)) (h6.sm qs (by omega)) (h8.sm qs (by omega)) ⟨st, h10.sm qs (by omega)⟩ ⟨_, _, q12⟩ (fun k hk => qs k (by omega))
        have hC5 : smC M3 M5 := hC1.tr (smC.of qs (by omega) (by omega))
        replace eK : findKC gs p i (nI i) (nI j) ks ks.length = none := eK
        have hk2 := hk200 eK
        clear qs hP1 hC1 hO hA hB hG hRr hK h4 h6 h8 h10 hD hF hT hJ
        obtain ⟨hO, hA, hB, hG, hRr, hK, h4, h6, h8, ⟨st, h10⟩, -, hF, T, hT, hJ⟩ := id hP5
        obtain ⟨cs5, ns5, il5, x5, lm5⟩ := σ5
        refine mg_aload_n d_PS_check_56 rfl rfl ?_
        refine mg_aload d_PS_check_57 rfl ?_
        refine mg_aload d_PS_check_59 rfl ?_
        refine mg_lload_n d_PS_check_61 rfl rfl ?_
        refine mg_iload d_PS_check_62 rfl ?_
        refine mg_callV (vl_PS_76 rfl) d_PS_check_64 hO rfl rfl (c_PS_findBySeed hw hg hr2 hO hG q12 (hRr j p hp) h4 h6) rfl rfl (by rw [hR]; decide) (by rw [hR]; exact ⟨Nat.le_of_ble_eq_true rfl, Nat.le_of_ble_eq_true rfl⟩) (Nat.le_of_ble_eq_true rfl) ?_
        intro v M6 hq
        have eS := seed_eq (gs := gs) (p := p) (i := i) (runs := runs) 121 0 0 0 md5 (cs5, ns5, il5, sd, lm5)
        have eC := seedF_c (gs := gs) (p := p) (i := i) (runs := runs) (by omega) 121 0 0 0 md5 (cs5, ns5, il5, sd, lm5)
        replace eS : seedC gs p i runs 121 0 0 0 sd = _ := eS
        generalize seedF gs p i runs 121 0 0 0 md5 (cs5, ns5, il5, sd, lm5) = rr at hq eS eC
        obtain ⟨ov, cc, ww, md6, σ6⟩ := rr
        cases ov with
        | none =>
          obtain ⟨rfl, q1, q12, qs⟩ := hq
          have hne : ¬ cc = -1 := eC.1 rfl
          refine mg_istore d_PS_check_67 (Nat.le_of_ble_eq_true rfl) rfl ?_
          refine mg_iload d_PS_check_69 rfl ?_
          refine mg_iconst (v := -1) d_PS_check_71 (by decide) ?_
          refine mg_icmp_ne (tgt := 106) d_PS_check_72 (by decide) (fun _ => ?_) (fun c => absurd c hne)
          refine mg_iload d_PS_check_106 rfl ?_
          refine mg_ireturn d_PS_check_108 rfl rfl (Nat.le_of_ble_eq_true rfl) (Nat.le_of_ble_eq_true rfl) ?_
          unfold chkS
          rw [eK]
          dsimp only
          rw [eS]
          have qq : ∀ k, k ≠ 1 → (k < 12 ∨ 20 ≤ k) → M6 k = M5 k := qs
          exact ⟨rfl, hP5.mk' q1 (h4.eq (qq _ (by omega) (by omega)) (qq _ (by omega) (by omega))) (h6.eq (qq _ (by omega) (by omega)) (qq _ (by omega) (by omega))) (h8.eq (qq _ (by omega) (by omega)) (qq _ (by omega) (by omega))) ⟨st, h10.eq (qq _ (by omega) (by omega)) (qq _ (by omega) (by omega))⟩ ⟨_, _, q12⟩ (fun k hk => qq k (by omega) (by omega)), hC5.tr (fun k hk => qq k (by omega) (by omega))⟩
        | some vv =>
          obtain ⟨rfl, q1, q4, q6, q12, qs⟩ := hq
          have hcc : cc = -1 := eC.2 vv rfl
          subst hcc
          have qq : ∀ k, 8 ≤ k → (k < 12 ∨ 20 ≤ k) → M6 k = M5 k := fun k h1 h2 => qs k (by omega) (by omega) h2
          have hP6 : isPS M6 gs ps ks ww (some (i, j, vv)) false σ6.1 σ6.2.1 pu s := hP5.mk' (fo' := some (i, j, vv)) q1 q4 q6 (h8.eq (qq _ (by omega) (by omega)) (qq _ (by omega) (by omega))) ⟨st, h10.eq (qq _ (by omega) (by omega)) (qq _ (by omega) (by omega))⟩ ⟨_, _, q12⟩ (fun k hk => qs k (by omega) (by omega) (by omega))
          have hC6 : smC M3 M6 := hC5.tr (fun k hk => qs k (by omega) (by omega) (by omega))
          have hfr : ∀ k, 200 + 3 * ks.length ≤ k → k < 800 → M6 k = none := fun k h1 h2 => by rw [qq k (by omega) (by omega)]; exact hF.2.2 k h1 h2
          refine mg_istore d_PS_check_67 (Nat.le_of_ble_eq_true rfl) rfl ?_
          refine mg_iload d_PS_check_69 rfl ?_
          refine mg_iconst (v := -1) d_PS_check_71 (by decide) ?_
          refine mg_icmp_ne (tgt := 106) d_PS_check_72 (by decide) (fun c => absurd rfl c) (fun _ => ?_)
          refine mg_aload_n d_PS_check_75 rfl rfl ?_
          refine mg_new (h := 200 + 3 * ks.length) nl_PS_80 d_PS_check_76 (by omega) (hfr _ (by omega) (by omega)) (mg_nr_cl rfl) (by rw [hR]; exact Nat.le_of_ble_eq_true rfl) (by rw [hR]; exact Nat.le_of_ble_eq_true rfl) ?_
          refine mg_dup d_PS_check_79 rfl ?_
          refine mg_iload_n d_PS_check_80 rfl rfl ?_
          refine mg_iload_n d_PS_check_81 rfl rfl ?_
          refine mg_aload_n d_PS_check_82 rfl rfl ?_
          refine mg_getfield fl_PS_24 d_PS_check_83 (by rw [mg_up_n _ _ (by omega)]; exact q1) rfl ?_
          refine mg_aload_n d_PS_check_86 rfl rfl ?_
          refine mg_getfield fl_PS_82 d_PS_check_87 (by rw [mg_up_n _ _ (by omega)]; exact q1) rfl ?_
          have fin : ∀ M7 : mg_M, M7 (200 + 3 * ks.length) = some (.inr (10, [.int (nI i), .int (nI j), .ref (200 + 3 * ks.length + 1), kpV ks.length])) → isI M7 (200 + 3 * ks.length + 1) σ6.1 → sm (200 + 3 * ks.length) (200 + 3 * ks.length + 3) (mg_up M6 (200 + 3 * ks.length) (.inr (10, [.int 0, .int 0, .null, .null]))) M7 → mg_G X Y_PS_check (mg_Q X (fun v M' => v = some (.int (chkS gs ks fo le row nu p i j runs sd).1) ∧ isPS M' gs ps (chkS gs ks fo le row nu p i j runs sd).2.1 (chkS gs ks fo le row nu p i j runs sd).2.2.1 (chkS gs ks fo le row nu p i j runs sd).2.2.2.1 (chkS gs ks fo le row nu p i j runs sd).2.2.2.2.1 (chkS gs ks fo le row nu p i j runs sd).2.2.2.2.2.1 (chkS gs ks fo le row nu p i j runs sd).2.2.2.2.2.2 pu s ∧ smC M3 M') { frames := 13, cells := 3, slots := 66, locals := 308 }) M7 3 66 93 [some (.ref 1), some (.int (nI i)), some (.int (nI j)), some (.long sd), none, some (.int (nI runs)), some (.ref (100 + i)), some (.ref (150 + j)), some (.int (-1))] [.ref (200 + 3 * ks.length), .ref 1] := fun M7 k1 k2 ks7 => by
            have k7 : ∀ k, k < 200 + 3 * ks.length ∨ 200 + 3 * ks.length + 3 ≤ k → M7 k = M6 k := fun k hk => by rw [ks7 k hk, mg_up_n _ _ (by omega)]
            refine mg_putfield (fw_PS_82 _) d_PS_check_93 (by rw [k7 1 (by omega)]; exact q1) (Nat.le_of_ble_eq_true rfl) (fun _ => ⟨rfl, rfl⟩) ?_
            refine mg_aload_n d_PS_check_96 rfl rfl ?_
            refine mg_dup d_PS_check_97 rfl ?_
            refine mg_getfield fl_PS_89 d_PS_check_98 (mg_up_s _ _ _) rfl ?_
            refine mg_iconst (v := 1) d_PS_check_101 (by decide) ?_
            refine mg_iadd d_PS_check_102 ?_
            refine mg_eqi (nI_1 ks.length) ?_
            refine mg_putfield (fw_PS_89 _) d_PS_check_103 (mg_up_s _ _ _) (Nat.le_of_ble_eq_true rfl) (fun _ => ⟨rfl, rfl⟩) ?_
            rw [mg_up_up]
            refine mg_eqM (M' := mg_up M7 1 (psF gs.length ps.length (kpV (ks.length + 1)) (ks.length + 1) (nI ww) (.ref (100 + i)) (.ref (150 + j)) vv false s)) rfl ?_
            refine mg_iload d_PS_check_106 rfl ?_
            refine mg_ireturn d_PS_check_108 rfl rfl (Nat.le_of_ble_eq_true rfl) (Nat.le_of_ble_eq_true rfl) ?_
            unfold chkS
            rw [eK]
            dsimp only
            rw [eS]
            refine ⟨rfl, ?_, hC6.tr (fun k hk => by rw [mg_up_n _ _ (by omega), k7 k (by omega)])⟩
            exact hP6.addK (k := (nI i, nI j, σ6.1)) hw.1 hpl hk2 (mg_up_s _ _ _) (by rw [mg_up_n _ _ (by omega)]; exact k1) (k2.up (by omega) (by omega)) (fun k h1 h2 => by rw [mg_up_n _ _ h1, k7 k h2])
          generalize hln : ks.length = n at fin q1 hfr ⊢
          cases n with
          | zero =>
            refine mg_callI (il_PS_86 rfl) d_PS_check_90 (c_Kp_initN (r := 4) (ys := σ6.1) (mg_up_s _ _ _) (by rw [mg_up_n _ _ (by omega)]; exact hfr _ (by omega) (by omega)) (by rw [mg_up_n _ _ (by omega)]; exact hfr _ (by omega) (by omega)) (q4.up (by omega) (by omega)) (by omega)) rfl rfl (by rw [hR]; decide) (by rw [hR]; exact ⟨Nat.le_of_ble_eq_true rfl, Nat.le_of_ble_eq_true rfl⟩) (Nat.le_of_ble_eq_true rfl) ?_
            rintro v M7 ⟨rfl, k1, k2, ks7⟩
            exact fin M7 k1 k2 ks7
          | succ n =>
            refine mg_callI (il_PS_86 rfl) d_PS_check_90 (c_Kp_initR (r := 4) (ys := σ6.1) (mg_up_s _ _ _) (by rw [mg_up_n _ _ (by omega)]; exact hfr _ (by omega) (by omega)) (by rw [mg_up_n _ _ (by omega)]; exact hfr _ (by omega) (by omega)) (q4.up (by omega) (by omega)) (by omega)) rfl rfl (by rw [hR]; decide) (by rw [hR]; exact ⟨Nat.le_of_ble_eq_true rfl, Nat.le_of_ble_eq_true rfl⟩) (Nat.le_of_ble_eq_true rfl) ?_
            rintro v M7 ⟨rfl, k1, k2, ks7⟩
            exact fin M7 k1 k2 ks7
    · exact absurd (nI_le (b := 60) hr2 (by decide)) c_34

