/-! EACH CALL, on both sides: the same answer, the same state behind it -/
theorem mg_Ct.ce {Y : mg_Y} {rm : Room} {av : List Value} {M : mg_M} {post' post : Option Value → mg_M → Prop} (h : mg_Ct Y rm av M post') (hp : ∀ v M', post' v M' → post v M') : mg_Ce Y rm av M post := ⟨post', h, hp⟩
theorem mg_Ct.ce0 {Y : mg_Y} {rm : Room} {av : List Value} {M : mg_M} {a : Value} {q : stT} (h : mg_Ct Y rm av M (fun v M' => v = some a ∧ M' = M)) (hP : pP M q) : mg_Ce Y rm av M (fun v M' => v = some a ∧ pP M' q ∧ smC M M') := ⟨_, h, fun v M' hv => by
  obtain ⟨h1, h2⟩ := hv
  subst h2
  exact ⟨h1, hP, smC.rf⟩⟩
abbrev rmP (f c s l : Nat) : Room := { frames := f, cells := c, slots := s, locals := l }
section DUO
variable {gs : List gN} {ps : List pN} {ks : List kN} {wa : Nat} {fo : fO} {le : Bool} {row nu pu : List Int32} {s : Int64}
theorem duo_generator {kd a b : Int32} (hi : Inv gs ps ks fo row pu) : duoP aInt Y_PS_generator Y_Mo_generator (rmP 5 1 3 101) (rmP 1 0 0 22) [.int kd, .int a, .int b] (gs, ps, ks, wa, fo, le, row, nu, pu, s) :=
  ⟨.int (genS gs kd a b).1, ((genS gs kd a b).2, ps, ks, wa, fo, le, row, nu, pu, s), ⟨_, rfl⟩, hi.gen, fun M h => mg_Ct.ce (c_PS_generator h hi.1 hi.2.1 (hi.2.2.1.le hi.1.1 hi.2.1)) (fun _ _ h => h), fun M h => mg_Ct.ce (c_Mo_generator h hi.1) (fun _ _ h => h)⟩
theorem duo_property {kd k c : Int32} (hi : Inv gs ps ks fo row pu) : duoP aInt Y_PS_property Y_Mo_property (rmP 2 1 3 35) (rmP 0 0 0 0) [.int kd, .int k, .int c] (gs, ps, ks, wa, fo, le, row, nu, pu, s) :=
  ⟨.int (prS ps kd k c).1, (gs, (prS ps kd k c).2, ks, wa, fo, le, row, nu, pu, s), ⟨_, rfl⟩, hi.pro, fun M h => mg_Ct.ce (c_PS_property h hi.1.1 hi.2.1 (hi.2.2.1.le hi.1.1 hi.2.1)) (fun _ _ h => h), fun M h => mg_Ct.ce (c_Mo_property h hi.2.1) (fun _ _ h => h)⟩
theorem duo_check {gi pj rn : Int32} {sd : Int64} (hi : Inv gs ps ks fo row pu) : duoP aInt Y_PS_check Y_Mo_check (rmP 13 3 66 308) (rmP 5 0 0 118) [.int gi, .int pj, .long sd, .int rn] (gs, ps, ks, wa, fo, le, row, nu, pu, s) := by
  by_cases hb : offR gi gs.length ∨ offR pj ps.length ∨ rn < 1 ∨ 60 < rn
  · exact ⟨.int (-3), (gs, ps, ks, wa, fo, le, row, nu, pu, s), ⟨_, rfl⟩, hi, fun M h => mg_Ct.ce0 (c_PS_check_no h hi.1 hi.2.1 hb) h, fun M h => mg_Ct.ce (c_Mo_check_no h hb) (fun _ _ h => h)⟩
  · rcases offR_or gi (n := gs.length) hi.1.1 with h1 | ⟨i, h1, rfl⟩
    · exact absurd (Or.inl h1) hb
    · rcases offR_or pj (n := ps.length) (by have := hi.2.1; omega) with h2 | ⟨jj, h2, rfl⟩
      · exact absurd (Or.inr (Or.inl h2)) hb
      · have r1 : ¬ rn < 1 := fun q => hb (Or.inr (Or.inr (Or.inl q)))
        have r2 : ¬ 60 < rn := fun q => hb (Or.inr (Or.inr (Or.inr q)))
        obtain ⟨runs, r3, rfl⟩ := nI_of (x := rn) (fun q => r1 (by
          rw [Int32.lt_iff_toInt_lt] at q ⊢
          have e1 : (0 : Int32).toInt = 0 := by decide
          have e2 : (1 : Int32).toInt = 1 := by decide
          omega))
        have r4 : 1 ≤ runs := by
          rcases Nat.lt_or_ge runs 1 with q | q
          · exact absurd (nI_lt (a := runs) (b := 1) q (by omega)) r1
          · exact q
        have r5 : runs ≤ 60 := by
          rcases Nat.lt_or_ge 60 runs with q | q
          · exact absurd (nI_lt (a := 60) (b := runs) q r3) r2
          · exact q
        obtain ⟨g, hg⟩ : ∃ g, gs[i]? = some g := ⟨_, List.getElem?_eq_getElem h1⟩
        obtain ⟨p, hp⟩ : ∃ p, ps[jj]? = some p := ⟨_, List.getElem?_eq_getElem h2⟩
        have hk := hi.2.2.1.lt hi.1.1 hi.2.1 hg hp
        exact ⟨.int (chkS gs ks fo le row nu p i jj runs sd).1, (gs, ps, (chkS gs ks fo le row nu p i jj runs sd).2.1, (chkS gs ks fo le row nu p i jj runs sd).2.2.1, (chkS gs ks fo le row nu p i jj runs sd).2.2.2.1, (chkS gs ks fo le row nu p i jj runs sd).2.2.2.2.1, (chkS gs ks fo le row nu p i jj runs sd).2.2.2.2.2.1, (chkS gs ks fo le row nu p i jj runs sd).2.2.2.2.2.2, pu, s), ⟨_, rfl⟩, hi.chk hg hp, fun M h => mg_Ct.ce (c_PS_check h hi.1 hi.2.1 hg hp r4 r5 hk) (fun _ _ h => h), fun M h => mg_Ct.ce (c_Mo_check h hi.1 hi.2.1 hg hp r4 r5 (hi.2.2.1.le hi.1.1 hi.2.1) hi.2.2.1.nn hk) (fun _ _ h => h)⟩
theorem duo_shrink {t : Int32} (hi : Inv gs ps ks fo row pu) : duoP aInt Y_PS_shrink Y_Mo_shrink (rmP 12 0 0 282) (rmP 4 0 0 93) [.int t] (gs, ps, ks, wa, fo, le, row, nu, pu, s) := by
  by_cases hb : fo = none ∨ t < 0 ∨ 400 < t
  · refine ⟨.int (-1), (gs, ps, ks, wa, fo, le, row, nu, pu, s), ⟨_, rfl⟩, hi, fun M h => ?_, fun M h => mg_Ct.ce (c_Mo_shrink_no h hb) (fun _ _ h => h)⟩
    cases hf : fo with
    | none => subst hf; exact mg_Ct.ce0 (c_PS_shrink_n h rfl) h
    | some z =>
      subst hf
      obtain ⟨i, jj, v⟩ := z
      exact mg_Ct.ce0 (c_PS_shrink_t h rfl (hb.elim (fun q => by cases q) id)) h
  · cases hf : fo with
    | none => exact absurd (Or.inl hf) hb
    | some z =>
      obtain ⟨i, jj, v⟩ := z
      have r1 : ¬ t < 0 := fun q => hb (Or.inr (Or.inl q))
      have r2 : ¬ 400 < t := fun q => hb (Or.inr (Or.inr q))
      obtain ⟨tries, r3, rfl⟩ := nI_of (x := t) r1
      have r5 : tries ≤ 400 := by
        rcases Nat.lt_or_ge 400 tries with q | q
        · exact absurd (nI_lt (a := 400) (b := tries) q r3) r2
        · exact q
      subst hf
      obtain ⟨g, p, hg, hp, hv, hx⟩ := hi.2.2.2.1 i jj v rfl
      obtain ⟨e1, e2, e3, e4, e5⟩ := shk_eq (p := p) (tries := tries) (nu := nu) (isBd_4 hv) hx
      refine ⟨.int (nI (shrF gs p i v tries 0 0 row nu).1), (gs, ps, ks, wa, some (i, jj, v), (le || (shrF gs p i v tries 0 0 row nu).2.1), (shrF gs p i v tries 0 0 row nu).2.2.1, rwT (rowC gs i (shrF gs p i v tries 0 0 row nu).2.2.1), pu, s), ⟨_, rfl⟩, hi.shr e5, fun M h => mg_Ct.ce (c_PS_shrink h rfl hi.1 hg hp r5) (fun v M' hv => ?_), fun M h => mg_Ct.ce (c_Mo_shrink h rfl hi.1 hi.2.1 hg hp r5 hx.nn (isBd_4 hv)) (fun _ _ h => h)⟩
      obtain ⟨a1, a2, a3⟩ := hv
      rw [e1] at a1
      rw [e2, e3, e4] at a2
      exact ⟨a1, a2, a3⟩
theorem duo_least (hi : Inv gs ps ks fo row pu) : duoP aInt Y_PS_least Y_Mo_least (rmP 0 0 0 0) (rmP 0 0 0 0) [] (gs, ps, ks, wa, fo, le, row, nu, pu, s) :=
  ⟨.int (bI le), (gs, ps, ks, wa, fo, le, row, nu, pu, s), ⟨_, rfl⟩, hi, fun M h => mg_Ct.ce0 (c_PS_least h) h, fun M h => mg_Ct.ce (c_Mo_least h) (fun _ _ h => h)⟩
theorem duo_sum (hi : Inv gs ps ks fo row pu) : duoP aLong Y_PS_sum Y_Mo_sum (rmP 0 0 0 0) (rmP 0 0 0 0) [] (gs, ps, ks, wa, fo, le, row, nu, pu, s) :=
  ⟨.long s, (gs, ps, ks, wa, fo, le, row, nu, pu, s), ⟨_, rfl⟩, hi, fun M h => mg_Ct.ce0 (c_PS_sum h) h, fun M h => mg_Ct.ce (c_Mo_sum h) (fun _ _ h => h)⟩
theorem duo_choice {i : Int32} (hi : Inv gs ps ks fo row pu) : duoP aInt Y_PS_choice Y_Mo_choice (rmP 1 0 0 22) (rmP 0 0 0 0) [.int i] (gs, ps, ks, wa, fo, le, row, nu, pu, s) :=
  ⟨.int (atI row i (-1)), (gs, ps, ks, wa, fo, le, row, nu, pu, s), ⟨_, rfl⟩, hi, fun M h => mg_Ct.ce0 (c_PS_choice h) h, fun M h => mg_Ct.ce (c_Mo_choice h) (fun _ _ h => h)⟩
theorem duo_number {i : Int32} (hi : Inv gs ps ks fo row pu) : duoP aInt Y_PS_number Y_Mo_number (rmP 1 0 0 22) (rmP 0 0 0 0) [.int i] (gs, ps, ks, wa, fo, le, row, nu, pu, s) :=
  ⟨.int (atI nu i 0), (gs, ps, ks, wa, fo, le, row, nu, pu, s), ⟨_, rfl⟩, hi, fun M h => mg_Ct.ce0 (c_PS_number h) h, fun M h => mg_Ct.ce (c_Mo_number h) (fun _ _ h => h)⟩
theorem duo_size {i : Int32} (hi : Inv gs ps ks fo row pu) : duoP aInt Y_PS_size Y_Mo_size (rmP 1 0 0 20) (rmP 0 0 0 0) [.int i] (gs, ps, ks, wa, fo, le, row, nu, pu, s) :=
  ⟨.int (sizF i row.length nu.length ks.length wa), (gs, ps, ks, wa, fo, le, row, nu, pu, s), ⟨_, rfl⟩, hi, fun M h => mg_Ct.ce0 (c_PS_size h) h, fun M h => mg_Ct.ce (c_Mo_size h) (fun _ _ h => h)⟩
theorem duo_put {i : Int32} (hi : Inv gs ps ks fo row pu) : duoP aInt Y_PS_put Y_Mo_put (rmP 1 0 0 21) (rmP 0 0 0 0) [.int i] (gs, ps, ks, wa, fo, le, row, nu, pu, s) :=
  ⟨.int (bI (putB pu i)), (gs, ps, ks, wa, fo, le, row, nu, (if putB pu i = true then pu ++ [i] else pu), s), ⟨_, rfl⟩, hi.put, fun M h => mg_Ct.ce (c_PS_put h) (fun _ _ h => h), fun M h => mg_Ct.ce (c_Mo_put h) (fun _ _ h => h)⟩
theorem duo_replay {gi pj : Int32} (hi : Inv gs ps ks fo row pu) : duoP aInt Y_PS_replay Y_Mo_replay (rmP 12 0 0 282) (rmP 4 0 0 93) [.int gi, .int pj] (gs, ps, ks, wa, fo, le, row, nu, pu, s) := by
  rcases offR_or gi (n := gs.length) hi.1.1 with h1 | ⟨i, h1, rfl⟩
  · exact ⟨.int (-1), (gs, ps, ks, wa, fo, le, row, nu, pu, s), ⟨_, rfl⟩, hi, fun M h => mg_Ct.ce0 (c_PS_replay_no1 h hi.1 hi.2.1 h1) h, fun M h => mg_Ct.ce (c_Mo_replay_no h (Or.inl h1)) (fun _ _ h => h)⟩
  · rcases offR_or pj (n := ps.length) (by have := hi.2.1; omega) with h2 | ⟨jj, h2, rfl⟩
    · exact ⟨.int (-1), (gs, ps, ks, wa, fo, le, row, nu, pu, s), ⟨_, rfl⟩, hi, fun M h => mg_Ct.ce0 (c_PS_replay_no2 h hi.1 h1 h2) h, fun M h => mg_Ct.ce (c_Mo_replay_no h (Or.inr h2)) (fun _ _ h => h)⟩
    · obtain ⟨g, hg⟩ : ∃ g, gs[i]? = some g := ⟨_, List.getElem?_eq_getElem h1⟩
      obtain ⟨p, hp⟩ : ∃ p, ps[jj]? = some p := ⟨_, List.getElem?_eq_getElem h2⟩
      exact ⟨.int (vdC p (rowC gs i pu)), (gs, ps, ks, wa, fo, le, row, (if vdC p (rowC gs i pu) = 4 then [] else (rowC gs i pu).2.1), [], s), ⟨_, rfl⟩, hi.rep, fun M h => mg_Ct.ce (c_PS_replay h hi.1 hi.2.1 hg hp) (fun _ _ h => h), fun M h => mg_Ct.ce (c_Mo_replay h hi.1 hi.2.1 hg hp hi.2.2.2.2) (fun _ _ h => h)⟩
theorem duo_all {gi mo : Int32} (hi : Inv gs ps ks fo row pu) : duoP aInt Y_PS_all Y_Mo_all (rmP 11 0 0 259) (rmP 4 0 0 93) [.int gi, .int mo] (gs, ps, ks, wa, fo, le, row, nu, pu, s) := by
  rcases offR_or gi (n := gs.length) hi.1.1 with h1 | ⟨i, h1, rfl⟩
  · exact ⟨.int (-1), (gs, ps, ks, wa, fo, le, row, nu, pu, s), ⟨_, rfl⟩, hi, fun M h => mg_Ct.ce0 (c_PS_all_n h h1) h, fun M h => mg_Ct.ce (c_Mo_all_no h (Or.inl h1)) (fun _ _ h => h)⟩
  · by_cases hb : mo < 1 ∨ 200 < mo
    · exact ⟨.int (-1), (gs, ps, ks, wa, fo, le, row, nu, pu, s), ⟨_, rfl⟩, hi, fun M h => mg_Ct.ce0 (c_PS_all_m h hi.1 h1 hb) h, fun M h => mg_Ct.ce (c_Mo_all_no h (Or.inr hb)) (fun _ _ h => h)⟩
    · have r1 : ¬ mo < 1 := fun q => hb (Or.inl q)
      have r2 : ¬ 200 < mo := fun q => hb (Or.inr q)
      obtain ⟨most, r3, rfl⟩ := nI_of (x := mo) (fun q => r1 (by
        rw [Int32.lt_iff_toInt_lt] at q ⊢
        have e1 : (0 : Int32).toInt = 0 := by decide
        have e2 : (1 : Int32).toInt = 1 := by decide
        omega))
      have r4 : 1 ≤ most := by
        rcases Nat.lt_or_ge most 1 with q | q
        · exact absurd (nI_lt (a := most) (b := 1) q (by omega)) r1
        · exact q
      have r5 : most ≤ 200 := by
        rcases Nat.lt_or_ge 200 most with q | q
        · exact absurd (nI_lt (a := 200) (b := most) q r3) r2
        · exact q
      obtain ⟨g, hg⟩ : ∃ g, gs[i]? = some g := ⟨_, List.getElem?_eq_getElem h1⟩
      exact ⟨.int (nI (allF gs i most 2000 0 [] 0).1), (gs, ps, ks, wa, fo, le, row, nu, pu, (allF gs i most 2000 0 [] 0).2), ⟨_, rfl⟩, hi, fun M h => mg_Ct.ce (c_PS_all h hi.1 hg r4 r5) (fun _ _ h => h), fun M h => mg_Ct.ce (c_Mo_all h hi.1 hg r4 r5) (fun _ _ h => h)⟩
end DUO
