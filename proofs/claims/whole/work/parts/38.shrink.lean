/-! SHRINK, ALL -/
theorem nn_draw {md : dM} {σ : dS} {m sp : Int32} (h : nnL σ.1) : nnL (drawF md σ m sp).2.1 := by
  unfold drawF
  by_cases hil : σ.2.2.1 = true
  · rw [if_pos hil]; exact h
  · rw [if_neg hil]
    generalize pickF md.1 md.2.1 (nI σ.1.length) sp σ.2.2.2.1 = a
    by_cases hb : a.1 < 0 ∨ m < a.1 ∨ 60 ≤ σ.1.length
    · rw [if_pos hb]; exact h
    · rw [if_neg hb]
      intro x hx
      replace hx : x ∈ σ.1 ++ [a.1] := hx
      rcases List.mem_append.mp hx with hx | hx
      · exact h x hx
      · rw [List.mem_singleton] at hx; subst hx; exact fun h9 => hb (Or.inl h9)
theorem nn_num {σ : dS} {n : Int32} (h : nnL σ.1) : nnL (numF σ n).1 := by
  unfold numF
  split
  · exact h
  · split
    · exact h
    · exact h
theorem nn_list {md : dM} {s : dS → dS} (hs : ∀ σ, nnL σ.1 → nnL (s σ).1) : ∀ (n : Nat) (σ : dS), nnL σ.1 → nnL (listF s md n σ).1 := by
  intro n
  induction n with
  | zero => intro σ h; exact h
  | succ n ih =>
    intro σ h
    rw [listF]
    split
    · exact ih _ (hs _ (nn_draw h))
    · exact nn_draw h
theorem nn_keep {s : dS → dS} {st : Nat} {b : Int32} (hs : ∀ σ, nnL σ.1 → nnL (s σ).1) : ∀ (n : Nat) (σ : dS), nnL σ.1 → nnL (keepF s st b n σ).1 := by
  intro n
  induction n with
  | zero => intro σ h; exact h
  | succ n ih =>
    intro σ h
    have h2 : nnL (s (cutF σ st)).1 := hs _ h
    rw [keepF]
    split
    · exact h
    · split
      · exact h2
      · exact ih _ h2
theorem nn_give {gs : List gN} {md : dM} : ∀ (d i : Nat) (σ : dS), nnL σ.1 → nnL (giveF gs md d i σ).1 := by
  intro d
  induction d with
  | zero => intro i σ h; exact h
  | succ d ih =>
    intro i σ h
    cases hg : gs[i]? with
    | none => rw [gF_none hg]; exact h
    | some g =>
      obtain ⟨k, a, b, dp⟩ := g
      match k, hg with
      | 0, hg => rw [gF_0 hg]; exact nn_num (nn_draw h)
      | 1, hg => rw [gF_1 hg]; exact nn_list (ih _) _ _ h
      | 2, hg =>
        rw [gF_2 hg]
        split
        · exact ih _ _ h
        · exact ih _ _ (ih _ _ h)
      | 3, hg =>
        rw [gF_3 hg]
        split
        · exact nn_draw h
        · split
          · exact ih _ _ (nn_draw h)
          · exact ih _ _ (nn_draw h)
      | 4, hg => rw [gF_4 hg]; exact nn_keep (ih _) _ _ h
      | k + 5, hg => rw [gF_5 hg]; exact ih _ _ h
theorem nnL_nil : nnL [] := fun x hx => by cases hx
theorem nn_row (gs : List gN) (i : Nat) (ys : List Int32) : nnL (rowC gs i ys).1 := nn_give 8 i _ nnL_nil
def shrF (gs : List gN) (p : pN) (i : Nat) (v0 : Int32) : Nat → Nat → Nat → List Int32 → List Int32 → Nat × Bool × List Int32 × List Int32
  | 0, _, got, row, nu => (got, false, row, nu)
  | n + 1, w, got, row, nu => match stepF row w with
    | none => (got, true, row, nu)
    | some l => if vdC p (rowC gs i l) = v0 then shrF gs p i v0 n 0 (got + 1) (rowC gs i l).1 (rowC gs i l).2.1 else shrF gs p i v0 n (w + 1) got row nu

set_option maxHeartbeats 4000000 in
set_option maxRecDepth 100000 in
theorem lp_shrink {X : mg_X} {M0 : mg_M} {gs : List gN} {ps : List pN} {ks : List kN} {wa : Nat} {le : Bool} {pu : List Int32} {s : Int64} {i j tries : Nat} {v0 : Int32} {g : gN} {p : pN} {r : Nat × Bool × List Int32 × List Int32} (hR : mg_R X = { frames := 12, cells := 0, slots := 0, locals := 282 }) (hw : wfG gs) (hg : gs[i]? = some g) (hp : ps[j]? = some p) (ht : tries ≤ 400) : ∀ (n wh got tr : Nat) (M : mg_M) (row nu : List Int32), tr + n = tries → wh ≤ tr → got ≤ tr → isPS M gs ps ks wa (some (i, j, v0)) le row nu pu s → nnL row → smC M0 M → shrF gs p i v0 n wh got row nu = r → mg_G X Y_PS_shrink (mg_Q X (fun v M' => v = some (.int (nI r.1)) ∧ isPS M' gs ps ks wa (some (i, j, v0)) (le || r.2.1) r.2.2.1 r.2.2.2 pu s ∧ smC M0 M') { frames := 12, cells := 0, slots := 0, locals := 282 }) M 0 0 55 [some (.ref 1), some (.int (nI tries)), some (.ref (100 + i)), some (.ref (150 + j)), some (.int (nI got)), some (.int (nI wh)), some (.int (nI tr))] [] := by
  intro n
  induction n with
  | zero =>
    intro wh got tr M row nu hn hwh hgt h hnn hC hr
    rw [shrF] at hr
    subst hr
    refine mg_iload d_PS_shrink_55 rfl ?_
    refine mg_iload_n d_PS_shrink_57 rfl rfl ?_
    refine mg_icmp_ge (tgt := 114) d_PS_shrink_58 (by decide) (fun _ => ?_) (fun c_58 => absurd (nI_le (by omega) (by omega)) c_58)
    refine mg_iload d_PS_shrink_114 rfl ?_
    exact mg_ireturn d_PS_shrink_116 rfl rfl (Nat.le_of_ble_eq_true rfl) (Nat.le_of_ble_eq_true rfl) ⟨rfl, by rw [Bool.or_false]; exact h, hC⟩
  | succ n ih =>
    intro wh got tr M row nu hn hwh hgt h hnn hC hr
    obtain ⟨hO, hA, hB, hG, hRr, hK, h4, h6, h8, ⟨st, h10⟩, ⟨md, σ, hD⟩, hF, T, hT, hJ⟩ := id h
    obtain ⟨how, gv, z⟩ := md
    obtain ⟨cs, ns, il, x, lm⟩ := σ
    refine mg_iload d_PS_shrink_55 rfl ?_
    refine mg_iload_n d_PS_shrink_57 rfl rfl ?_
    refine mg_icmp_ge (tgt := 114) d_PS_shrink_58 (by decide) (fun c_58 => ?_) (fun c_58 => ?_)
    · exact absurd c_58 (nI_ge (by omega) (by omega))
    · first | refine mg_aload_n d_PS_shrink_61 rfl rfl ?_ | refine mg_aload_nN d_PS_shrink_61 rfl rfl ?_
      refine mg_iload d_PS_shrink_62 rfl ?_
      refine mg_callV (vl_PS_107 rfl) d_PS_shrink_64 hO rfl rfl (c_PS_makeStep (w := wh) hO h4 h10 hnn (by omega)) rfl rfl (by rw [hR]; decide) (by rw [hR]; decide) (Nat.le_of_ble_eq_true rfl) ?_
      intro v M2 hq
      cases hst : stepF row wh with
      | none =>
        rw [hst] at hq
        obtain ⟨rfl, rfl⟩ := hq
        rw [shrF, hst] at hr
        dsimp only at hr
        subst hr
        refine mg_if_ne (tgt := 78) d_PS_shrink_67 (by decide) (fun c => absurd rfl c) (fun _ => ?_)
        refine mg_aload_n d_PS_shrink_70 rfl rfl ?_
        refine mg_iconst (v := 1) d_PS_shrink_71 (by decide) ?_
        refine mg_putfield (fw_PS_111 _) d_PS_shrink_72 hO (Nat.le_of_ble_eq_true rfl) (fun _ => ⟨rfl, rfl⟩) ?_
        refine mg_iload d_PS_shrink_75 rfl ?_
        refine mg_ireturn d_PS_shrink_77 rfl rfl (Nat.le_of_ble_eq_true rfl) (Nat.le_of_ble_eq_true rfl) ⟨rfl, ?_, hC.tr (fun k hk => mg_up_n _ _ (by omega))⟩
        rw [Bool.or_true]; exact h.mk' (le' := true) (mg_up_s _ _ _) (h4.up (by omega) (by omega)) (h6.up (by omega) (by omega)) (h8.up (by omega) (by omega)) ⟨st, h10.up (by omega) (by omega)⟩ ⟨_, _, hD.up (by omega)⟩ (fun k hk => mg_up_n _ _ (by omega))
      | some l =>
        rw [hst] at hq
        obtain ⟨rfl, q10, qs⟩ := hq
        rw [shrF, hst] at hr
        dsimp only at hr
        refine mg_if_ne (tgt := 78) d_PS_shrink_67 (by decide) (fun _ => ?_) (fun c => absurd c (by decide))
        have hO2 := (qs 1 (by omega)).trans hO
        have hG2 := hG.fr qs (by omega)
        have hP2 := (qs (150 + j) (by omega)).trans (hRr j p hp)
        have hD2 := hD.fr qs (by omega)
        refine mg_iinc (v := nI (wh + 1)) d_PS_shrink_78 rfl (nI_1 _) (Nat.le_of_ble_eq_true rfl) rfl ?_
        refine mg_aload_n d_PS_shrink_81 rfl rfl ?_
        refine mg_aload_n d_PS_shrink_82 rfl rfl ?_
        refine mg_aload_n d_PS_shrink_83 rfl rfl ?_
        refine mg_aload_n d_PS_shrink_84 rfl rfl ?_
        refine mg_getfield fl_PS_34 d_PS_shrink_85 hO2 rfl ?_
        refine mg_callV (vl_PS_100 rfl) d_PS_shrink_88 hO2 rfl rfl (c_PS_replayRow hw hg hO2 hG2 hD2 hP2 (by omega) q10 (by omega)) rfl rfl (by rw [hR]; decide) (by rw [hR]; decide) (Nat.le_of_ble_eq_true rfl) ?_
        rintro v M3 ⟨rfl, hD3, hs3⟩
        obtain ⟨r1, r2, r3⟩ := row_eq gs i l z x lm
        rw [vd_eq r2 r3]
        generalize runR gs l z i x lm = σ3 at hD3 r1 r2 r3
        have hO3 := (hs3 1 (by omega)).trans hO2
        have c4 := (h4.sm qs (by omega)).sm hs3 (by omega)
        have c6 := (h6.sm qs (by omega)).sm hs3 (by omega)
        have c8 := (h8.sm qs (by omega)).sm hs3 (by omega)
        have c10 := q10.sm hs3 (by omega)
        have kB : smB M M3 := fun k hk => (hs3 k (by omega)).trans (qs k (by omega))
        have hC3 : smC M0 M3 := (hC.tr (smC.of qs (by omega) (by omega))).tr (smC.of hs3 (by omega) (by omega))
        refine mg_aload_n d_PS_shrink_91 rfl rfl ?_
        refine mg_getfield fl_PS_115 d_PS_shrink_92 hO3 rfl ?_
        refine mg_icmp_ne (tgt := 108) d_PS_shrink_95 (by decide) (fun c_95 => ?_) (fun c_95 => ?_)
        · replace c_95 : ¬ vdC p (rowC gs i l) = v0 := c_95
          rw [if_neg c_95] at hr
          have h3 : isPS M3 gs ps ks wa (some (i, j, v0)) le row nu pu s := h.mk' hO3 c4 c6 c8 ⟨_, c10⟩ ⟨_, _, hD3⟩ kB
          refine mg_iinc (v := nI (tr + 1)) d_PS_shrink_108 rfl (nI_1 _) (Nat.le_of_ble_eq_true rfl) rfl ?_
          refine mg_goto (tgt := 55) d_PS_shrink_111 (by decide) ?_
          exact ih (wh + 1) got (tr + 1) _ _ _ (by omega) (by omega) (by omega) h3 hnn hC3 hr
        · replace c_95 : vdC p (rowC gs i l) = v0 := c_95
          rw [if_pos c_95] at hr
          refine mg_aload_n d_PS_shrink_98 rfl rfl ?_
          refine mg_callV (vl_PS_104 rfl) d_PS_shrink_99 hO3 rfl rfl (c_PS_takeRow hO3 hD3 c4 c6) rfl rfl (by rw [hR]; decide) (by rw [hR]; decide) (Nat.le_of_ble_eq_true rfl) ?_
          rintro v M4 ⟨rfl, q4, q6, hs4⟩
          rw [r1] at q4
          rw [r2] at q6
          have h4' : isPS M4 gs ps ks wa (some (i, j, v0)) le (rowC gs i l).1 (rowC gs i l).2.1 pu s := h.mk' ((hs4 1 (by omega)).trans hO3) q4 q6 (c8.sm hs4 (by omega)) ⟨_, c10.sm hs4 (by omega)⟩ ⟨_, _, hD3.fr hs4 (by omega)⟩ (fun k hk => (hs4 k (by omega)).trans (kB k hk))
          refine mg_iinc (v := nI (got + 1)) d_PS_shrink_102 rfl (nI_1 _) (Nat.le_of_ble_eq_true rfl) rfl ?_
          refine mg_iconst (v := 0) d_PS_shrink_105 (by decide) ?_
          refine mg_istore d_PS_shrink_106 (Nat.le_of_ble_eq_true rfl) rfl ?_
          refine mg_iinc (v := nI (tr + 1)) d_PS_shrink_108 rfl (nI_1 _) (Nat.le_of_ble_eq_true rfl) rfl ?_
          refine mg_goto (tgt := 55) d_PS_shrink_111 (by decide) ?_
          exact ih 0 (got + 1) (tr + 1) _ _ _ (by omega) (by omega) (by omega) h4' (nn_row gs i l) (hC3.tr (smC.of hs4 (by omega) (by omega))) hr

/-- shrink with a row: what it answers, and the state behind it -/
def shkS (gs : List gN) (p : pN) (i tries : Nat) (v0 : Int32) (row : List Int32) : Nat × Bool × List Int32 × List Int32 := shrF gs p i v0 tries 0 0 (rowC gs i row).1 (rowC gs i row).2.1
set_option maxHeartbeats 4000000 in
set_option maxRecDepth 100000 in
theorem c_PS_shrink_n {M : mg_M} {gs : List gN} {ps : List pN} {ks : List kN} {wa : Nat} {fo : fO} {le : Bool} {row nu pu : List Int32} {s : Int64} {t : Int32} (h : isPS M gs ps ks wa fo le row nu pu s) (hfo : fo = none) : mg_Ct Y_PS_shrink { frames := 12, cells := 0, slots := 0, locals := 282 } [.ref 1, .int t] M (fun v M' => v = some (.int (-1)) ∧ M' = M) := by
  subst hfo
  obtain ⟨hO, hA, hB, hG, hRr, hK, h4, h6, h8, ⟨st, h10⟩, ⟨md, σ, hD⟩, hF, T, hT, hJ⟩ := id h
  refine mg_met [some (.ref 1), some (.int t), none, none, none, none, none] (by decide +kernel) rfl (Nat.le_of_ble_eq_true rfl) ?_
  intro X hR _
  first | refine mg_aload_n d_PS_shrink_0 rfl rfl ?_ | refine mg_aload_nN d_PS_shrink_0 rfl rfl ?_
  refine mg_getfield fl_PS_92 d_PS_shrink_1 hO rfl ?_
  first | refine mg_astore_n d_PS_shrink_4 rfl (Nat.le_of_ble_eq_true rfl) rfl ?_ | refine mg_astore_nN d_PS_shrink_4 rfl (Nat.le_of_ble_eq_true rfl) rfl ?_
  first | refine mg_aload_n d_PS_shrink_5 rfl rfl ?_ | refine mg_aload_nN d_PS_shrink_5 rfl rfl ?_
  refine mg_getfield fl_PS_96 d_PS_shrink_6 hO rfl ?_
  first | refine mg_astore_n d_PS_shrink_9 rfl (Nat.le_of_ble_eq_true rfl) rfl ?_ | refine mg_astore_nN d_PS_shrink_9 rfl (Nat.le_of_ble_eq_true rfl) rfl ?_
  first | refine mg_aload_n d_PS_shrink_10 rfl rfl ?_ | refine mg_aload_nN d_PS_shrink_10 rfl rfl ?_
  refine mg_ifnullN (tgt := 29) d_PS_shrink_11 (by decide) ?_
  refine mg_iconst (v := -1) d_PS_shrink_29 (by decide) ?_
  exact mg_ireturn d_PS_shrink_30 rfl rfl (Nat.le_of_ble_eq_true rfl) (Nat.le_of_ble_eq_true rfl) ⟨rfl, rfl⟩

set_option maxHeartbeats 4000000 in
set_option maxRecDepth 100000 in
theorem c_PS_shrink_t {M : mg_M} {gs : List gN} {ps : List pN} {ks : List kN} {wa : Nat} {fo : fO} {le : Bool} {row nu pu : List Int32} {s : Int64} {t : Int32} {i j : Nat} {v0 : Int32} (h : isPS M gs ps ks wa fo le row nu pu s) (hfo : fo = some (i, j, v0)) (hb : t < 0 ∨ 400 < t) : mg_Ct Y_PS_shrink { frames := 12, cells := 0, slots := 0, locals := 282 } [.ref 1, .int t] M (fun v M' => v = some (.int (-1)) ∧ M' = M) := by
  subst hfo
  obtain ⟨hO, hA, hB, hG, hRr, hK, h4, h6, h8, ⟨st, h10⟩, ⟨md, σ, hD⟩, hF, T, hT, hJ⟩ := id h
  refine mg_met [some (.ref 1), some (.int t), none, none, none, none, none] (by decide +kernel) rfl (Nat.le_of_ble_eq_true rfl) ?_
  intro X hR _
  first | refine mg_aload_n d_PS_shrink_0 rfl rfl ?_ | refine mg_aload_nN d_PS_shrink_0 rfl rfl ?_
  refine mg_getfield fl_PS_92 d_PS_shrink_1 hO rfl ?_
  first | refine mg_astore_n d_PS_shrink_4 rfl (Nat.le_of_ble_eq_true rfl) rfl ?_ | refine mg_astore_nN d_PS_shrink_4 rfl (Nat.le_of_ble_eq_true rfl) rfl ?_
  first | refine mg_aload_n d_PS_shrink_5 rfl rfl ?_ | refine mg_aload_nN d_PS_shrink_5 rfl rfl ?_
  refine mg_getfield fl_PS_96 d_PS_shrink_6 hO rfl ?_
  first | refine mg_astore_n d_PS_shrink_9 rfl (Nat.le_of_ble_eq_true rfl) rfl ?_ | refine mg_astore_nN d_PS_shrink_9 rfl (Nat.le_of_ble_eq_true rfl) rfl ?_
  first | refine mg_aload_n d_PS_shrink_10 rfl rfl ?_ | refine mg_aload_nN d_PS_shrink_10 rfl rfl ?_
  refine mg_ifnull d_PS_shrink_11 ?_
  first | refine mg_aload_n d_PS_shrink_14 rfl rfl ?_ | refine mg_aload_nN d_PS_shrink_14 rfl rfl ?_
  refine mg_ifnull d_PS_shrink_15 ?_
  refine mg_iload_n d_PS_shrink_18 rfl rfl ?_
  refine mg_if_lt (tgt := 29) d_PS_shrink_19 (by decide) (fun c_19 => ?_) (fun c_19 => ?_)
  · refine mg_iconst (v := -1) d_PS_shrink_29 (by decide) ?_
    exact mg_ireturn d_PS_shrink_30 rfl rfl (Nat.le_of_ble_eq_true rfl) (Nat.le_of_ble_eq_true rfl) ⟨rfl, rfl⟩
  · refine mg_iload_n d_PS_shrink_22 rfl rfl ?_
    refine mg_sipush (v := 400) d_PS_shrink_23 (by decide) ?_
    refine mg_icmp_le (tgt := 31) d_PS_shrink_26 (by decide) (fun c_26 => ?_) (fun c_26 => ?_)
    · exact False.elim (hb.elim c_19 (fun q => Int32.not_lt.mpr c_26 q))
    · refine mg_iconst (v := -1) d_PS_shrink_29 (by decide) ?_
      exact mg_ireturn d_PS_shrink_30 rfl rfl (Nat.le_of_ble_eq_true rfl) (Nat.le_of_ble_eq_true rfl) ⟨rfl, rfl⟩

set_option maxHeartbeats 4000000 in
set_option maxRecDepth 100000 in
theorem c_PS_shrink {M : mg_M} {gs : List gN} {ps : List pN} {ks : List kN} {wa : Nat} {fo : fO} {le : Bool} {row nu pu : List Int32} {s : Int64} {i j tries : Nat} {v0 : Int32} {g : gN} {p : pN} (h : isPS M gs ps ks wa fo le row nu pu s) (hfo : fo = some (i, j, v0)) (hw : wfG gs) (hg : gs[i]? = some g) (hp : ps[j]? = some p) (ht : tries ≤ 400) : mg_Ct Y_PS_shrink { frames := 12, cells := 0, slots := 0, locals := 282 } [.ref 1, .int (nI tries)] M (fun v M' => v = some (.int (nI (shkS gs p i tries v0 row).1)) ∧ isPS M' gs ps ks wa fo (le || (shkS gs p i tries v0 row).2.1) (shkS gs p i tries v0 row).2.2.1 (shkS gs p i tries v0 row).2.2.2 pu s ∧ smC M M') := by
  subst hfo
  obtain ⟨hO, hA, hB, hG, hRr, hK, h4, h6, h8, ⟨st, h10⟩, ⟨md, σ, hD⟩, hF, T, hT, hJ⟩ := id h
  obtain ⟨how, gv, z⟩ := md
  obtain ⟨cs, ns, il, x, lm⟩ := σ
  refine mg_met [some (.ref 1), some (.int (nI tries)), none, none, none, none, none] (by decide +kernel) rfl (Nat.le_of_ble_eq_true rfl) ?_
  intro X hR _
  first | refine mg_aload_n d_PS_shrink_0 rfl rfl ?_ | refine mg_aload_nN d_PS_shrink_0 rfl rfl ?_
  refine mg_getfield fl_PS_92 d_PS_shrink_1 hO rfl ?_
  first | refine mg_astore_n d_PS_shrink_4 rfl (Nat.le_of_ble_eq_true rfl) rfl ?_ | refine mg_astore_nN d_PS_shrink_4 rfl (Nat.le_of_ble_eq_true rfl) rfl ?_
  first | refine mg_aload_n d_PS_shrink_5 rfl rfl ?_ | refine mg_aload_nN d_PS_shrink_5 rfl rfl ?_
  refine mg_getfield fl_PS_96 d_PS_shrink_6 hO rfl ?_
  first | refine mg_astore_n d_PS_shrink_9 rfl (Nat.le_of_ble_eq_true rfl) rfl ?_ | refine mg_astore_nN d_PS_shrink_9 rfl (Nat.le_of_ble_eq_true rfl) rfl ?_
  first | refine mg_aload_n d_PS_shrink_10 rfl rfl ?_ | refine mg_aload_nN d_PS_shrink_10 rfl rfl ?_
  refine mg_ifnull d_PS_shrink_11 ?_
  first | refine mg_aload_n d_PS_shrink_14 rfl rfl ?_ | refine mg_aload_nN d_PS_shrink_14 rfl rfl ?_
  refine mg_ifnull d_PS_shrink_15 ?_
  refine mg_iload_n d_PS_shrink_18 rfl rfl ?_
  refine mg_if_lt (tgt := 29) d_PS_shrink_19 (by decide) (fun c_19 => ?_) (fun c_19 => ?_)
  · exact absurd c_19 (nI_pos (by omega))
  · refine mg_iload_n d_PS_shrink_22 rfl rfl ?_
    refine mg_sipush (v := 400) d_PS_shrink_23 (by decide) ?_
    refine mg_icmp_le (tgt := 31) d_PS_shrink_26 (by decide) (fun c_26 => ?_) (fun c_26 => ?_)
    · first | refine mg_aload_n d_PS_shrink_31 rfl rfl ?_ | refine mg_aload_nN d_PS_shrink_31 rfl rfl ?_
      first | refine mg_aload_n d_PS_shrink_32 rfl rfl ?_ | refine mg_aload_nN d_PS_shrink_32 rfl rfl ?_
      first | refine mg_aload_n d_PS_shrink_33 rfl rfl ?_ | refine mg_aload_nN d_PS_shrink_33 rfl rfl ?_
      first | refine mg_aload_n d_PS_shrink_34 rfl rfl ?_ | refine mg_aload_nN d_PS_shrink_34 rfl rfl ?_
      refine mg_getfield fl_PS_24 d_PS_shrink_35 hO rfl ?_
      refine mg_callV (vl_PS_100 rfl) d_PS_shrink_38 hO rfl rfl (c_PS_replayRow hw hg hO hG hD (hRr j p hp) (by omega) h4 (by omega)) rfl rfl (by rw [hR]; decide) (by rw [hR]; decide) (Nat.le_of_ble_eq_true rfl) ?_
      rintro v M2 ⟨rfl, hD2, hs2⟩
      obtain ⟨r1, r2, r3⟩ := row_eq gs i row z x lm
      generalize runR gs row z i x lm = σ2 at hD2 r1 r2 r3
      have hO2 := (hs2 1 (by omega)).trans hO
      refine mg_pop d_PS_shrink_41 rfl ?_
      first | refine mg_aload_n d_PS_shrink_42 rfl rfl ?_ | refine mg_aload_nN d_PS_shrink_42 rfl rfl ?_
      refine mg_callV (vl_PS_104 rfl) d_PS_shrink_43 hO2 rfl rfl (c_PS_takeRow hO2 hD2 (h4.sm hs2 (by omega)) (h6.sm hs2 (by omega))) rfl rfl (by rw [hR]; decide) (by rw [hR]; decide) (Nat.le_of_ble_eq_true rfl) ?_
      rintro v M3 ⟨rfl, q4, q6, hs3⟩
      rw [r1] at q4
      rw [r2] at q6
      have h3 : isPS M3 gs ps ks wa (some (i, j, v0)) le (rowC gs i row).1 (rowC gs i row).2.1 pu s := h.mk' ((hs3 1 (by omega)).trans hO2) q4 q6 ((h8.sm hs2 (by omega)).sm hs3 (by omega)) ⟨st, (h10.sm hs2 (by omega)).sm hs3 (by omega)⟩ ⟨_, _, hD2.fr hs3 (by omega)⟩ (fun k hk => (hs3 k (by omega)).trans (hs2 k (by omega)))
      refine mg_iconst (v := 0) d_PS_shrink_46 (by decide) ?_
      refine mg_istore d_PS_shrink_47 (Nat.le_of_ble_eq_true rfl) rfl ?_
      refine mg_iconst (v := 0) d_PS_shrink_49 (by decide) ?_
      refine mg_istore d_PS_shrink_50 (Nat.le_of_ble_eq_true rfl) rfl ?_
      refine mg_iconst (v := 0) d_PS_shrink_52 (by decide) ?_
      refine mg_istore d_PS_shrink_53 (Nat.le_of_ble_eq_true rfl) rfl ?_
      exact lp_shrink hR hw hg hp ht tries 0 0 0 M3 _ _ (by omega) (by omega) (by omega) h3 (nn_row gs i row) ((smC.of hs2 (by omega) (by omega)).tr (smC.of hs3 (by omega) (by omega))) rfl
    · exact absurd (nI_le (b := 400) ht (by decide)) c_26

