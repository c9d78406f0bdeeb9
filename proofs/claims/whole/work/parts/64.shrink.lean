/-! THE REFERENCE: shrink -/
theorem nn_set {l : List Int32} {i : Nat} {v : Int32} (h : nnL l) (hv : ¬ v < 0) : nnL (l.set i v) := fun x hx => by
  rcases List.mem_or_eq_of_mem_set hx with q | q
  · exact h x q
  · subst q; exact hv
theorem nn_cut {l : List Int32} {a b : Nat} (h : nnL l) : nnL (cutL l a b) := fun x hx => by
  rcases List.mem_append.mp hx with q | q
  · exact h x (List.mem_of_mem_take q)
  · exact h x (List.mem_of_mem_drop q)
theorem low_nn {v : Int32} {w : Nat} (h : ¬ v < 0) (hw : w < waysN v) : ¬ lowI v w < 0 := by
  obtain ⟨j, hj, rfl⟩ := nI_of h
  unfold waysN at hw
  rw [nI_clamp hj] at hw
  unfold lowI
  split
  · decide
  · split
    · rw [show (2 : Int32) = nI 2 from rfl, pk_div hj (by decide) (by decide)]; exact nI_pos (by omega)
    · rw [show (1 : Int32) = nI 1 from rfl, pk_sub (by omega)]; exact nI_pos (by omega)
theorem nn_drop {row : List Int32} (h : nnL row) : ∀ (Ns : List Nat) (w : Nat) (l : List Int32), dropG row Ns w = .inl l → nnL l
  | [], w, l, e => by rw [dropG] at e; cases e
  | N :: r, w, l, e => by
    rw [dropG] at e
    split at e
    · have := Sum.inl.inj e; subst this; exact nn_cut h
    · exact nn_drop h r _ l e
theorem nn_low {row : List Int32} (h : nnL row) : ∀ (n i w : Nat) (l : List Int32), lowG row n i w = .inl l → nnL l
  | 0, i, w, l, e => by rw [lowG] at e; cases e
  | n + 1, i, w, l, e => by
    rw [lowG] at e
    split at e
    · rename_i hw
      have := Sum.inl.inj e
      subst this
      exact nn_set h (low_nn (h.at i) hw)
    · exact nn_low h n _ _ l e
theorem nn_swap {row : List Int32} (h : nnL row) : ∀ (n i w : Nat) (l : List Int32), swapG row n i w = .inl l → nnL l
  | 0, i, w, l, e => by rw [swapG] at e; cases e
  | n + 1, i, w, l, e => by
    rw [swapG] at e
    split at e
    · split at e
      · have := Sum.inl.inj e
        subst this
        exact nn_set (nn_set h (h.at _)) (h.at _)
      · exact nn_swap h n _ _ l e
    · exact nn_swap h n _ _ l e
theorem nn_step {row : List Int32} {w : Nat} {l : List Int32} (h : nnL row) (e : stepF row w = some l) : nnL l := by
  unfold stepF at e
  cases h1 : dropG row [8, 4, 2, 1] w with
  | inl l1 => rw [h1] at e; have := Option.some.inj e; subst this; exact nn_drop h _ _ _ h1
  | inr a =>
    rw [h1] at e
    dsimp only at e
    cases h2 : lowG row row.length 0 a with
    | inl l1 => rw [h2] at e; have := Option.some.inj e; subst this; exact nn_low h _ _ _ _ h2
    | inr b =>
      rw [h2] at e
      dsimp only at e
      cases h3 : swapG row (row.length - 1) 0 b with
      | inl l1 => rw [h3] at e; have := Option.some.inj e; subst this; exact nn_swap h _ _ _ _ h3
      | inr c => rw [h3] at e; cases e
def rwT (r : List Int32 × List Int32 × Bool) : List Int32 := if r.2.2 = true then [] else r.2.1
theorem rw_T {τ : dS} {r : List Int32 × List Int32 × Bool} (h : rwRel τ r) : tlL τ = rwT r := by
  unfold tlL rwT
  rw [h.2.1]
  cases e : r.2.2 with
  | true => rw [if_pos rfl, if_pos rfl]
  | false => rw [if_neg (show ¬ (false = true) by decide), if_neg (show ¬ (false = true) by decide), h.2.2 e]
theorem isMoS.nu {M M' : mg_M} {si si' : Nat → Int32} {gs : List gN} {ps : List pN} {ks : List kN} {wa : Nat} {fo : fO} {le : Bool} {row nu pu nu' : List Int32} (h : isMoS M si gs ps ks wa fo le row nu pu) (e : ∀ k, (k = 1 ∨ k = 2 ∨ (26 ≤ k ∧ k ≤ 31) ∨ k = 37 ∨ k = 41) → si' k = si k) (hs : ∀ k, ((1001 ≤ k ∧ k ≤ 1007) ∨ (1016 ≤ k ∧ k ≤ 1020) ∨ k = 1022) → M' k = M k) (h40 : si' 40 = nI nu'.length) (hA : isA M' 1021 60 nu') : isMoS M' si' gs ps ks wa fo le row nu' pu := by
  obtain ⟨⟨a1, a2, a3, a4⟩, ⟨b1, b2⟩, ⟨c1, c2, c3⟩, d1, -, f1, f2⟩ := h
  exact ⟨⟨(e 1 (by decide)).trans a1, (e 2 (by decide)).trans a2, a3.eq (fun k h1 h2 => hs k (by omega)), a4.eq (fun k h1 h2 => hs k (by omega))⟩, ⟨b1.eq (fun k h1 h2 => e k (by omega)), b2.eq (hs _ (by decide))⟩, ⟨(e 30 (by decide)).trans c1, (e 31 (by decide)).trans c2, c3.eq (fun k h1 h2 => hs k (by omega))⟩, (e 37 (by decide)).trans d1, ⟨h40, hA⟩, (e 41 (by decide)).trans f1, f2.eq (hs _ (by decide))⟩

set_option maxHeartbeats 4000000 in
set_option maxRecDepth 100000 in
theorem lp_Mo_shrink {X : mg_X} {M0 : mg_M} {gs : List gN} {ps : List pN} {ks : List kN} {wa : Nat} {le : Bool} {pu : List Int32} {s : Int64} {i j tries : Nat} {v0 : Int32} {g : gN} {p : pN} {r : Nat × Bool × List Int32 × List Int32} {Q : State → Prop} (hR : mg_R X = { frames := 4, cells := 0, slots := 0, locals := 93 }) (hw : wfG gs) (hg : gs[i]? = some g) (hpl : ps.length ≤ 10) (hp : ps[j]? = some p) (ht : tries ≤ 400) (hv4 : ¬ v0 = 4) (kk : ∀ (M : mg_M) (si : Nat → Int32) (x : Int64) (z3 z4 : Int32), M 1000 = some (moE si x s) → isMoS M si gs ps ks wa (some (i, j, v0)) (le || r.2.1) r.2.2.1 r.2.2.2 pu → isWk M → (∃ gv, isA M 1008 60 gv ∧ si 20 = nI gv.length) → nnL r.2.2.1 → sm 1000 1023 M0 M → mg_G X Y_Mo_shrink Q M 0 0 112 [some (.ref 1000), some (.int (nI tries)), some (.int (nI r.1)), some (.int z3), some (.int z4)] []) : ∀ (n w got k : Nat) (M : mg_M) (si : Nat → Int32) (x : Int64) (row nu : List Int32), k + n = tries → w ≤ k → got ≤ k → M 1000 = some (moE si x s) → isMoS M si gs ps ks wa (some (i, j, v0)) le row nu pu → isWk M → (∃ gv, isA M 1008 60 gv ∧ si 20 = nI gv.length) → nnL row → sm 1000 1023 M0 M → shrF gs p i v0 n w got row nu = r → mg_G X Y_Mo_shrink Q M 0 0 33 [some (.ref 1000), some (.int (nI tries)), some (.int (nI got)), some (.int (nI w)), some (.int (nI k))] [] := by
  intro n
  induction n with
  | zero =>
    intro w got k M si x row nu hk hwk hgk hO hS hWk hI hnn hs0 hr
    refine mg_iload d_Mo_shrink_33 rfl ?_
    refine mg_iload_n d_Mo_shrink_35 rfl rfl ?_
    refine mg_icmp_ge (tgt := 112) d_Mo_shrink_36 (by decide) (fun c_36 => ?_) (fun c_36 => ?_)
    · rw [shrF] at hr
      subst hr
      exact kk M si x _ _ hO (by rw [Bool.or_false]; exact hS) hWk hI hnn hs0
    · exact absurd (nI_le (by omega) (by omega)) c_36
  | succ n ih =>
    intro w got k M si x row nu hk hwk hgk hO hS hWk hI hnn hs0 hr
    obtain ⟨⟨a1, a2, a3, a4⟩, ⟨b1, ⟨ff, b2, b3, b4⟩⟩, ⟨c1, c2, c3⟩, d1, ⟨e1, ⟨tf, e2, e3, e4⟩⟩, f1, ⟨pf, f2, f3, f4⟩⟩ := id hS
    obtain ⟨gv0, ⟨fi, hI1, hI2, hI3⟩, h20⟩ := id hI
    refine mg_iload d_Mo_shrink_33 rfl ?_
    refine mg_iload_n d_Mo_shrink_35 rfl rfl ?_
    refine mg_icmp_ge (tgt := 112) d_Mo_shrink_36 (by decide) (fun c_36 => ?_) (fun c_36 => ?_)
    · exact absurd ((nI_leI (by omega) (by omega)).mp c_36) (by omega)
    · rw [shrF] at hr
      first | refine mg_aload_n d_Mo_shrink_39 rfl rfl ?_ | refine mg_aload_nN d_Mo_shrink_39 rfl rfl ?_
      refine mg_iload_n d_Mo_shrink_40 rfl rfl ?_
      refine mg_callV (vl_Mo_193 rfl) d_Mo_shrink_41 (by first | assumption | exact mg_up_s _ _ _ | (rw [mg_up_n _ _ (by decide)]; first | assumption | exact mg_up_s _ _ _ | (rw [mg_up_n _ _ (by decide)]; first | assumption | exact mg_up_s _ _ _ | (rw [mg_up_n _ _ (by decide)]; first | assumption | exact mg_up_s _ _ _ | (rw [mg_up_n _ _ (by decide)]; first | assumption | exact mg_up_s _ _ _ | (rw [mg_up_n _ _ (by decide)]; first | assumption | exact mg_up_s _ _ _ | (rw [mg_up_n _ _ (by decide)]; first | assumption | exact mg_up_s _ _ _))))))) rfl rfl (c_Mo_make hO b1.1 ⟨ff, b2, b3, b4⟩ ⟨fi, hI1⟩ hnn (show w < 2 ^ 30 by omega)) rfl rfl (by rw [hR]; decide) (by rw [hR]; decide) (Nat.le_of_ble_eq_true rfl) ?_
      rintro v M2 hv
      cases hst : stepF row w with
      | none =>
        rw [hst] at hv hr
        obtain ⟨rfl, rfl⟩ := hv
        dsimp only at hr
        subst hr
        refine mg_if_ne (tgt := 55) d_Mo_shrink_44 (by decide) (fun e => absurd rfl e) (fun _ => ?_)
        refine mg_aload_n d_Mo_shrink_47 rfl rfl ?_
        refine mg_iconst (v := 1) d_Mo_shrink_48 (by decide) ?_
        refine mg_putfield (fw_Mo_181 _) d_Mo_shrink_49 (by first | assumption | exact mg_up_s _ _ _ | (rw [mg_up_n _ _ (by decide)]; first | assumption | exact mg_up_s _ _ _ | (rw [mg_up_n _ _ (by decide)]; first | assumption | exact mg_up_s _ _ _ | (rw [mg_up_n _ _ (by decide)]; first | assumption | exact mg_up_s _ _ _ | (rw [mg_up_n _ _ (by decide)]; first | assumption | exact mg_up_s _ _ _ | (rw [mg_up_n _ _ (by decide)]; first | assumption | exact mg_up_s _ _ _ | (rw [mg_up_n _ _ (by decide)]; first | assumption | exact mg_up_s _ _ _))))))) (Nat.le_of_ble_eq_true rfl) (fun _ => ⟨rfl, rfl⟩) ?_
        refine mg_eqM (M' := mg_up M2 1000 (moE (upd si 37 (bI true)) x s)) rfl ?_
        refine mg_goto (tgt := 112) d_Mo_shrink_52 (by decide) ?_
        exact kk _ _ x _ _ (mg_up_s _ _ _) (by rw [Bool.or_true]; exact hS.le true) (hWk.eq (fun k _ _ => mg_up_n _ _ (by omega))) ⟨gv0, (show isA M2 1008 60 gv0 from ⟨fi, hI1, hI2, hI3⟩).eq (mg_up_n _ _ (by decide)), h20⟩ hnn (hs0.up (by decide) (by decide))
      | some l =>
        rw [hst] at hv hr
        obtain ⟨rfl, y1, y2, y3⟩ := hv
        dsimp only at hr
        have hnl := nn_step hnn hst
        refine mg_if_ne (tgt := 55) d_Mo_shrink_44 (by decide) (fun _ => ?_) (fun e => absurd e (by decide))
        first | refine mg_aload_n d_Mo_shrink_55 rfl rfl ?_ | refine mg_aload_nN d_Mo_shrink_55 rfl rfl ?_
        first | refine mg_aload_n d_Mo_shrink_56 rfl rfl ?_ | refine mg_aload_nN d_Mo_shrink_56 rfl rfl ?_
        refine mg_getfield fl_Mo_146 d_Mo_shrink_57 (by first | assumption | exact mg_up_s _ _ _ | (rw [mg_up_n _ _ (by decide)]; first | assumption | exact mg_up_s _ _ _ | (rw [mg_up_n _ _ (by decide)]; first | assumption | exact mg_up_s _ _ _ | (rw [mg_up_n _ _ (by decide)]; first | assumption | exact mg_up_s _ _ _ | (rw [mg_up_n _ _ (by decide)]; first | assumption | exact mg_up_s _ _ _ | (rw [mg_up_n _ _ (by decide)]; first | assumption | exact mg_up_s _ _ _ | (rw [mg_up_n _ _ (by decide)]; first | assumption | exact mg_up_s _ _ _))))))) rfl ?_
        refine mg_eqi (y := nI i) b1.2.1 ?_
        refine mg_iconst (v := 0) d_Mo_shrink_60 (by decide) ?_
        refine mg_callV (vl_Mo_161 rfl) d_Mo_shrink_61 (by first | assumption | exact mg_up_s _ _ _ | (rw [mg_up_n _ _ (by decide)]; first | assumption | exact mg_up_s _ _ _ | (rw [mg_up_n _ _ (by decide)]; first | assumption | exact mg_up_s _ _ _ | (rw [mg_up_n _ _ (by decide)]; first | assumption | exact mg_up_s _ _ _ | (rw [mg_up_n _ _ (by decide)]; first | assumption | exact mg_up_s _ _ _ | (rw [mg_up_n _ _ (by decide)]; first | assumption | exact mg_up_s _ _ _ | (rw [mg_up_n _ _ (by decide)]; first | assumption | exact mg_up_s _ _ _))))))) rfl rfl (c_Mo_go (gs := gs) (i := i) (g := g) (how := 0) y1 y2 pk_us (hWk.eq (fun k _ _ => y3 k (by omega) (by omega))) (a3.eq (fun k _ _ => y3 k (by omega) (by omega))) hw hg (okM0 hnl)) rfl rfl (by rw [hR]; decide) (by rw [hR]; decide) (Nat.le_of_ble_eq_true rfl) ?_
        rintro v M4 ⟨rfl, si4, τ, lm, g1, g2, g3, g4, g5⟩
        have hrw := rw_of g3
        have hO4 := g1.1
        have U4 : ∀ k, k ≠ 1000 → (k < 1008 ∨ 1016 ≤ k) → M4 k = M k := fun k h1 h2 => (g5 k h1 (by omega)).trans (y3 k h1 (by omega))
        have V4 : ∀ k, k ≠ 10 → k ≠ 11 → k ≠ 12 → k ≠ 15 → k ≠ 20 → k ≠ 25 → si4 k = si k := fun k h1 h2 h3 h4 h5 h6 => (g4 k h1 h2 h3 h4 h6).trans (pk_un h5)
        have hS4 : isMoS M4 si4 gs ps ks wa (some (i, j, v0)) le row nu pu := hS.fr (fun k hk => V4 k (by omega) (by omega) (by omega) (by omega) (by omega) (by omega)) (fun k hk => U4 k (by omega) (by omega))
        have hI4 : ∃ gv, isA M4 1008 60 gv ∧ si4 20 = nI gv.length := ⟨l, g1.2.2.2.2.2.2.2.2.1, g1.2.2.2.2.2.2.2.1⟩
        refine mg_iinc (v := nI (w + 1)) d_Mo_shrink_64 rfl (nI_1 _) (Nat.le_of_ble_eq_true rfl) rfl ?_
        first | refine mg_aload_n d_Mo_shrink_67 rfl rfl ?_ | refine mg_aload_nN d_Mo_shrink_67 rfl rfl ?_
        first | refine mg_aload_n d_Mo_shrink_68 rfl rfl ?_ | refine mg_aload_nN d_Mo_shrink_68 rfl rfl ?_
        refine mg_getfield fl_Mo_149 d_Mo_shrink_69 (by first | assumption | exact mg_up_s _ _ _ | (rw [mg_up_n _ _ (by decide)]; first | assumption | exact mg_up_s _ _ _ | (rw [mg_up_n _ _ (by decide)]; first | assumption | exact mg_up_s _ _ _ | (rw [mg_up_n _ _ (by decide)]; first | assumption | exact mg_up_s _ _ _ | (rw [mg_up_n _ _ (by decide)]; first | assumption | exact mg_up_s _ _ _ | (rw [mg_up_n _ _ (by decide)]; first | assumption | exact mg_up_s _ _ _ | (rw [mg_up_n _ _ (by decide)]; first | assumption | exact mg_up_s _ _ _))))))) rfl ?_
        refine mg_eqi (y := nI j) hS4.2.1.1.2.2.1 ?_
        refine mg_callV (vl_Mo_164 rfl) d_Mo_shrink_72 (by first | assumption | exact mg_up_s _ _ _ | (rw [mg_up_n _ _ (by decide)]; first | assumption | exact mg_up_s _ _ _ | (rw [mg_up_n _ _ (by decide)]; first | assumption | exact mg_up_s _ _ _ | (rw [mg_up_n _ _ (by decide)]; first | assumption | exact mg_up_s _ _ _ | (rw [mg_up_n _ _ (by decide)]; first | assumption | exact mg_up_s _ _ _ | (rw [mg_up_n _ _ (by decide)]; first | assumption | exact mg_up_s _ _ _ | (rw [mg_up_n _ _ (by decide)]; first | assumption | exact mg_up_s _ _ _))))))) rfl rfl (c_Mo_does g1 hS4.1.2.2.2 hpl hp) rfl rfl (by rw [hR]; decide) (by rw [hR]; decide) (Nat.le_of_ble_eq_true rfl) ?_
        rintro v M5 ⟨rfl, rfl⟩
        refine mg_eqv (y := .int (vdC p (rowC gs i l))) (congrArg Value.int (rw_vd hrw)) ?_
        first | refine mg_aload_n d_Mo_shrink_75 rfl rfl ?_ | refine mg_aload_nN d_Mo_shrink_75 rfl rfl ?_
        refine mg_getfield fl_Mo_152 d_Mo_shrink_76 (by first | assumption | exact mg_up_s _ _ _ | (rw [mg_up_n _ _ (by decide)]; first | assumption | exact mg_up_s _ _ _ | (rw [mg_up_n _ _ (by decide)]; first | assumption | exact mg_up_s _ _ _ | (rw [mg_up_n _ _ (by decide)]; first | assumption | exact mg_up_s _ _ _ | (rw [mg_up_n _ _ (by decide)]; first | assumption | exact mg_up_s _ _ _ | (rw [mg_up_n _ _ (by decide)]; first | assumption | exact mg_up_s _ _ _ | (rw [mg_up_n _ _ (by decide)]; first | assumption | exact mg_up_s _ _ _))))))) rfl ?_
        refine mg_eqi (y := v0) hS4.2.1.1.2.2.2 ?_
        refine mg_icmp_eq (tgt := 85) d_Mo_shrink_79 (by decide) (fun c_79 => ?_) (fun c_79 => ?_)
        · have hvv : vdC p (rowC gs i l) = v0 := c_79
          rw [if_pos hvv] at hr
          have hni : (rowC gs i l).2.2 = false := by
            cases e : (rowC gs i l).2.2 with
            | false => rfl
            | true => rw [vdC, if_pos e] at hvv; exact absurd hvv.symm hv4
          first | refine mg_aload_n d_Mo_shrink_85 rfl rfl ?_ | refine mg_aload_nN d_Mo_shrink_85 rfl rfl ?_
          first | refine mg_aload_n d_Mo_shrink_86 rfl rfl ?_ | refine mg_aload_nN d_Mo_shrink_86 rfl rfl ?_
          refine mg_getfield fl_Mo_146 d_Mo_shrink_87 (by first | assumption | exact mg_up_s _ _ _ | (rw [mg_up_n _ _ (by decide)]; first | assumption | exact mg_up_s _ _ _ | (rw [mg_up_n _ _ (by decide)]; first | assumption | exact mg_up_s _ _ _ | (rw [mg_up_n _ _ (by decide)]; first | assumption | exact mg_up_s _ _ _ | (rw [mg_up_n _ _ (by decide)]; first | assumption | exact mg_up_s _ _ _ | (rw [mg_up_n _ _ (by decide)]; first | assumption | exact mg_up_s _ _ _ | (rw [mg_up_n _ _ (by decide)]; first | assumption | exact mg_up_s _ _ _))))))) rfl ?_
          first | refine mg_aload_n d_Mo_shrink_90 rfl rfl ?_ | refine mg_aload_nN d_Mo_shrink_90 rfl rfl ?_
          refine mg_getfield fl_Mo_149 d_Mo_shrink_91 (by first | assumption | exact mg_up_s _ _ _ | (rw [mg_up_n _ _ (by decide)]; first | assumption | exact mg_up_s _ _ _ | (rw [mg_up_n _ _ (by decide)]; first | assumption | exact mg_up_s _ _ _ | (rw [mg_up_n _ _ (by decide)]; first | assumption | exact mg_up_s _ _ _ | (rw [mg_up_n _ _ (by decide)]; first | assumption | exact mg_up_s _ _ _ | (rw [mg_up_n _ _ (by decide)]; first | assumption | exact mg_up_s _ _ _ | (rw [mg_up_n _ _ (by decide)]; first | assumption | exact mg_up_s _ _ _))))))) rfl ?_
          first | refine mg_aload_n d_Mo_shrink_94 rfl rfl ?_ | refine mg_aload_nN d_Mo_shrink_94 rfl rfl ?_
          refine mg_getfield fl_Mo_152 d_Mo_shrink_95 (by first | assumption | exact mg_up_s _ _ _ | (rw [mg_up_n _ _ (by decide)]; first | assumption | exact mg_up_s _ _ _ | (rw [mg_up_n _ _ (by decide)]; first | assumption | exact mg_up_s _ _ _ | (rw [mg_up_n _ _ (by decide)]; first | assumption | exact mg_up_s _ _ _ | (rw [mg_up_n _ _ (by decide)]; first | assumption | exact mg_up_s _ _ _ | (rw [mg_up_n _ _ (by decide)]; first | assumption | exact mg_up_s _ _ _ | (rw [mg_up_n _ _ (by decide)]; first | assumption | exact mg_up_s _ _ _))))))) rfl ?_
          refine mg_eqst (st' := [.int v0, .int (nI j), .int (nI i), .ref 1000]) (by rw [hS4.2.1.1.2.1, hS4.2.1.1.2.2.1, hS4.2.1.1.2.2.2]; rfl) ?_
          refine mg_callV (vl_Mo_171 rfl) d_Mo_shrink_98 (by first | assumption | exact mg_up_s _ _ _ | (rw [mg_up_n _ _ (by decide)]; first | assumption | exact mg_up_s _ _ _ | (rw [mg_up_n _ _ (by decide)]; first | assumption | exact mg_up_s _ _ _ | (rw [mg_up_n _ _ (by decide)]; first | assumption | exact mg_up_s _ _ _ | (rw [mg_up_n _ _ (by decide)]; first | assumption | exact mg_up_s _ _ _ | (rw [mg_up_n _ _ (by decide)]; first | assumption | exact mg_up_s _ _ _ | (rw [mg_up_n _ _ (by decide)]; first | assumption | exact mg_up_s _ _ _))))))) rfl rfl (c_Mo_find (g := nI i) (p := nI j) (its := v0) g1 ⟨tf, (U4 _ (by decide) (by decide)).trans e2⟩ ⟨ff, (U4 _ (by decide) (by decide)).trans b2⟩) rfl rfl (by rw [hR]; decide) (by rw [hR]; decide) (Nat.le_of_ble_eq_true rfl) ?_
          rintro v M7 ⟨rfl, t1, t2, t3, t4⟩
          obtain ⟨hS7, hWk7, hI7⟩ := isMoS.found (i := i) (j := j) (v0 := v0) hS g1 g2 (fun k h1 h2 h3 h4 h5 h6 h7 => V4 k h1 h2 h3 h5 h6 h7) U4 t2 t3 t4 hrw.1 (rw_tl' hrw hni)
          refine mg_iinc (v := nI (got + 1)) d_Mo_shrink_101 rfl (nI_1 _) (Nat.le_of_ble_eq_true rfl) rfl ?_
          refine mg_iconst (v := 0) d_Mo_shrink_104 (by decide) ?_
          refine mg_istore_n d_Mo_shrink_105 rfl (Nat.le_of_ble_eq_true rfl) rfl ?_
          refine mg_iinc (v := nI (k + 1)) d_Mo_shrink_106 rfl (nI_1 _) (Nat.le_of_ble_eq_true rfl) rfl ?_
          refine mg_goto (tgt := 33) d_Mo_shrink_109 (by decide) ?_
          exact ih 0 (got + 1) (k + 1) _ _ _ _ _ (by omega) (by omega) (by omega) t1 hS7 hWk7 hI7 (nn_row gs i l) (fun k hk => (t4 k (by omega) (by omega) (by omega)).trans ((U4 k (by omega) (by omega)).trans (hs0 k hk))) hr
        · rw [if_neg c_79] at hr
          refine mg_goto (tgt := 106) d_Mo_shrink_82 (by decide) ?_
          refine mg_iinc (v := nI (k + 1)) d_Mo_shrink_106 rfl (nI_1 _) (Nat.le_of_ble_eq_true rfl) rfl ?_
          refine mg_goto (tgt := 33) d_Mo_shrink_109 (by decide) ?_
          exact ih (w + 1) got (k + 1) _ si4 _ row nu (by omega) (by omega) (by omega) hO4 hS4 g2 hI4 hnn (fun k hk => (U4 k (by omega) (by omega)).trans (hs0 k hk)) hr

set_option maxHeartbeats 4000000 in
set_option maxRecDepth 100000 in
theorem c_Mo_shrink_no {M : mg_M} {gs : List gN} {ps : List pN} {ks : List kN} {wa : Nat} {fo : fO} {le : Bool} {row nu pu : List Int32} {s : Int64} {t : Int32} (h : isMo M gs ps ks wa fo le row nu pu s) (hb : fo = none ∨ t < 0 ∨ 400 < t) : mg_Ct Y_Mo_shrink { frames := 4, cells := 0, slots := 0, locals := 93 } [.ref 1000, .int t] M (fun v M' => v = some (.int (-1)) ∧ isMo M' gs ps ks wa fo le row nu pu s ∧ sm 1000 1023 M M') := by
  obtain ⟨si, x, hO, hS, hWk, hI⟩ := id h
  obtain ⟨⟨a1, a2, a3, a4⟩, ⟨b1, ⟨ff, b2, b3, b4⟩⟩, ⟨c1, c2, c3⟩, d1, ⟨e1, ⟨tf, e2, e3, e4⟩⟩, f1, ⟨pf, f2, f3, f4⟩⟩ := id hS
  have hz := isMo.c0 (x := x) (s := s) hS hWk hI
  refine mg_met [some (.ref 1000), some (.int t), none, none, none] (by decide +kernel) rfl (Nat.le_of_ble_eq_true rfl) ?_
  intro X hR _
  first | refine mg_aload_n d_Mo_shrink_0 rfl rfl ?_ | refine mg_aload_nN d_Mo_shrink_0 rfl rfl ?_
  refine mg_iconst (v := 0) d_Mo_shrink_1 (by decide) ?_
  refine mg_putfield (fw_Mo_80 _) d_Mo_shrink_2 (by first | assumption | exact mg_up_s _ _ _ | (rw [mg_up_n _ _ (by decide)]; first | assumption | exact mg_up_s _ _ _ | (rw [mg_up_n _ _ (by decide)]; first | assumption | exact mg_up_s _ _ _ | (rw [mg_up_n _ _ (by decide)]; first | assumption | exact mg_up_s _ _ _ | (rw [mg_up_n _ _ (by decide)]; first | assumption | exact mg_up_s _ _ _ | (rw [mg_up_n _ _ (by decide)]; first | assumption | exact mg_up_s _ _ _ | (rw [mg_up_n _ _ (by decide)]; first | assumption | exact mg_up_s _ _ _))))))) (Nat.le_of_ble_eq_true rfl) (fun _ => ⟨rfl, rfl⟩) ?_
  refine mg_eqM (M' := c0M M si x s) rfl ?_
  have hO1 : (c0M M si x s) 1000 = some (moE (upd si 0 0) x s) := mg_up_s _ _ _
  have hT1 : (c0M M si x s) 1021 = some (iaE 60 tf) := (mg_up_n _ _ (by decide)).trans e2
  have hF1 : (c0M M si x s) 1016 = some (iaE 60 ff) := (mg_up_n _ _ (by decide)).trans b2
  have hP1 : (c0M M si x s) 1022 = some (iaE 60 pf) := (mg_up_n _ _ (by decide)).trans f2
  first | refine mg_aload_n d_Mo_shrink_5 rfl rfl ?_ | refine mg_aload_nN d_Mo_shrink_5 rfl rfl ?_
  refine mg_getfield fl_Mo_55 d_Mo_shrink_6 (by first | assumption | exact mg_up_s _ _ _ | (rw [mg_up_n _ _ (by decide)]; first | assumption | exact mg_up_s _ _ _ | (rw [mg_up_n _ _ (by decide)]; first | assumption | exact mg_up_s _ _ _ | (rw [mg_up_n _ _ (by decide)]; first | assumption | exact mg_up_s _ _ _ | (rw [mg_up_n _ _ (by decide)]; first | assumption | exact mg_up_s _ _ _ | (rw [mg_up_n _ _ (by decide)]; first | assumption | exact mg_up_s _ _ _ | (rw [mg_up_n _ _ (by decide)]; first | assumption | exact mg_up_s _ _ _))))))) rfl ?_
  refine mg_iconst (v := -1) d_Mo_shrink_9 (by decide) ?_
  refine mg_icmp_eq (tgt := 24) d_Mo_shrink_10 (by decide) (fun c_10 => ?_) (fun c_10 => ?_)
  · refine mg_iconst (v := -1) d_Mo_shrink_24 (by decide) ?_
    exact mg_ireturn d_Mo_shrink_25 rfl rfl (Nat.le_of_ble_eq_true rfl) (Nat.le_of_ble_eq_true rfl) ⟨rfl, hz⟩
  · refine mg_iload_n d_Mo_shrink_13 rfl rfl ?_
    refine mg_if_lt (tgt := 24) d_Mo_shrink_14 (by decide) (fun c_14 => ?_) (fun c_14 => ?_)
    · refine mg_iconst (v := -1) d_Mo_shrink_24 (by decide) ?_
      exact mg_ireturn d_Mo_shrink_25 rfl rfl (Nat.le_of_ble_eq_true rfl) (Nat.le_of_ble_eq_true rfl) ⟨rfl, hz⟩
    · refine mg_iload_n d_Mo_shrink_17 rfl rfl ?_
      refine mg_sipush (v := 400) d_Mo_shrink_18 (by decide) ?_
      refine mg_icmp_le (tgt := 26) d_Mo_shrink_21 (by decide) (fun c_21 => ?_) (fun c_21 => ?_)
      · rcases hb with hb | hb | hb
        · subst hb
          exact absurd b1.1 c_10
        · exact absurd hb c_14
        · exact absurd c_21 (Int32.not_le.mpr hb)
      · refine mg_iconst (v := -1) d_Mo_shrink_24 (by decide) ?_
        exact mg_ireturn d_Mo_shrink_25 rfl rfl (Nat.le_of_ble_eq_true rfl) (Nat.le_of_ble_eq_true rfl) ⟨rfl, hz⟩

set_option maxHeartbeats 4000000 in
set_option maxRecDepth 100000 in
theorem c_Mo_shrink {M : mg_M} {gs : List gN} {ps : List pN} {ks : List kN} {wa : Nat} {fo : fO} {le : Bool} {row nu pu : List Int32} {s : Int64} {i j tries : Nat} {v0 : Int32} {g : gN} {p : pN} (h : isMo M gs ps ks wa fo le row nu pu s) (hfo : fo = some (i, j, v0)) (hw : wfG gs) (hpl : ps.length ≤ 10) (hg : gs[i]? = some g) (hp : ps[j]? = some p) (ht : tries ≤ 400) (hnn : nnL row) (hv4 : ¬ v0 = 4) : mg_Ct Y_Mo_shrink { frames := 4, cells := 0, slots := 0, locals := 93 } [.ref 1000, .int (nI tries)] M (fun v M' => v = some (.int (nI (shrF gs p i v0 tries 0 0 row nu).1)) ∧ isMo M' gs ps ks wa fo (le || (shrF gs p i v0 tries 0 0 row nu).2.1) (shrF gs p i v0 tries 0 0 row nu).2.2.1 (rwT (rowC gs i (shrF gs p i v0 tries 0 0 row nu).2.2.1)) pu s ∧ sm 1000 1023 M M') := by
  subst hfo
  obtain ⟨si, x, hO, hS, hWk, hI⟩ := id h
  obtain ⟨⟨a1, a2, a3, a4⟩, ⟨b1, ⟨ff, b2, b3, b4⟩⟩, ⟨c1, c2, c3⟩, d1, ⟨e1, ⟨tf, e2, e3, e4⟩⟩, f1, ⟨pf, f2, f3, f4⟩⟩ := id hS
  have hz := isMo.c0 (x := x) (s := s) hS hWk hI
  refine mg_met [some (.ref 1000), some (.int (nI tries)), none, none, none] (by decide +kernel) rfl (Nat.le_of_ble_eq_true rfl) ?_
  intro X hR _
  first | refine mg_aload_n d_Mo_shrink_0 rfl rfl ?_ | refine mg_aload_nN d_Mo_shrink_0 rfl rfl ?_
  refine mg_iconst (v := 0) d_Mo_shrink_1 (by decide) ?_
  refine mg_putfield (fw_Mo_80 _) d_Mo_shrink_2 (by first | assumption | exact mg_up_s _ _ _ | (rw [mg_up_n _ _ (by decide)]; first | assumption | exact mg_up_s _ _ _ | (rw [mg_up_n _ _ (by decide)]; first | assumption | exact mg_up_s _ _ _ | (rw [mg_up_n _ _ (by decide)]; first | assumption | exact mg_up_s _ _ _ | (rw [mg_up_n _ _ (by decide)]; first | assumption | exact mg_up_s _ _ _ | (rw [mg_up_n _ _ (by decide)]; first | assumption | exact mg_up_s _ _ _ | (rw [mg_up_n _ _ (by decide)]; first | assumption | exact mg_up_s _ _ _))))))) (Nat.le_of_ble_eq_true rfl) (fun _ => ⟨rfl, rfl⟩) ?_
  refine mg_eqM (M' := c0M M si x s) rfl ?_
  have hO1 : (c0M M si x s) 1000 = some (moE (upd si 0 0) x s) := mg_up_s _ _ _
  have hT1 : (c0M M si x s) 1021 = some (iaE 60 tf) := (mg_up_n _ _ (by decide)).trans e2
  have hF1 : (c0M M si x s) 1016 = some (iaE 60 ff) := (mg_up_n _ _ (by decide)).trans b2
  have hP1 : (c0M M si x s) 1022 = some (iaE 60 pf) := (mg_up_n _ _ (by decide)).trans f2
  first | refine mg_aload_n d_Mo_shrink_5 rfl rfl ?_ | refine mg_aload_nN d_Mo_shrink_5 rfl rfl ?_
  refine mg_getfield fl_Mo_55 d_Mo_shrink_6 (by first | assumption | exact mg_up_s _ _ _ | (rw [mg_up_n _ _ (by decide)]; first | assumption | exact mg_up_s _ _ _ | (rw [mg_up_n _ _ (by decide)]; first | assumption | exact mg_up_s _ _ _ | (rw [mg_up_n _ _ (by decide)]; first | assumption | exact mg_up_s _ _ _ | (rw [mg_up_n _ _ (by decide)]; first | assumption | exact mg_up_s _ _ _ | (rw [mg_up_n _ _ (by decide)]; first | assumption | exact mg_up_s _ _ _ | (rw [mg_up_n _ _ (by decide)]; first | assumption | exact mg_up_s _ _ _))))))) rfl ?_
  refine mg_iconst (v := -1) d_Mo_shrink_9 (by decide) ?_
  refine mg_icmp_eq (tgt := 24) d_Mo_shrink_10 (by decide) (fun c_10 => ?_) (fun c_10 => ?_)
  · rw [show (upd si 0 0) 26 = nI row.length from b1.1] at c_10
    exact absurd c_10 (ne_m1 (by omega))
  · refine mg_iload_n d_Mo_shrink_13 rfl rfl ?_
    refine mg_if_lt (tgt := 24) d_Mo_shrink_14 (by decide) (fun c_14 => ?_) (fun c_14 => ?_)
    · exact absurd c_14 (nI_pos (by omega))
    · refine mg_iload_n d_Mo_shrink_17 rfl rfl ?_
      refine mg_sipush (v := 400) d_Mo_shrink_18 (by decide) ?_
      refine mg_icmp_le (tgt := 26) d_Mo_shrink_21 (by decide) (fun c_21 => ?_) (fun c_21 => ?_)
      · refine mg_iconst (v := 0) d_Mo_shrink_26 (by decide) ?_
        refine mg_istore_n d_Mo_shrink_27 rfl (Nat.le_of_ble_eq_true rfl) rfl ?_
        refine mg_iconst (v := 0) d_Mo_shrink_28 (by decide) ?_
        refine mg_istore_n d_Mo_shrink_29 rfl (Nat.le_of_ble_eq_true rfl) rfl ?_
        refine mg_iconst (v := 0) d_Mo_shrink_30 (by decide) ?_
        refine mg_istore d_Mo_shrink_31 (Nat.le_of_ble_eq_true rfl) rfl ?_
        obtain ⟨r, hr⟩ : ∃ r, (shrF gs p i v0 tries 0 0 row nu) = r := ⟨_, rfl⟩
        rw [hr]
        have hI0 : ∃ gv, isA (c0M M si x s) 1008 60 gv ∧ (upd si 0 0) 20 = nI gv.length := by
          obtain ⟨gv0, k1, k2⟩ := hI
          exact ⟨gv0, k1.eq (mg_up_n _ _ (by decide)), k2⟩
        refine lp_Mo_shrink (M0 := M) hR hw hg hpl hp ht hv4 (fun M2 si2 x2 z3 z4 hO2 hS2 hWk2 hI2 hnn2 hs2 => ?_) tries 0 0 0 _ _ x row nu (by omega) (by omega) (by omega) hO1 hS.c0 (hWk.eq (fun k _ _ => mg_up_n _ _ (by omega))) hI0 hnn (sm.rf.up (by decide) (by decide)) hr
        obtain ⟨gv0, ⟨fi, hI1, -⟩, -⟩ := hI2
        obtain ⟨tf2, te2, -⟩ := hS2.2.2.2.2.1.2
        first | refine mg_aload_n d_Mo_shrink_112 rfl rfl ?_ | refine mg_aload_nN d_Mo_shrink_112 rfl rfl ?_
        refine mg_callV (vl_Mo_190 rfl) d_Mo_shrink_113 (by first | assumption | exact mg_up_s _ _ _ | (rw [mg_up_n _ _ (by decide)]; first | assumption | exact mg_up_s _ _ _ | (rw [mg_up_n _ _ (by decide)]; first | assumption | exact mg_up_s _ _ _ | (rw [mg_up_n _ _ (by decide)]; first | assumption | exact mg_up_s _ _ _ | (rw [mg_up_n _ _ (by decide)]; first | assumption | exact mg_up_s _ _ _ | (rw [mg_up_n _ _ (by decide)]; first | assumption | exact mg_up_s _ _ _ | (rw [mg_up_n _ _ (by decide)]; first | assumption | exact mg_up_s _ _ _))))))) rfl rfl (c_Mo_copy hO2 hS2.2.1.1.1 hS2.2.1.2 ⟨fi, hI1⟩) rfl rfl (by rw [hR]; decide) (by rw [hR]; decide) (Nat.le_of_ble_eq_true rfl) ?_
        rintro v M3 ⟨rfl, y1, y2, y3⟩
        first | refine mg_aload_n d_Mo_shrink_116 rfl rfl ?_ | refine mg_aload_nN d_Mo_shrink_116 rfl rfl ?_
        first | refine mg_aload_n d_Mo_shrink_117 rfl rfl ?_ | refine mg_aload_nN d_Mo_shrink_117 rfl rfl ?_
        refine mg_getfield fl_Mo_146 d_Mo_shrink_118 (by first | assumption | exact mg_up_s _ _ _ | (rw [mg_up_n _ _ (by decide)]; first | assumption | exact mg_up_s _ _ _ | (rw [mg_up_n _ _ (by decide)]; first | assumption | exact mg_up_s _ _ _ | (rw [mg_up_n _ _ (by decide)]; first | assumption | exact mg_up_s _ _ _ | (rw [mg_up_n _ _ (by decide)]; first | assumption | exact mg_up_s _ _ _ | (rw [mg_up_n _ _ (by decide)]; first | assumption | exact mg_up_s _ _ _ | (rw [mg_up_n _ _ (by decide)]; first | assumption | exact mg_up_s _ _ _))))))) rfl ?_
        refine mg_eqi (y := nI i) hS2.2.1.1.2.1 ?_
        refine mg_iconst (v := 0) d_Mo_shrink_121 (by decide) ?_
        refine mg_callV (vl_Mo_161 rfl) d_Mo_shrink_122 (by first | assumption | exact mg_up_s _ _ _ | (rw [mg_up_n _ _ (by decide)]; first | assumption | exact mg_up_s _ _ _ | (rw [mg_up_n _ _ (by decide)]; first | assumption | exact mg_up_s _ _ _ | (rw [mg_up_n _ _ (by decide)]; first | assumption | exact mg_up_s _ _ _ | (rw [mg_up_n _ _ (by decide)]; first | assumption | exact mg_up_s _ _ _ | (rw [mg_up_n _ _ (by decide)]; first | assumption | exact mg_up_s _ _ _ | (rw [mg_up_n _ _ (by decide)]; first | assumption | exact mg_up_s _ _ _))))))) rfl rfl (c_Mo_go (gs := gs) (i := i) (g := g) (how := 0) y1 y2 pk_us (hWk2.eq (fun k _ _ => y3 k (by omega) (by omega))) (hS2.1.2.2.1.eq (fun k _ _ => y3 k (by omega) (by omega))) hw hg (okM0 hnn2)) rfl rfl (by rw [hR]; decide) (by rw [hR]; decide) (Nat.le_of_ble_eq_true rfl) ?_
        rintro v M4 ⟨rfl, si4, τ, lm, g1, g2, g3, g4, g5⟩
        have hrw := rw_of g3
        have hO4 := g1.1
        have U4 : ∀ k, k ≠ 1000 → (k < 1008 ∨ 1016 ≤ k) → M4 k = M2 k := fun k h1 h2 => (g5 k h1 (by omega)).trans (y3 k h1 (by omega))
        have V4 : ∀ k, k ≠ 10 → k ≠ 11 → k ≠ 12 → k ≠ 15 → k ≠ 20 → k ≠ 25 → si4 k = si2 k := fun k h1 h2 h3 h4 h5 h6 => (g4 k h1 h2 h3 h4 h6).trans (pk_un h5)
        first | refine mg_aload_n d_Mo_shrink_125 rfl rfl ?_ | refine mg_aload_nN d_Mo_shrink_125 rfl rfl ?_
        refine mg_callV (vl_Mo_155 rfl) d_Mo_shrink_126 (by first | assumption | exact mg_up_s _ _ _ | (rw [mg_up_n _ _ (by decide)]; first | assumption | exact mg_up_s _ _ _ | (rw [mg_up_n _ _ (by decide)]; first | assumption | exact mg_up_s _ _ _ | (rw [mg_up_n _ _ (by decide)]; first | assumption | exact mg_up_s _ _ _ | (rw [mg_up_n _ _ (by decide)]; first | assumption | exact mg_up_s _ _ _ | (rw [mg_up_n _ _ (by decide)]; first | assumption | exact mg_up_s _ _ _ | (rw [mg_up_n _ _ (by decide)]; first | assumption | exact mg_up_s _ _ _))))))) rfl rfl (c_Mo_tell g1 ⟨tf2, (U4 _ (by decide) (by decide)).trans te2⟩) rfl rfl (by rw [hR]; decide) (by rw [hR]; decide) (Nat.le_of_ble_eq_true rfl) ?_
        rintro v M5 ⟨rfl, t1, t2, t3⟩
        refine mg_iload_n d_Mo_shrink_129 rfl rfl ?_
        rw [rw_T hrw] at t1 t2
        exact mg_ireturn d_Mo_shrink_130 rfl rfl (Nat.le_of_ble_eq_true rfl) (Nat.le_of_ble_eq_true rfl) ⟨rfl, ⟨_, _, t1, hS2.nu (fun k hk => (pk_un (by omega)).trans (V4 k (by omega) (by omega) (by omega) (by omega) (by omega) (by omega))) (fun k hk => (t3 k (by omega) (by omega)).trans (U4 k (by omega) (by omega))) pk_us t2, g2.eq (fun k _ _ => t3 k (by omega) (by omega)), r.2.2.1, g1.2.2.2.2.2.2.2.2.1.eq (t3 _ (by decide) (by decide)), (pk_un (by decide)).trans g1.2.2.2.2.2.2.2.1⟩, fun k hk => (t3 k (by omega) (by omega)).trans ((U4 k (by omega) (by omega)).trans (hs2 k hk))⟩
      · exact absurd (nI_le (b := 400) ht (by decide)) c_21

