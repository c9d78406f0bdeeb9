/-! THE REFERENCE: replay, raise -/
theorem vdF_ne4 (p : pN) (ns : List Int32) : ¬ vdF p ns = 4 := by
  unfold vdF
  split
  · decide
  · split
    · split <;> decide
    · split
      · cases hasL ns p.2.1 <;> decide
      · split
        · cases fallL ns <;> decide
        · split
          · split <;> decide
          · split <;> decide
/-- a run by a row -/
def rwRel (τ : dS) (r : List Int32 × List Int32 × Bool) : Prop := τ.1 = r.1 ∧ τ.2.2.1 = r.2.2 ∧ (r.2.2 = false → τ.2.1 = r.2.1)
theorem rw_of {gs : List gN} {i : Nat} {ys : List Int32} {z : Int32} {x : Int64} {lm : Nat → Int32} {τ : dS} (h : gRel τ (giveF gs (0, ys, z) 8 i ([], [], false, x, lm))) : rwRel τ (rowC gs i ys) := by
  obtain ⟨r1, r2, r3⟩ := row_eq gs i ys z x lm
  obtain ⟨h1, h2, h3⟩ := h
  refine ⟨h1.trans r1, ?_, fun e => ?_⟩
  · rw [h2]; exact r3
  · rw [← r2]; exact h3 (r3.trans e)
theorem rw_vd {τ : dS} {r : List Int32 × List Int32 × Bool} {p : pN} (h : rwRel τ r) : vdS p τ = vdC p r := by
  unfold vdS vdC
  rw [h.2.1]
  cases e : r.2.2 with
  | true => rw [if_pos rfl, if_pos rfl]
  | false => rw [h.2.2 e]
theorem rw_tl {τ : dS} {r : List Int32 × List Int32 × Bool} (p : pN) (h : rwRel τ r) : tlL τ = if vdC p r = 4 then [] else r.2.1 := by
  unfold tlL vdC
  rw [h.2.1]
  cases e : r.2.2 with
  | true => rw [if_pos rfl, if_pos rfl, if_pos rfl]
  | false => rw [if_neg (show ¬ (false = true) by decide), if_neg (show ¬ (false = true) by decide), if_neg (vdF_ne4 _ _), h.2.2 e]
theorem rw_tl' {τ : dS} {r : List Int32 × List Int32 × Bool} (h : rwRel τ r) (e : r.2.2 = false) : tlL τ = r.2.1 := by
  unfold tlL
  rw [h.2.1, e, if_neg (by decide)]; exact h.2.2 e
theorem okM0 {gv : List Int32} {z : Int32} (h : nnL gv) : okM (0, gv, z) := ⟨Or.inl rfl, fun _ => h, fun e => absurd (show (0 : Int32) = 1 from e) (by decide)⟩
theorem okM2 {gv : List Int32} {z : Int32} (h : nnL gv) : okM (2, gv, z) := ⟨Or.inr (Or.inr rfl), fun _ => h, fun e => absurd (show (2 : Int32) = 1 from e) (by decide)⟩
theorem ig_t {a n : Nat} (h : a < n) (hn : n ≤ 20) : igB (nI a) (nI n) = true := (ig_iff hn).mpr ⟨a, h, rfl⟩
theorem ig_f {g : Int32} {n : Nat} (h : offR g n) : igB g (nI n) = false := by
  unfold igB
  rcases h with h | h
  · rw [decide_eq_false (fun e => e h)]; rfl
  · rw [decide_eq_false (show ¬ ¬ nI n ≤ g from fun e => e h), Bool.and_false]

set_option maxHeartbeats 4000000 in
set_option maxRecDepth 100000 in
theorem c_Mo_replay_no {M : mg_M} {gs : List gN} {ps : List pN} {ks : List kN} {wa : Nat} {fo : fO} {le : Bool} {row nu pu : List Int32} {s : Int64} {gi pj : Int32} (h : isMo M gs ps ks wa fo le row nu pu s) (hb : offR gi gs.length ∨ offR pj ps.length) : mg_Ct Y_Mo_replay { frames := 4, cells := 0, slots := 0, locals := 93 } [.ref 1000, .int gi, .int pj] M (fun v M' => v = some (.int (-1)) ∧ isMo M' gs ps ks wa fo le row nu pu s ∧ sm 1000 1023 M M') := by
  obtain ⟨si, x, hO, hS, hWk, hI⟩ := id h
  obtain ⟨⟨a1, a2, a3, a4⟩, ⟨b1, ⟨ff, b2, b3, b4⟩⟩, ⟨c1, c2, c3⟩, d1, ⟨e1, ⟨tf, e2, e3, e4⟩⟩, f1, ⟨pf, f2, f3, f4⟩⟩ := id hS
  have hz := isMo.c0 (x := x) (s := s) hS hWk hI
  refine mg_met [some (.ref 1000), some (.int gi), some (.int pj), none] (by decide +kernel) rfl (Nat.le_of_ble_eq_true rfl) ?_
  intro X hR _
  first | refine mg_aload_n d_Mo_replay_0 rfl rfl ?_ | refine mg_aload_nN d_Mo_replay_0 rfl rfl ?_
  refine mg_iconst (v := 0) d_Mo_replay_1 (by decide) ?_
  refine mg_putfield (fw_Mo_80 _) d_Mo_replay_2 (by first | assumption | exact mg_up_s _ _ _ | (rw [mg_up_n _ _ (by decide)]; first | assumption | exact mg_up_s _ _ _ | (rw [mg_up_n _ _ (by decide)]; first | assumption | exact mg_up_s _ _ _ | (rw [mg_up_n _ _ (by decide)]; first | assumption | exact mg_up_s _ _ _ | (rw [mg_up_n _ _ (by decide)]; first | assumption | exact mg_up_s _ _ _ | (rw [mg_up_n _ _ (by decide)]; first | assumption | exact mg_up_s _ _ _ | (rw [mg_up_n _ _ (by decide)]; first | assumption | exact mg_up_s _ _ _))))))) (Nat.le_of_ble_eq_true rfl) (fun _ => ⟨rfl, rfl⟩) ?_
  refine mg_eqM (M' := c0M M si x s) rfl ?_
  have hO1 : (c0M M si x s) 1000 = some (moE (upd si 0 0) x s) := mg_up_s _ _ _
  have hT1 : (c0M M si x s) 1021 = some (iaE 60 tf) := (mg_up_n _ _ (by decide)).trans e2
  have hF1 : (c0M M si x s) 1016 = some (iaE 60 ff) := (mg_up_n _ _ (by decide)).trans b2
  have hP1 : (c0M M si x s) 1022 = some (iaE 60 pf) := (mg_up_n _ _ (by decide)).trans f2
  first | refine mg_aload_n d_Mo_replay_5 rfl rfl ?_ | refine mg_aload_nN d_Mo_replay_5 rfl rfl ?_
  refine mg_iload_n d_Mo_replay_6 rfl rfl ?_
  refine mg_callV (vl_Mo_90 rfl) d_Mo_replay_7 (by first | assumption | exact mg_up_s _ _ _ | (rw [mg_up_n _ _ (by decide)]; first | assumption | exact mg_up_s _ _ _ | (rw [mg_up_n _ _ (by decide)]; first | assumption | exact mg_up_s _ _ _ | (rw [mg_up_n _ _ (by decide)]; first | assumption | exact mg_up_s _ _ _ | (rw [mg_up_n _ _ (by decide)]; first | assumption | exact mg_up_s _ _ _ | (rw [mg_up_n _ _ (by decide)]; first | assumption | exact mg_up_s _ _ _ | (rw [mg_up_n _ _ (by decide)]; first | assumption | exact mg_up_s _ _ _))))))) rfl rfl (c_Mo_isGenerator hO1) rfl rfl (by rw [hR]; decide) (by rw [hR]; decide) (Nat.le_of_ble_eq_true rfl) ?_
  rintro v M1 ⟨rfl, rfl⟩
  refine mg_if_eq (tgt := 25) d_Mo_replay_10 (by decide) (fun c_10 => ?_) (fun c_10 => ?_)
  · refine mg_iconst (v := -1) d_Mo_replay_25 (by decide) ?_
    exact mg_ireturn d_Mo_replay_26 rfl rfl (Nat.le_of_ble_eq_true rfl) (Nat.le_of_ble_eq_true rfl) ⟨rfl, hz⟩
  · have hgo : ¬ offR gi gs.length := fun e => c_10 (by rw [show (upd si 0 0) 1 = nI gs.length from a1, ig_f e]; rfl)
    refine mg_iload_n d_Mo_replay_13 rfl rfl ?_
    refine mg_if_lt (tgt := 25) d_Mo_replay_14 (by decide) (fun c_14 => ?_) (fun c_14 => ?_)
    · refine mg_iconst (v := -1) d_Mo_replay_25 (by decide) ?_
      exact mg_ireturn d_Mo_replay_26 rfl rfl (Nat.le_of_ble_eq_true rfl) (Nat.le_of_ble_eq_true rfl) ⟨rfl, hz⟩
    · refine mg_iload_n d_Mo_replay_17 rfl rfl ?_
      first | refine mg_aload_n d_Mo_replay_18 rfl rfl ?_ | refine mg_aload_nN d_Mo_replay_18 rfl rfl ?_
      refine mg_getfield fl_Mo_94 d_Mo_replay_19 (by first | assumption | exact mg_up_s _ _ _ | (rw [mg_up_n _ _ (by decide)]; first | assumption | exact mg_up_s _ _ _ | (rw [mg_up_n _ _ (by decide)]; first | assumption | exact mg_up_s _ _ _ | (rw [mg_up_n _ _ (by decide)]; first | assumption | exact mg_up_s _ _ _ | (rw [mg_up_n _ _ (by decide)]; first | assumption | exact mg_up_s _ _ _ | (rw [mg_up_n _ _ (by decide)]; first | assumption | exact mg_up_s _ _ _ | (rw [mg_up_n _ _ (by decide)]; first | assumption | exact mg_up_s _ _ _))))))) rfl ?_
      refine mg_icmp_lt (tgt := 27) d_Mo_replay_22 (by decide) (fun c_22 => ?_) (fun c_22 => ?_)
      · rcases hb with hb | hb | hb
        · exact absurd hb hgo
        · exact absurd hb c_14
        · exact absurd (show pj < nI ps.length by rw [← a2]; exact c_22) (Int32.not_lt.mpr hb)
      · refine mg_iconst (v := -1) d_Mo_replay_25 (by decide) ?_
        exact mg_ireturn d_Mo_replay_26 rfl rfl (Nat.le_of_ble_eq_true rfl) (Nat.le_of_ble_eq_true rfl) ⟨rfl, hz⟩

set_option maxHeartbeats 4000000 in
set_option maxRecDepth 100000 in
theorem cp_replay {X : mg_X} {M : mg_M} {si : Nat → Int32} {x s : Int64} {L : List Int32} {sf : Nat → Int32} {Q : State → Prop} {gi pj : Int32} (hO : M 1000 = some (moE si x s)) (hb : si 41 = nI L.length) (hL : L.length ≤ 60) (hsrc : M 1022 = some (iaE 60 sf)) (hsf : ∀ j, j < L.length → sf j = L.getD j 0) (kk : ∀ (M' : mg_M) (f : Nat → Int32), M' 1008 = some (iaE 60 f) → (∀ j, j < L.length → f j = L.getD j 0) → (∀ k, k ≠ 1008 → M' k = M k) → mg_G X Y_Mo_replay Q M' 0 0 63 [some (.ref 1000), some (.int gi), some (.int pj), some (.int (nI L.length))] []) : ∀ n : Nat, ∀ (i : Nat) (M' : mg_M) (f : Nat → Int32), L.length - i < n → i ≤ L.length → M' 1008 = some (iaE 60 f) → (∀ j, j < i → f j = L.getD j 0) → (∀ k, k ≠ 1008 → M' k = M k) → mg_G X Y_Mo_replay Q M' 0 0 37 [some (.ref 1000), some (.int gi), some (.int pj), some (.int (nI i))] [] := by
  intro n
  induction n with
  | zero =>
    intro i M' f hn hi hM hf hfr
    exact absurd hn (by omega)
  | succ n ih =>
    intro i M' f hn hi hM hf hfr
    have hO2 : M' 1000 = some (moE si x s) := (hfr _ (by decide)).trans hO
    have hsrc2 : M' 1022 = some (iaE 60 sf) := (hfr _ (by decide)).trans hsrc
    refine mg_iload_n d_Mo_replay_37 rfl rfl ?_
    first | refine mg_aload_n d_Mo_replay_38 rfl rfl ?_ | refine mg_aload_nN d_Mo_replay_38 rfl rfl ?_
    refine mg_getfield fl_Mo_196 d_Mo_replay_39 (by first | assumption | exact mg_up_s _ _ _ | (rw [mg_up_n _ _ (by decide)]; first | assumption | exact mg_up_s _ _ _ | (rw [mg_up_n _ _ (by decide)]; first | assumption | exact mg_up_s _ _ _ | (rw [mg_up_n _ _ (by decide)]; first | assumption | exact mg_up_s _ _ _ | (rw [mg_up_n _ _ (by decide)]; first | assumption | exact mg_up_s _ _ _ | (rw [mg_up_n _ _ (by decide)]; first | assumption | exact mg_up_s _ _ _ | (rw [mg_up_n _ _ (by decide)]; first | assumption | exact mg_up_s _ _ _))))))) rfl ?_
    refine mg_icmp_ge (tgt := 63) d_Mo_replay_42 (by decide) (fun c_42 => ?_) (fun c_42 => ?_)
    · have e : i = L.length := by
        rw [hb] at c_42
        have := (nI_leI (by omega) (by omega)).mp c_42
        omega
      subst e
      exact kk M' f hM hf hfr
    · have hi2 : i < L.length := by
        rw [hb] at c_42
        exact Nat.lt_of_not_le (fun q => c_42 (nI_le q (by omega)))
      have hin : vp_in (nI i) 60 := vp_in_nI (by omega) (by decide)
      have hin2 : vp_in (nI i) 60 := vp_in_nI (by omega) (by decide)
      first | refine mg_aload_n d_Mo_replay_45 rfl rfl ?_ | refine mg_aload_nN d_Mo_replay_45 rfl rfl ?_
      refine mg_getfield fl_Mo_31 d_Mo_replay_46 (by first | assumption | exact mg_up_s _ _ _ | (rw [mg_up_n _ _ (by decide)]; first | assumption | exact mg_up_s _ _ _ | (rw [mg_up_n _ _ (by decide)]; first | assumption | exact mg_up_s _ _ _ | (rw [mg_up_n _ _ (by decide)]; first | assumption | exact mg_up_s _ _ _ | (rw [mg_up_n _ _ (by decide)]; first | assumption | exact mg_up_s _ _ _ | (rw [mg_up_n _ _ (by decide)]; first | assumption | exact mg_up_s _ _ _ | (rw [mg_up_n _ _ (by decide)]; first | assumption | exact mg_up_s _ _ _))))))) rfl ?_
      refine mg_iload_n d_Mo_replay_49 rfl rfl ?_
      first | refine mg_aload_n d_Mo_replay_50 rfl rfl ?_ | refine mg_aload_nN d_Mo_replay_50 rfl rfl ?_
      refine mg_getfield fl_Mo_77 d_Mo_replay_51 (by first | assumption | exact mg_up_s _ _ _ | (rw [mg_up_n _ _ (by decide)]; first | assumption | exact mg_up_s _ _ _ | (rw [mg_up_n _ _ (by decide)]; first | assumption | exact mg_up_s _ _ _ | (rw [mg_up_n _ _ (by decide)]; first | assumption | exact mg_up_s _ _ _ | (rw [mg_up_n _ _ (by decide)]; first | assumption | exact mg_up_s _ _ _ | (rw [mg_up_n _ _ (by decide)]; first | assumption | exact mg_up_s _ _ _ | (rw [mg_up_n _ _ (by decide)]; first | assumption | exact mg_up_s _ _ _))))))) rfl ?_
      refine mg_iload_n d_Mo_replay_54 rfl rfl ?_
      skip
      refine mg_iaload rfl d_Mo_replay_55 (by first | assumption | exact mg_up_s _ _ _ | (rw [mg_up_n _ _ (by decide)]; first | assumption | exact mg_up_s _ _ _ | (rw [mg_up_n _ _ (by decide)]; first | assumption | exact mg_up_s _ _ _ | (rw [mg_up_n _ _ (by decide)]; first | assumption | exact mg_up_s _ _ _ | (rw [mg_up_n _ _ (by decide)]; first | assumption | exact mg_up_s _ _ _ | (rw [mg_up_n _ _ (by decide)]; first | assumption | exact mg_up_s _ _ _ | (rw [mg_up_n _ _ (by decide)]; first | assumption | exact mg_up_s _ _ _))))))) hin2 ?_
      refine mg_eqi (y := L.getD i 0) (by rw [nI_clamp (by omega)]; exact hsf i hi2) ?_
      refine mg_iastore rfl d_Mo_replay_56 (by first | assumption | exact mg_up_s _ _ _ | (rw [mg_up_n _ _ (by decide)]; first | assumption | exact mg_up_s _ _ _ | (rw [mg_up_n _ _ (by decide)]; first | assumption | exact mg_up_s _ _ _ | (rw [mg_up_n _ _ (by decide)]; first | assumption | exact mg_up_s _ _ _ | (rw [mg_up_n _ _ (by decide)]; first | assumption | exact mg_up_s _ _ _ | (rw [mg_up_n _ _ (by decide)]; first | assumption | exact mg_up_s _ _ _ | (rw [mg_up_n _ _ (by decide)]; first | assumption | exact mg_up_s _ _ _))))))) hin ?_
      refine mg_eqM (M' := mg_up M' 1008 (iaE 60 (upd f i (L.getD i 0)))) (by rw [nI_clamp (by omega)]) ?_
      refine mg_iinc (v := nI (i + 1)) d_Mo_replay_57 rfl (nI_1 _) (Nat.le_of_ble_eq_true rfl) rfl ?_
      refine mg_goto (tgt := 37) d_Mo_replay_60 (by decide) ?_
      refine ih (i + 1) _ _ (by omega) (by omega) (mg_up_s _ _ _) (fun j hj => ?_) (fun k hk => (mg_up_n _ _ hk).trans (hfr k hk))
      by_cases e : j = i
      · subst e; rw [pk_us]
      · rw [pk_un e]; exact hf j (by omega)

set_option maxHeartbeats 4000000 in
set_option maxRecDepth 100000 in
theorem c_Mo_replay {M : mg_M} {gs : List gN} {ps : List pN} {ks : List kN} {wa : Nat} {fo : fO} {le : Bool} {row nu pu : List Int32} {s : Int64} {i j : Nat} {g : gN} {p : pN} (h : isMo M gs ps ks wa fo le row nu pu s) (hw : wfG gs) (hpl : ps.length ≤ 10) (hg : gs[i]? = some g) (hp : ps[j]? = some p) (hnn : nnL pu) : mg_Ct Y_Mo_replay { frames := 4, cells := 0, slots := 0, locals := 93 } [.ref 1000, .int (nI i), .int (nI j)] M (fun v M' => v = some (.int (vdC p (rowC gs i pu))) ∧ isMo M' gs ps ks wa fo le row (if vdC p (rowC gs i pu) = 4 then [] else (rowC gs i pu).2.1) [] s ∧ sm 1000 1023 M M') := by
  obtain ⟨si, x, hO, hS, hWk, hI⟩ := id h
  obtain ⟨⟨a1, a2, a3, a4⟩, ⟨b1, ⟨ff, b2, b3, b4⟩⟩, ⟨c1, c2, c3⟩, d1, ⟨e1, ⟨tf, e2, e3, e4⟩⟩, f1, ⟨pf, f2, f3, f4⟩⟩ := id hS
  have hz := isMo.c0 (x := x) (s := s) hS hWk hI
  have hi : i < gs.length := (List.getElem?_eq_some_iff.mp hg).1
  have hj : j < ps.length := (List.getElem?_eq_some_iff.mp hp).1
  have h20 := hw.1
  refine mg_met [some (.ref 1000), some (.int (nI i)), some (.int (nI j)), none] (by decide +kernel) rfl (Nat.le_of_ble_eq_true rfl) ?_
  intro X hR _
  first | refine mg_aload_n d_Mo_replay_0 rfl rfl ?_ | refine mg_aload_nN d_Mo_replay_0 rfl rfl ?_
  refine mg_iconst (v := 0) d_Mo_replay_1 (by decide) ?_
  refine mg_putfield (fw_Mo_80 _) d_Mo_replay_2 (by first | assumption | exact mg_up_s _ _ _ | (rw [mg_up_n _ _ (by decide)]; first | assumption | exact mg_up_s _ _ _ | (rw [mg_up_n _ _ (by decide)]; first | assumption | exact mg_up_s _ _ _ | (rw [mg_up_n _ _ (by decide)]; first | assumption | exact mg_up_s _ _ _ | (rw [mg_up_n _ _ (by decide)]; first | assumption | exact mg_up_s _ _ _ | (rw [mg_up_n _ _ (by decide)]; first | assumption | exact mg_up_s _ _ _ | (rw [mg_up_n _ _ (by decide)]; first | assumption | exact mg_up_s _ _ _))))))) (Nat.le_of_ble_eq_true rfl) (fun _ => ⟨rfl, rfl⟩) ?_
  refine mg_eqM (M' := c0M M si x s) rfl ?_
  have hO1 : (c0M M si x s) 1000 = some (moE (upd si 0 0) x s) := mg_up_s _ _ _
  have hT1 : (c0M M si x s) 1021 = some (iaE 60 tf) := (mg_up_n _ _ (by decide)).trans e2
  have hF1 : (c0M M si x s) 1016 = some (iaE 60 ff) := (mg_up_n _ _ (by decide)).trans b2
  have hP1 : (c0M M si x s) 1022 = some (iaE 60 pf) := (mg_up_n _ _ (by decide)).trans f2
  first | refine mg_aload_n d_Mo_replay_5 rfl rfl ?_ | refine mg_aload_nN d_Mo_replay_5 rfl rfl ?_
  refine mg_iload_n d_Mo_replay_6 rfl rfl ?_
  refine mg_callV (vl_Mo_90 rfl) d_Mo_replay_7 (by first | assumption | exact mg_up_s _ _ _ | (rw [mg_up_n _ _ (by decide)]; first | assumption | exact mg_up_s _ _ _ | (rw [mg_up_n _ _ (by decide)]; first | assumption | exact mg_up_s _ _ _ | (rw [mg_up_n _ _ (by decide)]; first | assumption | exact mg_up_s _ _ _ | (rw [mg_up_n _ _ (by decide)]; first | assumption | exact mg_up_s _ _ _ | (rw [mg_up_n _ _ (by decide)]; first | assumption | exact mg_up_s _ _ _ | (rw [mg_up_n _ _ (by decide)]; first | assumption | exact mg_up_s _ _ _))))))) rfl rfl (c_Mo_isGenerator hO1) rfl rfl (by rw [hR]; decide) (by rw [hR]; decide) (Nat.le_of_ble_eq_true rfl) ?_
  rintro v M1 ⟨rfl, rfl⟩
  refine mg_if_eq (tgt := 25) d_Mo_replay_10 (by decide) (fun c_10 => ?_) (fun c_10 => ?_)
  · exact absurd (by first | exact c_10 | exact Decidable.not_not.mp c_10) (by rw [show (upd si 0 0) 1 = nI gs.length from a1, ig_t hi hw.1]; decide)
  · refine mg_iload_n d_Mo_replay_13 rfl rfl ?_
    refine mg_if_lt (tgt := 25) d_Mo_replay_14 (by decide) (fun c_14 => ?_) (fun c_14 => ?_)
    · exact absurd c_14 (nI_pos (by omega))
    · refine mg_iload_n d_Mo_replay_17 rfl rfl ?_
      first | refine mg_aload_n d_Mo_replay_18 rfl rfl ?_ | refine mg_aload_nN d_Mo_replay_18 rfl rfl ?_
      refine mg_getfield fl_Mo_94 d_Mo_replay_19 (by first | assumption | exact mg_up_s _ _ _ | (rw [mg_up_n _ _ (by decide)]; first | assumption | exact mg_up_s _ _ _ | (rw [mg_up_n _ _ (by decide)]; first | assumption | exact mg_up_s _ _ _ | (rw [mg_up_n _ _ (by decide)]; first | assumption | exact mg_up_s _ _ _ | (rw [mg_up_n _ _ (by decide)]; first | assumption | exact mg_up_s _ _ _ | (rw [mg_up_n _ _ (by decide)]; first | assumption | exact mg_up_s _ _ _ | (rw [mg_up_n _ _ (by decide)]; first | assumption | exact mg_up_s _ _ _))))))) rfl ?_
      refine mg_icmp_lt (tgt := 27) d_Mo_replay_22 (by decide) (fun c_22 => ?_) (fun c_22 => ?_)
      · first | refine mg_aload_n d_Mo_replay_27 rfl rfl ?_ | refine mg_aload_nN d_Mo_replay_27 rfl rfl ?_
        first | refine mg_aload_n d_Mo_replay_28 rfl rfl ?_ | refine mg_aload_nN d_Mo_replay_28 rfl rfl ?_
        refine mg_getfield fl_Mo_196 d_Mo_replay_29 (by first | assumption | exact mg_up_s _ _ _ | (rw [mg_up_n _ _ (by decide)]; first | assumption | exact mg_up_s _ _ _ | (rw [mg_up_n _ _ (by decide)]; first | assumption | exact mg_up_s _ _ _ | (rw [mg_up_n _ _ (by decide)]; first | assumption | exact mg_up_s _ _ _ | (rw [mg_up_n _ _ (by decide)]; first | assumption | exact mg_up_s _ _ _ | (rw [mg_up_n _ _ (by decide)]; first | assumption | exact mg_up_s _ _ _ | (rw [mg_up_n _ _ (by decide)]; first | assumption | exact mg_up_s _ _ _))))))) rfl ?_
        refine mg_eqi (y := nI pu.length) f1 ?_
        refine mg_putfield (fw_Mo_111 _) d_Mo_replay_32 (by first | assumption | exact mg_up_s _ _ _ | (rw [mg_up_n _ _ (by decide)]; first | assumption | exact mg_up_s _ _ _ | (rw [mg_up_n _ _ (by decide)]; first | assumption | exact mg_up_s _ _ _ | (rw [mg_up_n _ _ (by decide)]; first | assumption | exact mg_up_s _ _ _ | (rw [mg_up_n _ _ (by decide)]; first | assumption | exact mg_up_s _ _ _ | (rw [mg_up_n _ _ (by decide)]; first | assumption | exact mg_up_s _ _ _ | (rw [mg_up_n _ _ (by decide)]; first | assumption | exact mg_up_s _ _ _))))))) (Nat.le_of_ble_eq_true rfl) (fun _ => ⟨rfl, rfl⟩) ?_
        refine mg_eqM (M' := mg_up (c0M M si x s) 1000 (moE (upd (upd si 0 0) 20 (nI pu.length)) x s)) rfl ?_
        refine mg_iconst (v := 0) d_Mo_replay_35 (by decide) ?_
        refine mg_istore_n d_Mo_replay_36 rfl (Nat.le_of_ble_eq_true rfl) rfl ?_
        have U1 : ∀ k, k ≠ 1000 → (mg_up (c0M M si x s) 1000 (moE (upd (upd si 0 0) 20 (nI pu.length)) x s)) k = M k := fun k hk => (mg_up_n _ _ hk).trans (mg_up_n _ _ hk)
        have hO2 : (mg_up (c0M M si x s) 1000 (moE (upd (upd si 0 0) 20 (nI pu.length)) x s)) 1000 = some (moE (upd (upd si 0 0) 20 (nI pu.length)) x s) := mg_up_s _ _ _
        generalize mg_up (c0M M si x s) 1000 (moE (upd (upd si 0 0) 20 (nI pu.length)) x s) = M1 at U1 hO2 ⊢
        obtain ⟨gv0, ⟨fi, hI1, -⟩, -⟩ := hI
        refine cp_replay (L := pu) (sf := pf) hO2 f1 f3 ((U1 _ (by decide)).trans f2) f4 (fun M2 f hM hf hfr => ?_) (pu.length + 1) 0 _ fi (by omega) (by omega) ((U1 _ (by decide)).trans hI1) (fun j hj => absurd hj (Nat.not_lt_zero _)) (fun _ _ => rfl)
        have hO3 : M2 1000 = some (moE (upd (upd si 0 0) 20 (nI pu.length)) x s) := (hfr _ (by decide)).trans hO2
        first | refine mg_aload_n d_Mo_replay_63 rfl rfl ?_ | refine mg_aload_nN d_Mo_replay_63 rfl rfl ?_
        refine mg_iconst (v := 0) d_Mo_replay_64 (by decide) ?_
        refine mg_putfield (fw_Mo_196 _) d_Mo_replay_65 (by first | assumption | exact mg_up_s _ _ _ | (rw [mg_up_n _ _ (by decide)]; first | assumption | exact mg_up_s _ _ _ | (rw [mg_up_n _ _ (by decide)]; first | assumption | exact mg_up_s _ _ _ | (rw [mg_up_n _ _ (by decide)]; first | assumption | exact mg_up_s _ _ _ | (rw [mg_up_n _ _ (by decide)]; first | assumption | exact mg_up_s _ _ _ | (rw [mg_up_n _ _ (by decide)]; first | assumption | exact mg_up_s _ _ _ | (rw [mg_up_n _ _ (by decide)]; first | assumption | exact mg_up_s _ _ _))))))) (Nat.le_of_ble_eq_true rfl) (fun _ => ⟨rfl, rfl⟩) ?_
        refine mg_eqM (M' := mg_up M2 1000 (moE (upd (upd (upd si 0 0) 20 (nI pu.length)) 41 0) x s)) rfl ?_
        have U2 : ∀ k, k ≠ 1000 → k ≠ 1008 → (mg_up M2 1000 (moE (upd (upd (upd si 0 0) 20 (nI pu.length)) 41 0) x s)) k = M k := fun k h1 h2 => (mg_up_n _ _ h1).trans ((hfr k h2).trans (U1 k h1))
        have hO4 : (mg_up M2 1000 (moE (upd (upd (upd si 0 0) 20 (nI pu.length)) 41 0) x s)) 1000 = some (moE (upd (upd (upd si 0 0) 20 (nI pu.length)) 41 0) x s) := mg_up_s _ _ _
        have hI4 : isA (mg_up M2 1000 (moE (upd (upd (upd si 0 0) 20 (nI pu.length)) 41 0) x s)) 1008 60 pu := ⟨f, (mg_up_n _ _ (by decide)).trans hM, f3, hf⟩
        generalize mg_up M2 1000 (moE (upd (upd (upd si 0 0) 20 (nI pu.length)) 41 0) x s) = M3 at U2 hO4 hI4 ⊢
        first | refine mg_aload_n d_Mo_replay_68 rfl rfl ?_ | refine mg_aload_nN d_Mo_replay_68 rfl rfl ?_
        refine mg_iload_n d_Mo_replay_69 rfl rfl ?_
        refine mg_iconst (v := 0) d_Mo_replay_70 (by decide) ?_
        refine mg_callV (vl_Mo_161 rfl) d_Mo_replay_71 (by first | assumption | exact mg_up_s _ _ _ | (rw [mg_up_n _ _ (by decide)]; first | assumption | exact mg_up_s _ _ _ | (rw [mg_up_n _ _ (by decide)]; first | assumption | exact mg_up_s _ _ _ | (rw [mg_up_n _ _ (by decide)]; first | assumption | exact mg_up_s _ _ _ | (rw [mg_up_n _ _ (by decide)]; first | assumption | exact mg_up_s _ _ _ | (rw [mg_up_n _ _ (by decide)]; first | assumption | exact mg_up_s _ _ _ | (rw [mg_up_n _ _ (by decide)]; first | assumption | exact mg_up_s _ _ _))))))) rfl rfl (c_Mo_go (gs := gs) (i := i) (g := g) (how := 0) hO4 hI4 rfl (hWk.eq (fun k _ _ => U2 k (by omega) (by omega))) (a3.eq (fun k _ _ => U2 k (by omega) (by omega))) hw hg (okM0 hnn)) rfl rfl (by rw [hR]; decide) (by rw [hR]; decide) (Nat.le_of_ble_eq_true rfl) ?_
        rintro v M4 ⟨rfl, si4, τ, lm, g1, g2, g3, g4, g5⟩
        have hr := rw_of g3
        have hO5 := g1.1
        have U4 : ∀ k, k ≠ 1000 → (k < 1008 ∨ 1016 ≤ k) → M4 k = M k := fun k h1 h2 => (g5 k h1 (by omega)).trans (U2 k h1 (by omega))
        first | refine mg_aload_n d_Mo_replay_74 rfl rfl ?_ | refine mg_aload_nN d_Mo_replay_74 rfl rfl ?_
        refine mg_callV (vl_Mo_155 rfl) d_Mo_replay_75 (by first | assumption | exact mg_up_s _ _ _ | (rw [mg_up_n _ _ (by decide)]; first | assumption | exact mg_up_s _ _ _ | (rw [mg_up_n _ _ (by decide)]; first | assumption | exact mg_up_s _ _ _ | (rw [mg_up_n _ _ (by decide)]; first | assumption | exact mg_up_s _ _ _ | (rw [mg_up_n _ _ (by decide)]; first | assumption | exact mg_up_s _ _ _ | (rw [mg_up_n _ _ (by decide)]; first | assumption | exact mg_up_s _ _ _ | (rw [mg_up_n _ _ (by decide)]; first | assumption | exact mg_up_s _ _ _))))))) rfl rfl (c_Mo_tell g1 ⟨tf, (U4 _ (by decide) (by decide)).trans e2⟩) rfl rfl (by rw [hR]; decide) (by rw [hR]; decide) (Nat.le_of_ble_eq_true rfl) ?_
        rintro v M5 ⟨rfl, t1, t2, t3⟩
        have U5 : ∀ k, k ≠ 1000 → k ≠ 1021 → (k < 1008 ∨ 1016 ≤ k) → M5 k = M k := fun k h1 h2 h3 => (t3 k h1 h2).trans (U4 k h1 h3)
        first | refine mg_aload_n d_Mo_replay_78 rfl rfl ?_ | refine mg_aload_nN d_Mo_replay_78 rfl rfl ?_
        refine mg_iload_n d_Mo_replay_79 rfl rfl ?_
        refine mg_callV (vl_Mo_164 rfl) d_Mo_replay_80 (by first | assumption | exact mg_up_s _ _ _ | (rw [mg_up_n _ _ (by decide)]; first | assumption | exact mg_up_s _ _ _ | (rw [mg_up_n _ _ (by decide)]; first | assumption | exact mg_up_s _ _ _ | (rw [mg_up_n _ _ (by decide)]; first | assumption | exact mg_up_s _ _ _ | (rw [mg_up_n _ _ (by decide)]; first | assumption | exact mg_up_s _ _ _ | (rw [mg_up_n _ _ (by decide)]; first | assumption | exact mg_up_s _ _ _ | (rw [mg_up_n _ _ (by decide)]; first | assumption | exact mg_up_s _ _ _))))))) rfl rfl (c_Mo_does (isRun.fr g1 t1 (fun k hk => pk_un (by omega)) (fun k _ _ => t3 k (by omega) (by omega))) (a4.eq (fun k _ _ => U5 k (by omega) (by omega) (by omega))) hpl hp) rfl rfl (by rw [hR]; decide) (by rw [hR]; decide) (Nat.le_of_ble_eq_true rfl) ?_
        rintro v M6 ⟨rfl, rfl⟩
        rw [rw_vd hr]
        have hk : ∀ k, k ≠ 40 → k ≠ 10 → k ≠ 11 → k ≠ 12 → k ≠ 15 → k ≠ 25 → k ≠ 0 → k ≠ 20 → k ≠ 41 → (upd si4 40 (nI (tlL τ).length)) k = si k := fun k h0 h1 h2 h3 h4 h5 h6 h7 h8 => (pk_un h0).trans ((g4 k h1 h2 h3 h4 h5).trans ((pk_un h8).trans ((pk_un h7).trans (pk_un h6))))
        refine mg_ireturn d_Mo_replay_83 rfl rfl (Nat.le_of_ble_eq_true rfl) (Nat.le_of_ble_eq_true rfl) ⟨rfl, ⟨_, _, t1, ⟨⟨(hk 1 (by decide) (by decide) (by decide) (by decide) (by decide) (by decide) (by decide) (by decide) (by decide)).trans a1, (hk 2 (by decide) (by decide) (by decide) (by decide) (by decide) (by decide) (by decide) (by decide) (by decide)).trans a2, a3.eq (fun k _ _ => U5 k (by omega) (by omega) (by omega)), a4.eq (fun k _ _ => U5 k (by omega) (by omega) (by omega))⟩, ⟨b1.eq (fun k _ _ => hk k (by omega) (by omega) (by omega) (by omega) (by omega) (by omega) (by omega) (by omega) (by omega)), ff, (U5 _ (by decide) (by decide) (by decide)).trans b2, b3, b4⟩, ⟨(hk 30 (by decide) (by decide) (by decide) (by decide) (by decide) (by decide) (by decide) (by decide) (by decide)).trans c1, (hk 31 (by decide) (by decide) (by decide) (by decide) (by decide) (by decide) (by decide) (by decide) (by decide)).trans c2, c3.eq (fun k _ _ => U5 k (by omega) (by omega) (by omega))⟩, (hk 37 (by decide) (by decide) (by decide) (by decide) (by decide) (by decide) (by decide) (by decide) (by decide)).trans d1, ⟨?_, ?_⟩, ?_, pf, (U5 _ (by decide) (by decide) (by decide)).trans f2, Nat.zero_le _, fun j hj => absurd hj (Nat.not_lt_zero _)⟩, g2.eq (fun k _ _ => t3 k (by omega) (by omega)), ?_⟩, ?_⟩
        · rw [← rw_tl p hr]; exact pk_us
        · rw [← rw_tl p hr]; exact t2
        · exact (pk_un (by decide)).trans ((g4 41 (by decide) (by decide) (by decide) (by decide) (by decide)).trans pk_us)
        · exact ⟨pu, g1.2.2.2.2.2.2.2.2.1.eq (t3 _ (by decide) (by decide)), (pk_un (by decide)).trans g1.2.2.2.2.2.2.2.1⟩
        · exact fun k hk => U5 k (by omega) (by omega) (by omega)
      · exact absurd (show nI j < (upd si 0 0) 2 by rw [show (upd si 0 0) 2 = nI ps.length from a2]; exact nI_lt hj (by omega)) c_22

set_option maxHeartbeats 4000000 in
set_option maxRecDepth 100000 in
theorem cp_raise {X : mg_X} {M : mg_M} {si : Nat → Int32} {x s : Int64} {L : List Int32} {sf : Nat → Int32} {Q : State → Prop}  (hO : M 1000 = some (moE si x s)) (hL : L.length ≤ 60) (hsrc : M 1009 = some (iaE 60 sf)) (hsf : ∀ j, j < L.length → sf j = L.getD j 0) (kk : ∀ (M' : mg_M) (f : Nat → Int32), M' 1008 = some (iaE 60 f) → (∀ j, j < L.length → f j = L.getD j 0) → (∀ k, k ≠ 1008 → M' k = M k) → mg_G X Y_Mo_raise Q M' 0 0 63 [some (.ref 1000), some (.int (nI L.length)), some (.int (nI L.length))] []) : ∀ n : Nat, ∀ (i : Nat) (M' : mg_M) (f : Nat → Int32), L.length - i < n → i ≤ L.length → M' 1008 = some (iaE 60 f) → (∀ j, j < i → f j = L.getD j 0) → (∀ k, k ≠ 1008 → M' k = M k) → mg_G X Y_Mo_raise Q M' 0 0 40 [some (.ref 1000), some (.int (nI L.length)), some (.int (nI i))] [] := by
  intro n
  induction n with
  | zero =>
    intro i M' f hn hi hM hf hfr
    exact absurd hn (by omega)
  | succ n ih =>
    intro i M' f hn hi hM hf hfr
    have hO2 : M' 1000 = some (moE si x s) := (hfr _ (by decide)).trans hO
    have hsrc2 : M' 1009 = some (iaE 60 sf) := (hfr _ (by decide)).trans hsrc
    refine mg_iload_n d_Mo_raise_40 rfl rfl ?_
    refine mg_iload_n d_Mo_raise_41 rfl rfl ?_
    refine mg_icmp_ge (tgt := 63) d_Mo_raise_42 (by decide) (fun c_42 => ?_) (fun c_42 => ?_)
    · have e : i = L.length := by
        skip
        have := (nI_leI (by omega) (by omega)).mp c_42
        omega
      subst e
      exact kk M' f hM hf hfr
    · have hi2 : i < L.length := by
        skip
        exact Nat.lt_of_not_le (fun q => c_42 (nI_le q (by omega)))
      have hin : vp_in (nI i) 60 := vp_in_nI (by omega) (by decide)
      have hin2 : vp_in (nI i) 60 := vp_in_nI (by omega) (by decide)
      first | refine mg_aload_n d_Mo_raise_45 rfl rfl ?_ | refine mg_aload_nN d_Mo_raise_45 rfl rfl ?_
      refine mg_getfield fl_Mo_31 d_Mo_raise_46 (by first | assumption | exact mg_up_s _ _ _ | (rw [mg_up_n _ _ (by decide)]; first | assumption | exact mg_up_s _ _ _ | (rw [mg_up_n _ _ (by decide)]; first | assumption | exact mg_up_s _ _ _ | (rw [mg_up_n _ _ (by decide)]; first | assumption | exact mg_up_s _ _ _ | (rw [mg_up_n _ _ (by decide)]; first | assumption | exact mg_up_s _ _ _ | (rw [mg_up_n _ _ (by decide)]; first | assumption | exact mg_up_s _ _ _ | (rw [mg_up_n _ _ (by decide)]; first | assumption | exact mg_up_s _ _ _))))))) rfl ?_
      refine mg_iload_n d_Mo_raise_49 rfl rfl ?_
      first | refine mg_aload_n d_Mo_raise_50 rfl rfl ?_ | refine mg_aload_nN d_Mo_raise_50 rfl rfl ?_
      refine mg_getfield fl_Mo_34 d_Mo_raise_51 (by first | assumption | exact mg_up_s _ _ _ | (rw [mg_up_n _ _ (by decide)]; first | assumption | exact mg_up_s _ _ _ | (rw [mg_up_n _ _ (by decide)]; first | assumption | exact mg_up_s _ _ _ | (rw [mg_up_n _ _ (by decide)]; first | assumption | exact mg_up_s _ _ _ | (rw [mg_up_n _ _ (by decide)]; first | assumption | exact mg_up_s _ _ _ | (rw [mg_up_n _ _ (by decide)]; first | assumption | exact mg_up_s _ _ _ | (rw [mg_up_n _ _ (by decide)]; first | assumption | exact mg_up_s _ _ _))))))) rfl ?_
      refine mg_iload_n d_Mo_raise_54 rfl rfl ?_
      skip
      refine mg_iaload rfl d_Mo_raise_55 (by first | assumption | exact mg_up_s _ _ _ | (rw [mg_up_n _ _ (by decide)]; first | assumption | exact mg_up_s _ _ _ | (rw [mg_up_n _ _ (by decide)]; first | assumption | exact mg_up_s _ _ _ | (rw [mg_up_n _ _ (by decide)]; first | assumption | exact mg_up_s _ _ _ | (rw [mg_up_n _ _ (by decide)]; first | assumption | exact mg_up_s _ _ _ | (rw [mg_up_n _ _ (by decide)]; first | assumption | exact mg_up_s _ _ _ | (rw [mg_up_n _ _ (by decide)]; first | assumption | exact mg_up_s _ _ _))))))) hin2 ?_
      refine mg_eqi (y := L.getD i 0) (by rw [nI_clamp (by omega)]; exact hsf i hi2) ?_
      refine mg_iastore rfl d_Mo_raise_56 (by first | assumption | exact mg_up_s _ _ _ | (rw [mg_up_n _ _ (by decide)]; first | assumption | exact mg_up_s _ _ _ | (rw [mg_up_n _ _ (by decide)]; first | assumption | exact mg_up_s _ _ _ | (rw [mg_up_n _ _ (by decide)]; first | assumption | exact mg_up_s _ _ _ | (rw [mg_up_n _ _ (by decide)]; first | assumption | exact mg_up_s _ _ _ | (rw [mg_up_n _ _ (by decide)]; first | assumption | exact mg_up_s _ _ _ | (rw [mg_up_n _ _ (by decide)]; first | assumption | exact mg_up_s _ _ _))))))) hin ?_
      refine mg_eqM (M' := mg_up M' 1008 (iaE 60 (upd f i (L.getD i 0)))) (by rw [nI_clamp (by omega)]) ?_
      refine mg_iinc (v := nI (i + 1)) d_Mo_raise_57 rfl (nI_1 _) (Nat.le_of_ble_eq_true rfl) rfl ?_
      refine mg_goto (tgt := 40) d_Mo_raise_60 (by decide) ?_
      refine ih (i + 1) _ _ (by omega) (by omega) (mg_up_s _ _ _) (fun j hj => ?_) (fun k hk => (mg_up_n _ _ hk).trans (hfr k hk))
      by_cases e : j = i
      · subst e; rw [pk_us]
      · rw [pk_un e]; exact hf j (by omega)

set_option maxHeartbeats 4000000 in
set_option maxRecDepth 100000 in
theorem lp_raise {X : mg_X} {M : mg_M} {si : Nat → Int32} {x s : Int64} {md : dM} {σ : dS} {r : Option (List Int32)} (h : isRun M si x s md σ) (hle : ∀ j, j < σ.1.length → σ.1.getD j 0 ≤ σ.2.2.2.2 j) : ∀ n, n ≤ σ.1.length → nextF σ.1 σ.2.2.2.2 n = r → mg_G X Y_Mo_raise (mg_Q X (mkQ M si x s r) { frames := 0, cells := 0, slots := 0, locals := 0 }) M 0 0 7 [some (.ref 1000), some (.int (nI n - 1)), none] [] := by
  obtain ⟨a1, a2, a3, a4, a5, a6, a7, a8, ⟨gf, g1, -, -⟩, ⟨rf, r1, r2, r3⟩, a11, a12⟩ := id h
  intro n
  induction n with
  | zero =>
    intro hn hr
    rw [nextF] at hr
    subst hr
    refine mg_iload_n d_Mo_raise_7 rfl rfl ?_
    refine mg_if_lt (tgt := 32) d_Mo_raise_8 (by decide) (fun _ => ?_) (fun e => absurd (by decide) e)
    refine mg_iload_n d_Mo_raise_32 rfl rfl ?_
    refine mg_if_ge (tgt := 38) d_Mo_raise_33 (by decide) (fun e => absurd e (by decide)) (fun _ => ?_)
    refine mg_iconst (v := 0) d_Mo_raise_36 (by decide) ?_
    exact mg_ireturn d_Mo_raise_37 rfl rfl (Nat.le_of_ble_eq_true rfl) (Nat.le_of_ble_eq_true rfl) ⟨rfl, rfl⟩
  | succ m ih =>
    intro hn hr
    rw [nextF] at hr
    have hin : vp_in (nI m) 60 := vp_in_nI (by omega) (by decide)
    refine mg_eql (lv' := [some (.ref 1000), some (.int (nI m)), none]) (by rw [nI_pred]) ?_
    refine mg_iload_n d_Mo_raise_7 rfl rfl ?_
    refine mg_if_lt (tgt := 32) d_Mo_raise_8 (by decide) (fun c_8 => ?_) (fun c_8 => ?_)
    · exact absurd c_8 (nI_pos (by omega))
    · first | refine mg_aload_n d_Mo_raise_11 rfl rfl ?_ | refine mg_aload_nN d_Mo_raise_11 rfl rfl ?_
      refine mg_getfield fl_Mo_34 d_Mo_raise_12 (by first | assumption | exact mg_up_s _ _ _ | (rw [mg_up_n _ _ (by decide)]; first | assumption | exact mg_up_s _ _ _ | (rw [mg_up_n _ _ (by decide)]; first | assumption | exact mg_up_s _ _ _ | (rw [mg_up_n _ _ (by decide)]; first | assumption | exact mg_up_s _ _ _ | (rw [mg_up_n _ _ (by decide)]; first | assumption | exact mg_up_s _ _ _ | (rw [mg_up_n _ _ (by decide)]; first | assumption | exact mg_up_s _ _ _ | (rw [mg_up_n _ _ (by decide)]; first | assumption | exact mg_up_s _ _ _))))))) rfl ?_
      refine mg_iload_n d_Mo_raise_15 rfl rfl ?_
      refine mg_iaload rfl d_Mo_raise_16 (by first | assumption | exact mg_up_s _ _ _ | (rw [mg_up_n _ _ (by decide)]; first | assumption | exact mg_up_s _ _ _ | (rw [mg_up_n _ _ (by decide)]; first | assumption | exact mg_up_s _ _ _ | (rw [mg_up_n _ _ (by decide)]; first | assumption | exact mg_up_s _ _ _ | (rw [mg_up_n _ _ (by decide)]; first | assumption | exact mg_up_s _ _ _ | (rw [mg_up_n _ _ (by decide)]; first | assumption | exact mg_up_s _ _ _ | (rw [mg_up_n _ _ (by decide)]; first | assumption | exact mg_up_s _ _ _))))))) hin ?_
      refine mg_eqi (y := σ.1.getD m 0) (by rw [nI_clamp (by omega)]; exact r3 m (by omega)) ?_
      first | refine mg_aload_n d_Mo_raise_17 rfl rfl ?_ | refine mg_aload_nN d_Mo_raise_17 rfl rfl ?_
      refine mg_getfield fl_Mo_37 d_Mo_raise_18 (by first | assumption | exact mg_up_s _ _ _ | (rw [mg_up_n _ _ (by decide)]; first | assumption | exact mg_up_s _ _ _ | (rw [mg_up_n _ _ (by decide)]; first | assumption | exact mg_up_s _ _ _ | (rw [mg_up_n _ _ (by decide)]; first | assumption | exact mg_up_s _ _ _ | (rw [mg_up_n _ _ (by decide)]; first | assumption | exact mg_up_s _ _ _ | (rw [mg_up_n _ _ (by decide)]; first | assumption | exact mg_up_s _ _ _ | (rw [mg_up_n _ _ (by decide)]; first | assumption | exact mg_up_s _ _ _))))))) rfl ?_
      refine mg_iload_n d_Mo_raise_21 rfl rfl ?_
      refine mg_iaload rfl d_Mo_raise_22 (by first | assumption | exact mg_up_s _ _ _ | (rw [mg_up_n _ _ (by decide)]; first | assumption | exact mg_up_s _ _ _ | (rw [mg_up_n _ _ (by decide)]; first | assumption | exact mg_up_s _ _ _ | (rw [mg_up_n _ _ (by decide)]; first | assumption | exact mg_up_s _ _ _ | (rw [mg_up_n _ _ (by decide)]; first | assumption | exact mg_up_s _ _ _ | (rw [mg_up_n _ _ (by decide)]; first | assumption | exact mg_up_s _ _ _ | (rw [mg_up_n _ _ (by decide)]; first | assumption | exact mg_up_s _ _ _))))))) hin ?_
      refine mg_eqi (y := σ.2.2.2.2 m) (by rw [nI_clamp (by omega)]) ?_
      refine mg_icmp_ne (tgt := 32) d_Mo_raise_23 (by decide) (fun c_23 => ?_) (fun c_23 => ?_)
      · have hlt : σ.1.getD m 0 < σ.2.2.2.2 m := by
          rcases Int32.lt_or_eq_of_le (hle m (by omega)) with q | q
          · exact q
          · exact absurd q c_23
        rw [if_pos hlt] at hr
        subst hr
        have hLl : (σ.1.take m).length = m := by rw [List.length_take]; omega
        refine mg_iload_n d_Mo_raise_32 rfl rfl ?_
        refine mg_if_ge (tgt := 38) d_Mo_raise_33 (by decide) (fun c_33 => ?_) (fun c_33 => ?_)
        · refine mg_iconst (v := 0) d_Mo_raise_38 (by decide) ?_
          refine mg_istore_n d_Mo_raise_39 rfl (Nat.le_of_ble_eq_true rfl) rfl ?_
          refine mg_eql (lv' := [some (.ref 1000), some (.int (nI (σ.1.take m).length)), some (.int (nI 0))]) (by rw [hLl]; rfl) ?_
          refine cp_raise (L := (σ.1.take m)) (sf := rf) a1 (by omega) r1 (fun j hj => ?_) (fun M2 f hM hf hfr => ?_) ((σ.1.take m).length + 1) 0 _ gf (by omega) (by omega) g1 (fun j hj => absurd hj (Nat.not_lt_zero _)) (fun _ _ => rfl)
          · rw [hLl] at hj
            rw [r3 j (by omega), List.getD_eq_getElem?_getD, List.getD_eq_getElem?_getD, List.getElem?_take_of_lt hj]
          refine mg_eql (lv' := [some (.ref 1000), some (.int (nI m)), some (.int (nI m))]) (by rw [hLl]) ?_
          have hO2 := (hfr 1000 (by decide)).trans a1
          have hr2 := (hfr 1009 (by decide)).trans r1
          first | refine mg_aload_n d_Mo_raise_63 rfl rfl ?_ | refine mg_aload_nN d_Mo_raise_63 rfl rfl ?_
          refine mg_getfield fl_Mo_31 d_Mo_raise_64 (by first | assumption | exact mg_up_s _ _ _ | (rw [mg_up_n _ _ (by decide)]; first | assumption | exact mg_up_s _ _ _ | (rw [mg_up_n _ _ (by decide)]; first | assumption | exact mg_up_s _ _ _ | (rw [mg_up_n _ _ (by decide)]; first | assumption | exact mg_up_s _ _ _ | (rw [mg_up_n _ _ (by decide)]; first | assumption | exact mg_up_s _ _ _ | (rw [mg_up_n _ _ (by decide)]; first | assumption | exact mg_up_s _ _ _ | (rw [mg_up_n _ _ (by decide)]; first | assumption | exact mg_up_s _ _ _))))))) rfl ?_
          refine mg_iload_n d_Mo_raise_67 rfl rfl ?_
          first | refine mg_aload_n d_Mo_raise_68 rfl rfl ?_ | refine mg_aload_nN d_Mo_raise_68 rfl rfl ?_
          refine mg_getfield fl_Mo_34 d_Mo_raise_69 (by first | assumption | exact mg_up_s _ _ _ | (rw [mg_up_n _ _ (by decide)]; first | assumption | exact mg_up_s _ _ _ | (rw [mg_up_n _ _ (by decide)]; first | assumption | exact mg_up_s _ _ _ | (rw [mg_up_n _ _ (by decide)]; first | assumption | exact mg_up_s _ _ _ | (rw [mg_up_n _ _ (by decide)]; first | assumption | exact mg_up_s _ _ _ | (rw [mg_up_n _ _ (by decide)]; first | assumption | exact mg_up_s _ _ _ | (rw [mg_up_n _ _ (by decide)]; first | assumption | exact mg_up_s _ _ _))))))) rfl ?_
          refine mg_iload_n d_Mo_raise_72 rfl rfl ?_
          refine mg_iaload rfl d_Mo_raise_73 (by first | assumption | exact mg_up_s _ _ _ | (rw [mg_up_n _ _ (by decide)]; first | assumption | exact mg_up_s _ _ _ | (rw [mg_up_n _ _ (by decide)]; first | assumption | exact mg_up_s _ _ _ | (rw [mg_up_n _ _ (by decide)]; first | assumption | exact mg_up_s _ _ _ | (rw [mg_up_n _ _ (by decide)]; first | assumption | exact mg_up_s _ _ _ | (rw [mg_up_n _ _ (by decide)]; first | assumption | exact mg_up_s _ _ _ | (rw [mg_up_n _ _ (by decide)]; first | assumption | exact mg_up_s _ _ _))))))) hin ?_
          refine mg_eqi (y := σ.1.getD m 0) (by rw [nI_clamp (by omega)]; exact r3 m (by omega)) ?_
          refine mg_iconst (v := 1) d_Mo_raise_74 (by decide) ?_
          refine mg_iadd d_Mo_raise_75 ?_
          refine mg_iastore rfl d_Mo_raise_76 (by first | assumption | exact mg_up_s _ _ _ | (rw [mg_up_n _ _ (by decide)]; first | assumption | exact mg_up_s _ _ _ | (rw [mg_up_n _ _ (by decide)]; first | assumption | exact mg_up_s _ _ _ | (rw [mg_up_n _ _ (by decide)]; first | assumption | exact mg_up_s _ _ _ | (rw [mg_up_n _ _ (by decide)]; first | assumption | exact mg_up_s _ _ _ | (rw [mg_up_n _ _ (by decide)]; first | assumption | exact mg_up_s _ _ _ | (rw [mg_up_n _ _ (by decide)]; first | assumption | exact mg_up_s _ _ _))))))) hin ?_
          refine mg_eqM (M' := mg_up M2 1008 (iaE 60 (upd f (σ.1.take m).length (σ.1.getD m 0 + 1)))) (by rw [nI_clamp (by omega), hLl]) ?_
          first | refine mg_aload_n d_Mo_raise_77 rfl rfl ?_ | refine mg_aload_nN d_Mo_raise_77 rfl rfl ?_
          refine mg_iload_n d_Mo_raise_78 rfl rfl ?_
          refine mg_iconst (v := 1) d_Mo_raise_79 (by decide) ?_
          refine mg_iadd d_Mo_raise_80 ?_
          refine mg_eqi (y := nI ((σ.1.take m) ++ [(σ.1.getD m 0 + 1)]).length) (by rw [nI_1, List.length_append, hLl]; rfl) ?_
          refine mg_putfield (fw_Mo_111 _) d_Mo_raise_81 (by first | assumption | exact mg_up_s _ _ _ | (rw [mg_up_n _ _ (by decide)]; first | assumption | exact mg_up_s _ _ _ | (rw [mg_up_n _ _ (by decide)]; first | assumption | exact mg_up_s _ _ _ | (rw [mg_up_n _ _ (by decide)]; first | assumption | exact mg_up_s _ _ _ | (rw [mg_up_n _ _ (by decide)]; first | assumption | exact mg_up_s _ _ _ | (rw [mg_up_n _ _ (by decide)]; first | assumption | exact mg_up_s _ _ _ | (rw [mg_up_n _ _ (by decide)]; first | assumption | exact mg_up_s _ _ _))))))) (Nat.le_of_ble_eq_true rfl) (fun _ => ⟨rfl, rfl⟩) ?_
          refine mg_eqM (M' := mg_up (mg_up M2 1008 (iaE 60 (upd f (σ.1.take m).length (σ.1.getD m 0 + 1)))) 1000 (moE (upd si 20 (nI ((σ.1.take m) ++ [(σ.1.getD m 0 + 1)]).length)) x s)) rfl ?_
          refine mg_iconst (v := 1) d_Mo_raise_84 (by decide) ?_
          exact mg_ireturn d_Mo_raise_85 rfl rfl (Nat.le_of_ble_eq_true rfl) (Nat.le_of_ble_eq_true rfl) ⟨rfl, mg_up_s _ _ _, isA_push hf (by omega) ((mg_up_n _ _ (by decide)).trans (mg_up_s _ _ _)), fun k h0 h1 => (mg_up_n _ _ h0).trans ((mg_up_n _ _ h1).trans (hfr k h1))⟩
        · exact absurd (nI_pos' (by omega)) c_33
      · have heq : ¬ σ.1.getD m 0 < σ.2.2.2.2 m := by rw [show σ.1.getD m 0 = σ.2.2.2.2 m from (by first | exact c_23 | exact Decidable.not_not.mp c_23)]; exact Int32.lt_irrefl
        rw [if_neg heq] at hr
        refine mg_iinc (v := nI m - 1) d_Mo_raise_26 rfl (by rw [Int32.sub_eq_add_neg]; rfl) (Nat.le_of_ble_eq_true rfl) rfl ?_
        refine mg_goto (tgt := 7) d_Mo_raise_29 (by decide) ?_
        exact ih (by omega) hr

set_option maxHeartbeats 4000000 in
set_option maxRecDepth 100000 in
theorem c_Mo_raise {M : mg_M} {si : Nat → Int32} {x s : Int64} {md : dM} {σ : dS} (h : isRun M si x s md σ) (hle : ∀ j, j < σ.1.length → σ.1.getD j 0 ≤ σ.2.2.2.2 j) : mg_Ct Y_Mo_raise { frames := 0, cells := 0, slots := 0, locals := 0 } [.ref 1000] M (mkQ M si x s (nextF σ.1 σ.2.2.2.2 σ.1.length)) := by
  obtain ⟨a1, a2, a3, a4, a5, a6, a7, a8, ⟨gf, g1, -, -⟩, ⟨rf, r1, r2, r3⟩, a11, a12⟩ := id h
  refine mg_met [some (.ref 1000), none, none] (by decide +kernel) rfl (Nat.le_of_ble_eq_true rfl) ?_
  intro X hR _
  first | refine mg_aload_n d_Mo_raise_0 rfl rfl ?_ | refine mg_aload_nN d_Mo_raise_0 rfl rfl ?_
  refine mg_getfield fl_Mo_108 d_Mo_raise_1 (by first | assumption | exact mg_up_s _ _ _ | (rw [mg_up_n _ _ (by decide)]; first | assumption | exact mg_up_s _ _ _ | (rw [mg_up_n _ _ (by decide)]; first | assumption | exact mg_up_s _ _ _ | (rw [mg_up_n _ _ (by decide)]; first | assumption | exact mg_up_s _ _ _ | (rw [mg_up_n _ _ (by decide)]; first | assumption | exact mg_up_s _ _ _ | (rw [mg_up_n _ _ (by decide)]; first | assumption | exact mg_up_s _ _ _ | (rw [mg_up_n _ _ (by decide)]; first | assumption | exact mg_up_s _ _ _))))))) rfl ?_
  refine mg_iconst (v := 1) d_Mo_raise_4 (by decide) ?_
  refine mg_isub d_Mo_raise_5 ?_
  refine mg_istore_n d_Mo_raise_6 rfl (Nat.le_of_ble_eq_true rfl) rfl ?_
  refine mg_eql (lv' := [some (.ref 1000), some (.int (nI σ.1.length - 1)), none]) (by rw [a3]; rfl) ?_
  exact lp_raise h hle σ.1.length (Nat.le_refl _) rfl

