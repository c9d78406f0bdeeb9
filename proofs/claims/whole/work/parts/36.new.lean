/-! generator, property, and a new object -/
theorem c_PS_makeGenerator {M : mg_M} {np nk : Nat} {lk fg fp : Value} {wa fv : Int32} {le : Bool} {sm0 : Int64} {gs : List gN} {h : Nat} {kd a b : Int32} (hw : wfG gs) (hO : M 1 = some (psF gs.length np lk nk wa fg fp fv le sm0)) (hA : M 2 = some (arE 1 20 (gA 100 gs.length))) (hG : isG M gs) (hk0 : h ≠ 0) (hn : M h = none) : mg_Ct Y_PS_makeGenerator { frames := 4, cells := 1, slots := 3, locals := 77 } [.ref 1, .int kd, .int a, .int b] M (mkP M h (mkG gs kd a b)) := by
  by_cases k0 : kd = 0
  · subst k0; exact c_PS_makeG0 (np := np) (nk := nk) (lk := lk) (fg := fg) (fp := fp) (wa := wa) (fv := fv) (le := le) (sm0 := sm0) hk0 hn
  · rcases offR_or a hw.1 with ha | ⟨ja, ha, rfl⟩
    · exact c_PS_makeGn k0 hO ha
    · exact c_PS_makeGi hw k0 hO hA hG hk0 hn (List.getElem?_eq_getElem ha)
theorem mg_aastG {X : mg_X} {Y : mg_Y} {Q : State → Prop} {M : mg_M} {k j pc a v nn : Nat} {lv : List (Option Value)} {rest : List Value} {g : gN} {f : Nat → Option Nat} {i : Int32} (hd : decode (mg_cc Y) pc = .ok (.aastore, 1)) (hM : M a = some (arE 1 nn f)) (hV : M v = some (genE g)) (hin : vp_in i nn) (kk : mg_G X Y Q (mg_up M a (arE 1 nn (va_up f i.toNatClampNeg (some v)))) k j (pc + 1) lv rest) : mg_G X Y Q M k j pc lv (.ref v :: .int i :: .ref a :: rest) := by
  obtain ⟨kd, ga, gb, dp⟩ := g
  match kd, hV with
  | 0, hV => exact mg_aastore rfl rfl (Or.inr ca_IR) hd hM hV hin kk
  | 1, hV => exact mg_aastore rfl rfl (Or.inr ca_LO) hd hM hV hin kk
  | 2, hV => exact mg_aastore rfl rfl (Or.inr ca_PO) hd hM hV hin kk
  | 3, hV => exact mg_aastore rfl rfl (Or.inr ca_OO) hd hM hV hin kk
  | 4, hV => exact mg_aastore rfl rfl (Or.inr ca_KO) hd hM hV hin kk
  | n + 5, hV => exact mg_aastore rfl rfl (Or.inr ca_AT) hd hM hV hin kk
theorem gA_up {b n : Nat} : va_up (gA b n) n (some (b + n)) = gA b (n + 1) := by
  funext k
  by_cases h : k = n
  · subst h; simp [va_up, gA]
  · by_cases h2 : k < n
    · simp [va_up, gA, h, h2, show k < n + 1 by omega]
    · simp [va_up, gA, h, h2, show ¬ k < n + 1 by omega]
def genS (gs : List gN) (kd a b : Int32) : Int32 × List gN := if 20 ≤ gs.length then (-1, gs) else match mkG gs kd a b with
  | none => (-1, gs)
  | some g => if 8 < g.2.2.2 then (-1, gs) else (nI gs.length, gs ++ [g])
theorem isG.push {M : mg_M} {gs : List gN} {g : gN} (h : isG M gs) (hg : M (100 + gs.length) = some (genE g)) : isG M (gs ++ [g]) := fun i x hx => by
  rcases Nat.lt_or_ge i gs.length with q | q
  · rw [List.getElem?_append_left q] at hx; exact h i x hx
  · rw [List.getElem?_append_right q] at hx
    have hz : i - gs.length < 1 := (List.getElem?_eq_some_iff.mp hx).1
    have e : i = gs.length := by omega
    subst e
    rw [Nat.sub_self] at hx
    cases hx
    exact hg
theorem isR.push {M : mg_M} {ps : List pN} {g : pN} (h : isR M ps) (hg : M (150 + ps.length) = some (prE g)) : isR M (ps ++ [g]) := fun i x hx => by
  rcases Nat.lt_or_ge i ps.length with q | q
  · rw [List.getElem?_append_left q] at hx; exact h i x hx
  · rw [List.getElem?_append_right q] at hx
    have hz : i - ps.length < 1 := (List.getElem?_eq_some_iff.mp hx).1
    have e : i = ps.length := by omega
    subst e
    rw [Nat.sub_self] at hx
    cases hx
    exact hg
/-- a cell far out: the state is the same -/
theorem isPS.junk {M : mg_M} {gs : List gN} {ps : List pN} {ks : List kN} {wa : Nat} {fo : fO} {le : Bool} {row nu pu : List Int32} {s : Int64} {T : Nat} {e : va_E} (h : isPS M gs ps ks wa fo le row nu pu s) (hT : 10000 ≤ T) (hJ : ∀ k, T ≤ k → M k = none) (hg : gs.length ≤ 20) (hp : ps.length ≤ 10) (hk : ks.length ≤ 200) : isPS (mg_up M T e) gs ps ks wa fo le row nu pu s := by
  have hs : sm T (T + 1) M (mg_up M T e) := sm.rf.up (by omega) (by omega)
  obtain ⟨a1, a2, a3, aG, aR, aK, a4, a6, a8, ⟨st, a10⟩, ⟨md, σ, a12⟩, aF, -⟩ := h
  refine ⟨by rw [hs 1 (by omega)]; exact a1, by rw [hs 2 (by omega)]; exact a2, by rw [hs 3 (by omega)]; exact a3, aG.fr hs (by omega), fun i p hp2 => ?_, fun i k hk2 => ?_, a4.sm hs (by omega), a6.sm hs (by omega), a8.sm hs (by omega), ⟨st, a10.sm hs (by omega)⟩, ⟨md, σ, a12.fr hs (by omega)⟩, ⟨fun k h1 h2 => by rw [hs k (by omega)]; exact aF.1 k h1 h2, fun k h1 h2 => by rw [hs k (by omega)]; exact aF.2.1 k h1 h2, fun k h1 h2 => by rw [hs k (by omega)]; exact aF.2.2 k h1 h2⟩, T + 1, by omega, fun k hk3 => by rw [hs k (by omega)]; exact hJ k (by omega)⟩
  · have := (List.getElem?_eq_some_iff.mp hp2).1
    rw [hs _ (by omega)]; exact aR i p hp2
  · have := (List.getElem?_eq_some_iff.mp hk2).1
    obtain ⟨b1, b2⟩ := aK i k hk2
    exact ⟨by rw [hs _ (by omega)]; exact b1, b2.sm hs (by omega)⟩
theorem isI.eq {M M' : mg_M} {h : Nat} {xs : List Int32} (hI : isI M h xs) (h1 : M' h = M h) (h2 : M' (h + 1) = M (h + 1)) : isI M' h xs := by
  obtain ⟨f, a1, a2, a3, a4⟩ := hI
  exact ⟨f, by rw [h1]; exact a1, by rw [h2]; exact a2, a3, a4⟩
theorem isD.eq {M M' : mg_M} {d : Nat} {md : dM} {σ : dS} (h : isD M d md σ) (hs : ∀ k, d ≤ k → k < d + 8 → M' k = M k) : isD M' d md σ :=
  ⟨by rw [hs d (by omega) (by omega)]; exact h.1, h.2.1.eq (hs _ (by omega) (by omega)) (hs _ (by omega) (by omega)), h.2.2.1.eq (hs _ (by omega) (by omega)) (hs _ (by omega) (by omega)), by rw [hs (d + 5) (by omega) (by omega)]; exact h.2.2.2.1, h.2.2.2.2.eq (hs _ (by omega) (by omega)) (hs _ (by omega) (by omega))⟩
theorem isK.eq {M M' : mg_M} {ks : List kN} (h : isK M ks) (hs : ∀ k, 200 ≤ k → k < 200 + 3 * ks.length → M' k = M k) : isK M' ks := fun i k hk => by
  have hl := (List.getElem?_eq_some_iff.mp hk).1
  obtain ⟨b1, b2⟩ := h i k hk
  exact ⟨by rw [hs _ (by omega) (by omega)]; exact b1, b2.eq (hs _ (by omega) (by omega)) (hs _ (by omega) (by omega))⟩
theorem isR.eq {M M' : mg_M} {ps : List pN} (h : isR M ps) (hs : ∀ k, 150 ≤ k → k < 150 + ps.length → M' k = M k) : isR M' ps := fun i k hk => by
  have hl := (List.getElem?_eq_some_iff.mp hk).1
  rw [hs _ (by omega) (by omega)]; exact h i k hk
theorem isG.eq {M M' : mg_M} {gs : List gN} (h : isG M gs) (hs : ∀ k, 100 ≤ k → k < 100 + gs.length → M' k = M k) : isG M' gs := fun i k hk => by
  have hl := (List.getElem?_eq_some_iff.mp hk).1
  rw [hs _ (by omega) (by omega)]; exact h i k hk
theorem isPS.addG {M M' : mg_M} {gs : List gN} {ps : List pN} {ks : List kN} {wa : Nat} {fo : fO} {le : Bool} {row nu pu : List Int32} {s : Int64} {g : gN} (h : isPS M gs ps ks wa fo le row nu pu s) (hn : gs.length < 20) (hp : ps.length ≤ 10) (hk : ks.length ≤ 200) (b1 : M' 1 = some (psF (gs.length + 1) ps.length (kpV ks.length) ks.length (nI wa) (foG fo) (foP fo) (foV fo) le s)) (b2 : M' 2 = some (arE 1 20 (gA 100 (gs.length + 1)))) (bg : M' (100 + gs.length) = some (genE g)) (hs : ∀ k, k ≠ 1 → k ≠ 2 → k ≠ 100 + gs.length → M' k = M k) : isPS M' (gs ++ [g]) ps ks wa fo le row nu pu s := by
  obtain ⟨a1, a2, a3, aG, aR, aK, a4, a6, a8, ⟨st, a10⟩, ⟨md, σ, a12⟩, aF, T, aT, aJ⟩ := h
  have eqs : ∀ k, (2 < k ∧ k < 100 + gs.length) ∨ 100 + gs.length < k → M' k = M k := fun k hk => hs k (by omega) (by omega) (by omega)
  have el : (gs ++ [g]).length = gs.length + 1 := by rw [List.length_append]; rfl
  refine ⟨by rw [el]; exact b1, by rw [el]; exact b2, by rw [eqs 3 (by omega)]; exact a3, isG.push (aG.eq (fun k h1 h2 => eqs k (by omega))) bg, aR.eq (fun k h1 h2 => eqs k (by omega)), aK.eq (fun k h1 h2 => eqs k (by omega)), a4.eq (eqs _ (by omega)) (eqs _ (by omega)), a6.eq (eqs _ (by omega)) (eqs _ (by omega)), a8.eq (eqs _ (by omega)) (eqs _ (by omega)), ⟨st, a10.eq (eqs _ (by omega)) (eqs _ (by omega))⟩, ⟨md, σ, a12.eq (fun k h1 h2 => eqs k (by omega))⟩, ⟨fun k h1 h2 => ?_, fun k h1 h2 => ?_, fun k h1 h2 => ?_⟩, T, aT, fun k h1 => ?_⟩
  · rw [el] at h1; rw [eqs k (by omega)]; exact aF.1 k (by omega) h2
  · rw [eqs k (by omega)]; exact aF.2.1 k h1 h2
  · rw [eqs k (by omega)]; exact aF.2.2 k h1 h2
  · rw [eqs k (by omega)]; exact aJ k h1
theorem isPS.addP {M M' : mg_M} {gs : List gN} {ps : List pN} {ks : List kN} {wa : Nat} {fo : fO} {le : Bool} {row nu pu : List Int32} {s : Int64} {g : pN} (h : isPS M gs ps ks wa fo le row nu pu s) (hn : gs.length ≤ 20) (hp : ps.length < 10) (hk : ks.length ≤ 200) (b1 : M' 1 = some (psF gs.length (ps.length + 1) (kpV ks.length) ks.length (nI wa) (foG fo) (foP fo) (foV fo) le s)) (b2 : M' 3 = some (arE 2 10 (gA 150 (ps.length + 1)))) (bg : M' (150 + ps.length) = some (prE g)) (hs : ∀ k, k ≠ 1 → k ≠ 3 → k ≠ 150 + ps.length → M' k = M k) : isPS M' gs (ps ++ [g]) ks wa fo le row nu pu s := by
  obtain ⟨a1, a2, a3, aG, aR, aK, a4, a6, a8, ⟨st, a10⟩, ⟨md, σ, a12⟩, aF, T, aT, aJ⟩ := h
  have eqs : ∀ k, k = 2 ∨ (3 < k ∧ k < 150 + ps.length) ∨ 150 + ps.length < k → M' k = M k := fun k hk => hs k (by omega) (by omega) (by omega)
  have el : (ps ++ [g]).length = ps.length + 1 := by rw [List.length_append]; rfl
  refine ⟨by rw [el]; exact b1, by rw [eqs 2 (by omega)]; exact a2, by rw [el]; exact b2, aG.eq (fun k h1 h2 => eqs k (by omega)), isR.push (aR.eq (fun k h1 h2 => eqs k (by omega))) bg, aK.eq (fun k h1 h2 => eqs k (by omega)), a4.eq (eqs _ (by omega)) (eqs _ (by omega)), a6.eq (eqs _ (by omega)) (eqs _ (by omega)), a8.eq (eqs _ (by omega)) (eqs _ (by omega)), ⟨st, a10.eq (eqs _ (by omega)) (eqs _ (by omega))⟩, ⟨md, σ, a12.eq (fun k h1 h2 => eqs k (by omega))⟩, ⟨fun k h1 h2 => ?_, fun k h1 h2 => ?_, fun k h1 h2 => ?_⟩, T, aT, fun k h1 => ?_⟩
  · rw [eqs k (by omega)]; exact aF.1 k h1 h2
  · rw [el] at h1; rw [eqs k (by omega)]; exact aF.2.1 k (by omega) h2
  · rw [eqs k (by omega)]; exact aF.2.2 k h1 h2
  · rw [eqs k (by omega)]; exact aJ k h1
theorem bip8 {n : Nat} (h : n < 2 ^ 31) : nI n ≤ 8 ↔ n ≤ 8 := nI_leI (b := 8) h (by decide)

theorem wf_le {gs : List gN} (hw : wfG gs) {i : Nat} {g : gN} (hg : gs[i]? = some g) : g.2.2.2 ≤ 8 := by
  obtain ⟨k, a, b, dp⟩ := g
  exact (hw.2 i k a b dp hg).2.2.1
theorem mk_dp {gs : List gN} (hw : wfG gs) {kd a b : Int32} {g : gN} (h : mkG gs kd a b = some g) : g.2.2.2 < 2 ^ 31 := by
  unfold mkG at h
  split at h
  · split at h
    · cases h; show 1 < 2 ^ 31; decide
    · cases h
  · split at h
    · cases h
    · split at h
      · cases h
      · rename_i ga hga
        have l1 := wf_le hw hga
        split at h
        · split at h
          · cases h; show ga.2.2.2 + 1 < _; omega
          · cases h
        · split at h
          · split at h
            · cases h; show ga.2.2.2 + 1 < _; omega
            · cases h
          · split at h
            · split at h
              · cases h; show ga.2.2.2 + 1 < _; omega
              · cases h
            · split at h
              · cases h
              · split at h
                · cases h
                · rename_i gb hgb
                  have l2 := wf_le hw hgb
                  split at h
                  · cases h; show max ga.2.2.2 gb.2.2.2 + 1 < _; omega
                  · split at h
                    · cases h; show max ga.2.2.2 gb.2.2.2 + 1 < _; omega
                    · cases h
set_option maxHeartbeats 4000000 in
set_option maxRecDepth 100000 in
theorem c_PS_generator {M : mg_M} {gs : List gN} {ps : List pN} {ks : List kN} {wa : Nat} {fo : fO} {le : Bool} {row nu pu : List Int32} {s : Int64} {kd a b : Int32} (h : isPS M gs ps ks wa fo le row nu pu s) (hw : wfG gs) (hpl : ps.length ≤ 10) (hkl : ks.length ≤ 200) : mg_Ct Y_PS_generator { frames := 5, cells := 1, slots := 3, locals := 101 } [.ref 1, .int kd, .int a, .int b] M (fun v M' => v = some (.int (genS gs kd a b).1) ∧ isPS M' (genS gs kd a b).2 ps ks wa fo le row nu pu s ∧ smC M M') := by
  obtain ⟨hO, hA, hB, hG, hRr, hK, h4, h6, h8, ⟨st, h10⟩, ⟨md, σ, hD⟩, hF, T, hT, hJ⟩ := id h
  refine mg_met [some (.ref 1), some (.int kd), some (.int a), some (.int b), none] (by decide +kernel) rfl (Nat.le_of_ble_eq_true rfl) ?_
  intro X hR _
  have h20 := hw.1
  refine mg_aload_n d_PS_generator_0 rfl rfl ?_
  refine mg_getfield fl_PS_44 d_PS_generator_1 hO rfl ?_
  refine mg_bipush (v := 20) d_PS_generator_4 (by decide) ?_
  refine mg_icmp_lt (tgt := 11) d_PS_generator_6 (by decide) (fun c_6 => ?_) (fun c_6 => ?_)
  · have hlt : gs.length < 20 := by
      rcases Nat.lt_or_ge gs.length 20 with q | q
      · exact q
      · exact absurd c_6 (nI_nlt (b := 20) q (by omega))
    unfold genS
    rw [if_neg (by omega : ¬ 20 ≤ gs.length)]
    refine mg_aload_n d_PS_generator_11 rfl rfl ?_
    refine mg_iload_n d_PS_generator_12 rfl rfl ?_
    refine mg_iload_n d_PS_generator_13 rfl rfl ?_
    refine mg_iload_n d_PS_generator_14 rfl rfl ?_
    cases hm : mkG gs kd a b with
    | none =>
      refine mg_callV (vl_PS_48 rfl) d_PS_generator_15 hO rfl rfl (c_PS_makeGenerator (h := T) hw hO hA hG (by omega) (hJ T (Nat.le_refl _))) rfl rfl (by rw [hR]; decide) (by rw [hR]; exact ⟨Nat.le_of_ble_eq_true rfl, Nat.le_of_ble_eq_true rfl⟩) (Nat.le_of_ble_eq_true rfl) ?_
      rw [hm]
      rintro v M2 ⟨rfl, rfl⟩
      refine mg_astoreN d_PS_generator_18 (Nat.le_of_ble_eq_true rfl) rfl ?_
      refine mg_aloadN d_PS_generator_20 rfl ?_
      refine mg_ifnullN (tgt := 35) d_PS_generator_22 (by decide) ?_
      refine mg_iconst (v := -1) d_PS_generator_35 (by decide) ?_
      exact mg_ireturn d_PS_generator_36 rfl rfl (Nat.le_of_ble_eq_true rfl) (Nat.le_of_ble_eq_true rfl) ⟨rfl, h, smC.rf⟩
    | some g =>
      by_cases hd8 : 8 < g.2.2.2
      · refine mg_callV (vl_PS_48 rfl) d_PS_generator_15 hO rfl rfl (c_PS_makeGenerator (h := T) hw hO hA hG (by omega) (hJ T (Nat.le_refl _))) rfl rfl (by rw [hR]; decide) (by rw [hR]; exact ⟨Nat.le_of_ble_eq_true rfl, Nat.le_of_ble_eq_true rfl⟩) (Nat.le_of_ble_eq_true rfl) ?_
        rw [hm]
        rintro v M2 ⟨rfl, rfl⟩
        refine mg_astore d_PS_generator_18 (Nat.le_of_ble_eq_true rfl) rfl ?_
        refine mg_aload d_PS_generator_20 rfl ?_
        refine mg_ifnull d_PS_generator_22 ?_
        refine mg_aload d_PS_generator_25 rfl ?_
        refine mg_getDeep dl_PS d_PS_generator_27 (mg_up_s _ _ _) ?_
        refine mg_bipush (v := 8) d_PS_generator_30 (by decide) ?_
        refine mg_icmp_le (tgt := 37) d_PS_generator_32 (by decide) (fun c_32 => absurd ((bip8 (mk_dp hw hm)).mp c_32) (by omega)) (fun _ => ?_)
        refine mg_iconst (v := -1) d_PS_generator_35 (by decide) ?_
        exact mg_ireturn d_PS_generator_36 rfl rfl (Nat.le_of_ble_eq_true rfl) (Nat.le_of_ble_eq_true rfl) ⟨by dsimp only; rw [if_pos hd8], by dsimp only; rw [if_pos hd8]; exact h.junk hT hJ h20 hpl hkl, fun k hk => mg_up_n _ _ (by omega)⟩
      · refine mg_callV (vl_PS_48 rfl) d_PS_generator_15 hO rfl rfl (c_PS_makeGenerator (h := 100 + gs.length) hw hO hA hG (by omega) (hF.1 _ (Nat.le_refl _) (by omega))) rfl rfl (by rw [hR]; decide) (by rw [hR]; exact ⟨Nat.le_of_ble_eq_true rfl, Nat.le_of_ble_eq_true rfl⟩) (Nat.le_of_ble_eq_true rfl) ?_
        rw [hm]
        rintro v M2 ⟨rfl, rfl⟩
        have hin : vp_in (nI gs.length) 20 := vp_in_nI hlt (by decide)
        refine mg_astore d_PS_generator_18 (Nat.le_of_ble_eq_true rfl) rfl ?_
        refine mg_aload d_PS_generator_20 rfl ?_
        refine mg_ifnull d_PS_generator_22 ?_
        refine mg_aload d_PS_generator_25 rfl ?_
        refine mg_getDeep dl_PS d_PS_generator_27 (mg_up_s _ _ _) ?_
        refine mg_bipush (v := 8) d_PS_generator_30 (by decide) ?_
        refine mg_icmp_le (tgt := 37) d_PS_generator_32 (by decide) (fun _ => ?_) (fun c_32 => absurd ((bip8 (mk_dp hw hm)).mpr (by omega)) c_32)
        refine mg_aload_n d_PS_generator_37 rfl rfl ?_
        refine mg_getfield fl_PS_11 d_PS_generator_38 (by rw [mg_up_n _ _ (by omega)]; exact hO) rfl ?_
        refine mg_aload_n d_PS_generator_41 rfl rfl ?_
        refine mg_getfield fl_PS_44 d_PS_generator_42 (by rw [mg_up_n _ _ (by omega)]; exact hO) rfl ?_
        refine mg_aload d_PS_generator_45 rfl ?_
        refine mg_aastG d_PS_generator_47 (by rw [mg_up_n _ _ (by omega)]; exact hA) (mg_up_s _ _ _) hin ?_
        rw [nI_clamp (by omega : gs.length < 2 ^ 31), gA_up]
        refine mg_aload_n d_PS_generator_48 rfl rfl ?_
        refine mg_dup d_PS_generator_49 rfl ?_
        refine mg_getfield fl_PS_44 d_PS_generator_50 (by rw [mg_up_n _ _ (by omega), mg_up_n _ _ (by omega)]; exact hO) rfl ?_
        refine mg_iconst (v := 1) d_PS_generator_53 (by decide) ?_
        refine mg_iadd d_PS_generator_54 ?_
        refine mg_eqi (nI_1 gs.length) ?_
        refine mg_putfield (fw_PS_44 _) d_PS_generator_55 (by rw [mg_up_n _ _ (by omega), mg_up_n _ _ (by omega)]; exact hO) (Nat.le_of_ble_eq_true rfl) (fun _ => ⟨rfl, rfl⟩) ?_
        refine mg_eqM (M' := mg_up (mg_up (mg_up M (100 + gs.length) (genE g)) 2 (arE 1 20 (gA 100 (gs.length + 1)))) 1 (psF (gs.length + 1) ps.length (kpV ks.length) ks.length (nI wa) (foG fo) (foP fo) (foV fo) le s)) rfl ?_
        refine mg_aload_n d_PS_generator_58 rfl rfl ?_
        refine mg_getfield fl_PS_44 d_PS_generator_59 (mg_up_s _ _ _) rfl ?_
        refine mg_iconst (v := 1) d_PS_generator_62 (by decide) ?_
        refine mg_isub d_PS_generator_63 ?_
        refine mg_eqi (nI_pred gs.length) ?_
        refine mg_ireturn d_PS_generator_64 rfl rfl (Nat.le_of_ble_eq_true rfl) (Nat.le_of_ble_eq_true rfl) ⟨by dsimp only; rw [if_neg hd8], ?_, fun k hk => by rw [mg_up_n _ _ (by omega), mg_up_n _ _ (by omega), mg_up_n _ _ (by omega)]⟩
        dsimp only
        rw [if_neg hd8]
        exact h.addG hlt hpl hkl (mg_up_s _ _ _) (by rw [mg_up_n _ _ (by omega), mg_up_s]) (by rw [mg_up_n _ _ (by omega), mg_up_n _ _ (by omega), mg_up_s]) (fun k h1 h2 h3 => by rw [mg_up_n _ _ h1, mg_up_n _ _ h2, mg_up_n _ _ h3])
  · have hge : 20 ≤ gs.length := by
      rcases Nat.lt_or_ge gs.length 20 with q | q
      · exact absurd (nI_lt (b := 20) q (by decide)) c_6
      · exact q
    unfold genS
    rw [if_pos hge]
    refine mg_iconst (v := -1) d_PS_generator_9 (by decide) ?_
    exact mg_ireturn d_PS_generator_10 rfl rfl (Nat.le_of_ble_eq_true rfl) (Nat.le_of_ble_eq_true rfl) ⟨rfl, h, smC.rf⟩

def prS (ps : List pN) (kd k c : Int32) : Int32 × List pN := if 10 ≤ ps.length ∨ kd < 0 ∨ 4 < kd ∨ c < 0 ∨ 10 < c then (-1, ps) else (nI ps.length, ps ++ [(kd, k, c)])
set_option maxHeartbeats 4000000 in
set_option maxRecDepth 100000 in
theorem c_PS_property {M : mg_M} {gs : List gN} {ps : List pN} {ks : List kN} {wa : Nat} {fo : fO} {le : Bool} {row nu pu : List Int32} {s : Int64} {kd k c : Int32} (h : isPS M gs ps ks wa fo le row nu pu s) (hgl : gs.length ≤ 20) (hpl : ps.length ≤ 10) (hkl : ks.length ≤ 200) : mg_Ct Y_PS_property { frames := 2, cells := 1, slots := 3, locals := 35 } [.ref 1, .int kd, .int k, .int c] M (fun v M' => v = some (.int (prS ps kd k c).1) ∧ isPS M' gs (prS ps kd k c).2 ks wa fo le row nu pu s ∧ smC M M') := by
  obtain ⟨hO, hA, hB, hG, hRr, hK, h4, h6, h8, ⟨st, h10⟩, ⟨md, σ, hD⟩, hF, T, hT, hJ⟩ := id h
  refine mg_met [some (.ref 1), some (.int kd), some (.int k), some (.int c)] (by decide +kernel) rfl (Nat.le_of_ble_eq_true rfl) ?_
  intro X hR _
  first | refine mg_aload_n d_PS_property_0 rfl rfl ?_ | refine mg_aload_nN d_PS_property_0 rfl rfl ?_
  refine mg_getfield fl_PS_55 d_PS_property_1 hO rfl ?_
  refine mg_bipush (v := 10) d_PS_property_4 (by decide) ?_
  refine mg_icmp_ge (tgt := 18) d_PS_property_6 (by decide) (fun c_6 => ?_) (fun c_6 => ?_)
  · have hge : 10 ≤ ps.length := by
      rcases Nat.lt_or_ge ps.length 10 with q | q
      · exact absurd c_6 (nI_ge q (by decide))
      · exact q
    refine mg_iconst (v := -1) d_PS_property_18 (by decide) ?_
    exact mg_ireturn d_PS_property_19 rfl rfl (Nat.le_of_ble_eq_true rfl) (Nat.le_of_ble_eq_true rfl) ⟨by rw [prS, if_pos (Or.inl hge)], by rw [prS, if_pos (Or.inl hge)]; exact h, smC.rf⟩
  · have hlt : ps.length < 10 := by
      rcases Nat.lt_or_ge ps.length 10 with q | q
      · exact q
      · exact absurd (nI_le (a := 10) q (by omega)) c_6
    refine mg_iload_n d_PS_property_9 rfl rfl ?_
    refine mg_if_lt (tgt := 18) d_PS_property_10 (by decide) (fun c_10 => ?_) (fun c_10 => ?_)
    · refine mg_iconst (v := -1) d_PS_property_18 (by decide) ?_
      exact mg_ireturn d_PS_property_19 rfl rfl (Nat.le_of_ble_eq_true rfl) (Nat.le_of_ble_eq_true rfl) ⟨by rw [prS, if_pos (Or.inr (Or.inl c_10))], by rw [prS, if_pos (Or.inr (Or.inl c_10))]; exact h, smC.rf⟩
    · refine mg_iload_n d_PS_property_13 rfl rfl ?_
      refine mg_iconst (v := 4) d_PS_property_14 (by decide) ?_
      refine mg_icmp_le (tgt := 20) d_PS_property_15 (by decide) (fun c_15 => ?_) (fun c_15 => ?_)
      · refine mg_iload_n d_PS_property_20 rfl rfl ?_
        refine mg_if_lt (tgt := 30) d_PS_property_21 (by decide) (fun c_21 => ?_) (fun c_21 => ?_)
        · refine mg_iconst (v := -1) d_PS_property_30 (by decide) ?_
          exact mg_ireturn d_PS_property_31 rfl rfl (Nat.le_of_ble_eq_true rfl) (Nat.le_of_ble_eq_true rfl) ⟨by rw [prS, if_pos (Or.inr (Or.inr (Or.inr (Or.inl c_21))))], by rw [prS, if_pos (Or.inr (Or.inr (Or.inr (Or.inl c_21))))]; exact h, smC.rf⟩
        · refine mg_iload_n d_PS_property_24 rfl rfl ?_
          refine mg_bipush (v := 10) d_PS_property_25 (by decide) ?_
          refine mg_icmp_le (tgt := 32) d_PS_property_27 (by decide) (fun c_27 => ?_) (fun c_27 => ?_)
          · have hok : ¬ (10 ≤ ps.length ∨ kd < 0 ∨ 4 < kd ∨ c < 0 ∨ 10 < c) := fun hh => hh.elim (fun q => absurd q (by omega)) (fun hh => hh.elim c_10 (fun hh => hh.elim (fun q => Int32.not_lt.mpr c_15 q) (fun hh => hh.elim c_21 (fun q => Int32.not_lt.mpr c_27 q))))
            have hin : vp_in (nI ps.length) 10 := vp_in_nI hlt (by decide)
            first | refine mg_aload_n d_PS_property_32 rfl rfl ?_ | refine mg_aload_nN d_PS_property_32 rfl rfl ?_
            refine mg_getfield fl_PS_17 d_PS_property_33 hO rfl ?_
            first | refine mg_aload_n d_PS_property_36 rfl rfl ?_ | refine mg_aload_nN d_PS_property_36 rfl rfl ?_
            refine mg_getfield fl_PS_55 d_PS_property_37 hO rfl ?_
            refine mg_new (h := 150 + ps.length) nl_PS_15 d_PS_property_40 (by omega) (hF.2.1 _ (Nat.le_refl _) (by omega)) (mg_nr_cl rfl) (by rw [hR]; exact Nat.le_of_ble_eq_true rfl) (by rw [hR]; exact Nat.le_of_ble_eq_true rfl) ?_
            refine mg_dup d_PS_property_43 rfl ?_
            refine mg_iload_n d_PS_property_44 rfl rfl ?_
            refine mg_iload_n d_PS_property_45 rfl rfl ?_
            refine mg_iload_n d_PS_property_46 rfl rfl ?_
            refine mg_callI (il_PS_58 rfl) d_PS_property_47 (c_Pr_init (mg_up_s _ _ _)) rfl rfl (by rw [hR]; decide) (by rw [hR]; exact ⟨Nat.le_of_ble_eq_true rfl, Nat.le_of_ble_eq_true rfl⟩) (Nat.le_of_ble_eq_true rfl) ?_
            rintro v M1 ⟨rfl, rfl⟩
            rw [mg_up_up]
            refine mg_aastore rfl rfl (Or.inl rfl) d_PS_property_50 (by rw [mg_up_n _ _ (by omega)]; exact hB) (mg_up_s _ _ _) hin ?_
            rw [nI_clamp (by omega : ps.length < 2 ^ 31), gA_up]
            first | refine mg_aload_n d_PS_property_51 rfl rfl ?_ | refine mg_aload_nN d_PS_property_51 rfl rfl ?_
            refine mg_dup d_PS_property_52 rfl ?_
            refine mg_getfield fl_PS_55 d_PS_property_53 (by rw [mg_up_n _ _ (by omega), mg_up_n _ _ (by omega)]; exact hO) rfl ?_
            refine mg_iconst (v := 1) d_PS_property_56 (by decide) ?_
            refine mg_iadd d_PS_property_57 ?_
            refine mg_eqi (nI_1 ps.length) ?_
            refine mg_putfield (fw_PS_55 _) d_PS_property_58 (by rw [mg_up_n _ _ (by omega), mg_up_n _ _ (by omega)]; exact hO) (Nat.le_of_ble_eq_true rfl) (fun _ => ⟨rfl, rfl⟩) ?_
            refine mg_eqM (M' := mg_up (mg_up (mg_up M (150 + ps.length) (prE (kd, k, c))) 3 (arE 2 10 (gA 150 (ps.length + 1)))) 1 (psF gs.length (ps.length + 1) (kpV ks.length) ks.length (nI wa) (foG fo) (foP fo) (foV fo) le s)) rfl ?_
            first | refine mg_aload_n d_PS_property_61 rfl rfl ?_ | refine mg_aload_nN d_PS_property_61 rfl rfl ?_
            refine mg_getfield fl_PS_55 d_PS_property_62 (mg_up_s _ _ _) rfl ?_
            refine mg_iconst (v := 1) d_PS_property_65 (by decide) ?_
            refine mg_isub d_PS_property_66 ?_
            refine mg_eqi (nI_pred ps.length) ?_
            refine mg_ireturn d_PS_property_67 rfl rfl (Nat.le_of_ble_eq_true rfl) (Nat.le_of_ble_eq_true rfl) ⟨by rw [prS, if_neg hok], ?_, fun k hk => by rw [mg_up_n _ _ (by omega), mg_up_n _ _ (by omega), mg_up_n _ _ (by omega)]⟩
            rw [prS, if_neg hok]
            exact h.addP hgl hlt hkl (mg_up_s _ _ _) (by rw [mg_up_n _ _ (by omega), mg_up_s]) (by rw [mg_up_n _ _ (by omega), mg_up_n _ _ (by omega), mg_up_s]) (fun k h1 h2 h3 => by rw [mg_up_n _ _ h1, mg_up_n _ _ h2, mg_up_n _ _ h3])
          · refine mg_iconst (v := -1) d_PS_property_30 (by decide) ?_
            exact mg_ireturn d_PS_property_31 rfl rfl (Nat.le_of_ble_eq_true rfl) (Nat.le_of_ble_eq_true rfl) ⟨by rw [prS, if_pos (Or.inr (Or.inr (Or.inr (Or.inr (Int32.not_le.mp c_27)))))], by rw [prS, if_pos (Or.inr (Or.inr (Or.inr (Or.inr (Int32.not_le.mp c_27)))))]; exact h, smC.rf⟩
      · refine mg_iconst (v := -1) d_PS_property_18 (by decide) ?_
        exact mg_ireturn d_PS_property_19 rfl rfl (Nat.le_of_ble_eq_true rfl) (Nat.le_of_ble_eq_true rfl) ⟨by rw [prS, if_pos (Or.inr (Or.inr (Or.inl (Int32.not_le.mp c_15))))], by rw [prS, if_pos (Or.inr (Or.inr (Or.inl (Int32.not_le.mp c_15))))]; exact h, smC.rf⟩

