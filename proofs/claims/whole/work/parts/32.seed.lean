/-! TRIES by a seed -/
abbrev sdR : Type := Option Int32 × Int32 × Nat × dM × dS
def tryR (gs : List gN) (gv : List Int32) (z i : Nat) (x : Int64) (lm : Nat → Int32) : dS := giveF gs (1, gv, nI z) 8 i ([], [], false, x, lm)
/-- tries from size z on: passed, wasted so far; at most n more -/
def seedF (gs : List gN) (p : pN) (i runs : Nat) : Nat → Nat → Nat → Nat → dM → dS → sdR
  | 0, _, _, wa, md, σ => (none, nI runs, wa, md, σ)
  | n + 1, z, pa, wa, md, σ => if runs ≤ pa then (none, nI runs, wa, md, σ) else
    if isBd (vdS p (tryR gs md.2.1 z i σ.2.2.2.1 σ.2.2.2.2)) = true then (some (vdS p (tryR gs md.2.1 z i σ.2.2.2.1 σ.2.2.2.2)), -1, wa, (1, md.2.1, nI z), tryR gs md.2.1 z i σ.2.2.2.1 σ.2.2.2.2)
    else if runs < (if vdS p (tryR gs md.2.1 z i σ.2.2.2.1 σ.2.2.2.2) = 0 then wa else wa + 1) then (none, -2, (if vdS p (tryR gs md.2.1 z i σ.2.2.2.1 σ.2.2.2.2) = 0 then wa else wa + 1), (1, md.2.1, nI z), tryR gs md.2.1 z i σ.2.2.2.1 σ.2.2.2.2)
    else seedF gs p i runs n (z + 1) (if vdS p (tryR gs md.2.1 z i σ.2.2.2.1 σ.2.2.2.2) = 0 then pa + 1 else pa) (if vdS p (tryR gs md.2.1 z i σ.2.2.2.1 σ.2.2.2.2) = 0 then wa else wa + 1) (1, md.2.1, nI z) (tryR gs md.2.1 z i σ.2.2.2.1 σ.2.2.2.2)
def sdP (M : mg_M) (o1 : Nat → va_E) (o2 : Nat → Int32 → va_E) (r : sdR) : Option Value → mg_M → Prop := fun v M' => match r with
  | (none, c, wa, md, σ) => v = some (.int c) ∧ M' 1 = some (o1 wa) ∧ isD M' 12 md σ ∧ ∀ k, k ≠ 1 → (k < 12 ∨ 20 ≤ k) → M' k = M k
  | (some w, c, wa, md, σ) => v = some (.int c) ∧ M' 1 = some (o2 wa w) ∧ isI M' 4 σ.1 ∧ isI M' 6 σ.2.1 ∧ isD M' 12 md σ ∧ ∀ k, k ≠ 1 → (k < 4 ∨ 8 ≤ k) → (k < 12 ∨ 20 ≤ k) → M' k = M k

set_option maxHeartbeats 4000000 in
set_option maxRecDepth 100000 in
theorem lp_seed {X : mg_X} {M0 : mg_M} {ng np nk : Nat} {lk fg fp : Value} {fv : Int32} {le : Bool} {sm0 : Int64} {gs : List gN} {i j : Nat} {g : gN} {p : pN} {runs : Nat} {sd : Int64} {r : sdR} {rw0 nu : List Int32} (hR : mg_R X = { frames := 11, cells := 0, slots := 0, locals := 259 }) (hw : wfG gs) (hg : gs[i]? = some g) (hrn : runs ≤ 60) : ∀ (n z pa wa : Nat) (M : mg_M) (md : dM) (σ : dS) (t : Option Value), z + n = 121 → pa ≤ 200 → wa ≤ 200 + z → M 1 = some (psF ng np lk nk (nI wa) fg fp fv le sm0) → isG M gs → isD M 12 md σ → M (150 + j) = some (prE p) → isI M 4 rw0 → isI M 6 nu → (∀ k, k ≠ 1 → (k < 12 ∨ 20 ≤ k) → M k = M0 k) → seedF gs p i runs n z pa wa md σ = r → mg_G X Y_PS_findBySeed (mg_Q X (sdP M0 (fun wa => psF ng np lk nk (nI wa) fg fp fv le sm0) (fun wa vv => psF ng np lk nk (nI wa) (.ref (100 + i)) (.ref (150 + j)) vv false sm0) r) { frames := 11, cells := 0, slots := 0, locals := 259 }) M 0 0 14 [some (.ref 1), some (.ref (100 + i)), some (.ref (150 + j)), some (.long sd), none, some (.int (nI runs)), some (.int (nI pa)), some (.int (nI z)), t] [] := by
  intro n
  induction n with
  | zero =>
    intro z pa wa M md σ t hz hpa hwa hO hG hD hP hI hN hs hr
    rw [seedF] at hr
    subst hr
    refine mg_iload d_PS_findBySeed_14 rfl ?_
    refine mg_iload d_PS_findBySeed_16 rfl ?_
    refine mg_icmp_ge (tgt := 109) d_PS_findBySeed_18 (by decide) (fun c_18 => ?_) (fun c_18 => ?_)
    · refine mg_iload d_PS_findBySeed_109 rfl ?_
      exact mg_ireturn d_PS_findBySeed_111 rfl rfl (Nat.le_of_ble_eq_true rfl) (Nat.le_of_ble_eq_true rfl) ⟨rfl, hO, hD, hs⟩
    · refine mg_iload d_PS_findBySeed_21 rfl ?_
      refine mg_bipush (v := 120) d_PS_findBySeed_23 (by decide) ?_
      refine mg_icmp_gt (tgt := 109) d_PS_findBySeed_25 (by decide) (fun c_25 => ?_) (fun c_25 => absurd (nI_lt (a := 120) (b := z) (by omega) (by omega)) c_25)
      refine mg_iload d_PS_findBySeed_109 rfl ?_
      exact mg_ireturn d_PS_findBySeed_111 rfl rfl (Nat.le_of_ble_eq_true rfl) (Nat.le_of_ble_eq_true rfl) ⟨rfl, hO, hD, hs⟩
  | succ n ih =>
    intro z pa wa M md σ t hz hpa hwa hO hG hD hP hI hN hs hr
    obtain ⟨how, gv, zz⟩ := md
    obtain ⟨cs, ns, il, x, lm⟩ := σ
    rw [seedF] at hr
    dsimp only at hr
    refine mg_iload d_PS_findBySeed_14 rfl ?_
    refine mg_iload d_PS_findBySeed_16 rfl ?_
    refine mg_icmp_ge (tgt := 109) d_PS_findBySeed_18 (by decide) (fun c_18 => ?_) (fun c_18 => ?_)
    · have hge : runs ≤ pa := by
        rcases Nat.lt_or_ge pa runs with q | q
        · exact absurd c_18 (nI_ge q (by omega))
        · exact q
      rw [if_pos hge] at hr
      subst hr
      refine mg_iload d_PS_findBySeed_109 rfl ?_
      exact mg_ireturn d_PS_findBySeed_111 rfl rfl (Nat.le_of_ble_eq_true rfl) (Nat.le_of_ble_eq_true rfl) ⟨rfl, hO, hD, hs⟩
    · have hlt : ¬ runs ≤ pa := fun h => absurd (nI_le h (by omega)) c_18
      rw [if_neg hlt] at hr
      refine mg_iload d_PS_findBySeed_21 rfl ?_
      refine mg_bipush (v := 120) d_PS_findBySeed_23 (by decide) ?_
      refine mg_icmp_gt (tgt := 109) d_PS_findBySeed_25 (by decide) (fun c_25 => ?_) (fun c_25 => ?_)
      · exact absurd c_25 (nI_nlt (b := z) (a := 120) (by omega) (by decide))
      · first | refine mg_aload_n d_PS_findBySeed_28 rfl rfl ?_ | refine mg_aload_nN d_PS_findBySeed_28 rfl rfl ?_
        refine mg_getfield fl_PS_40 d_PS_findBySeed_29 hO rfl ?_
        refine mg_iload d_PS_findBySeed_32 rfl ?_
        refine mg_callV (vl_PS_224 rfl) d_PS_findBySeed_34 hD.1 rfl rfl (c_Dr_beginTry hD) rfl rfl (by rw [hR]; decide) (by rw [hR]; decide) (Nat.le_of_ble_eq_true rfl) ?_
        rintro v M2 ⟨rfl, hD2, hs2⟩
        replace hO := (hs2 1 (by omega)).trans hO
        replace hG := hG.fr hs2 (by omega)
        replace hP := (hs2 (150 + j) (by omega)).trans hP
        replace hI := hI.sm hs2 (by omega)
        replace hN := hN.sm hs2 (by omega)
        replace hs : ∀ k, k ≠ 1 → (k < 12 ∨ 20 ≤ k) → M2 k = M0 k := fun k h1 h2 => (hs2 k h2).trans (hs k h1 h2)
        clear hs2
        first | refine mg_aload_n d_PS_findBySeed_37 rfl rfl ?_ | refine mg_aload_nN d_PS_findBySeed_37 rfl rfl ?_
        first | refine mg_aload_n d_PS_findBySeed_38 rfl rfl ?_ | refine mg_aload_nN d_PS_findBySeed_38 rfl rfl ?_
        refine mg_getfield fl_PS_40 d_PS_findBySeed_39 hO rfl ?_
        refine mg_callG (gv_PS rfl) d_PS_findBySeed_42 hG hg (wf_dp hw hg).1 (c_give hw _ 8 i g hg (wf_dp hw hg).2 8 _ _ (wf_dp hw hg).2 hG hD2) rfl (by rw [hR]; have := (wf_dp hw hg).2; constructor <;> simp only [] <;> omega) (by rw [hR]; exact ⟨Nat.le_of_ble_eq_true rfl, Nat.le_of_ble_eq_true rfl⟩) (Nat.le_of_ble_eq_true rfl) ?_
        rintro v M3 ⟨rfl, hD3, hs3⟩
        replace hO := (hs3 1 (by omega)).trans hO
        replace hG := hG.fr hs3 (by omega)
        replace hP := (hs3 (150 + j) (by omega)).trans hP
        replace hI := hI.sm hs3 (by omega)
        replace hN := hN.sm hs3 (by omega)
        replace hs : ∀ k, k ≠ 1 → (k < 12 ∨ 20 ≤ k) → M3 k = M0 k := fun k h1 h2 => (hs3 k h2).trans (hs k h1 h2)
        clear hs3 hD
        rw [show giveF gs (1, gv, nI z) 8 i ([], [], false, x, lm) = tryR gs gv z i x lm from rfl] at hD3
        generalize tryR gs gv z i x lm = σ3 at hD3 hr
        have hD := hD3
        clear hD3 hD2
        first | refine mg_aload_n d_PS_findBySeed_45 rfl rfl ?_ | refine mg_aload_nN d_PS_findBySeed_45 rfl rfl ?_
        first | refine mg_aload_n d_PS_findBySeed_46 rfl rfl ?_ | refine mg_aload_nN d_PS_findBySeed_46 rfl rfl ?_
        refine mg_callV (vl_PS_193 rfl) d_PS_findBySeed_47 hO rfl rfl (c_PS_verdict hO hD hP) rfl rfl (by rw [hR]; decide) (by rw [hR]; decide) (Nat.le_of_ble_eq_true rfl) ?_
        rintro v M4 ⟨rfl, rfl⟩
        generalize vdS p σ3 = vv at hr ⊢
        refine mg_istore d_PS_findBySeed_50 (Nat.le_of_ble_eq_true rfl) rfl ?_
        refine mg_iload d_PS_findBySeed_52 rfl ?_
        refine mg_callS (sl_PS_210 rfl) d_PS_findBySeed_54 (c_PS_isBad) rfl rfl (by rw [hR]; decide) (by rw [hR]; decide) (Nat.le_of_ble_eq_true rfl) ?_
        rintro v M5 ⟨rfl, rfl⟩
        refine mg_if_eq (tgt := 70) d_PS_findBySeed_57 (by decide) (fun c_57 => ?_) (fun c_57 => ?_)
        · rw [if_neg (by rw [bI_f c_57]; decide)] at hr
          refine mg_iload d_PS_findBySeed_70 rfl ?_
          refine mg_if_ne (tgt := 81) d_PS_findBySeed_72 (by decide) (fun c_72 => ?_) (fun c_72 => ?_)
          · rw [if_neg c_72, if_neg c_72] at hr
            first | refine mg_aload_n d_PS_findBySeed_81 rfl rfl ?_ | refine mg_aload_nN d_PS_findBySeed_81 rfl rfl ?_
            refine mg_dup d_PS_findBySeed_82 rfl ?_
            refine mg_getfield fl_PS_69 d_PS_findBySeed_83 hO rfl ?_
            refine mg_iconst (v := 1) d_PS_findBySeed_86 (by decide) ?_
            refine mg_iadd d_PS_findBySeed_87 ?_
            refine mg_putfield (fw_PS_69 _) d_PS_findBySeed_88 hO (Nat.le_of_ble_eq_true rfl) (fun _ => ⟨rfl, rfl⟩) ?_
            refine mg_eqM (M' := mg_up M5 1 (psF ng np lk nk (nI (wa + 1)) fg fp fv le sm0)) (by rw [← nI_1]; rfl) ?_
            replace hs : ∀ k, k ≠ 1 → (k < 12 ∨ 20 ≤ k) → mg_up M5 1 (psF ng np lk nk (nI (wa + 1)) fg fp fv le sm0) k = M0 k := fun k h1 h2 => by rw [mg_up_n _ _ h1]; exact hs k h1 h2
            replace hO : mg_up M5 1 (psF ng np lk nk (nI (wa + 1)) fg fp fv le sm0) 1 = some (psF ng np lk nk (nI (wa + 1)) fg fp fv le sm0) := mg_up_s _ _ _
            replace hG := hG.up (k := 1) (e := psF ng np lk nk (nI (wa + 1)) fg fp fv le sm0) (by omega)
            replace hD := hD.up (k := 1) (e := psF ng np lk nk (nI (wa + 1)) fg fp fv le sm0) (by omega)
            replace hI := hI.up (k := 1) (e := psF ng np lk nk (nI (wa + 1)) fg fp fv le sm0) (by omega) (by omega)
            replace hN := hN.up (k := 1) (e := psF ng np lk nk (nI (wa + 1)) fg fp fv le sm0) (by omega) (by omega)
            replace hP : mg_up M5 1 (psF ng np lk nk (nI (wa + 1)) fg fp fv le sm0) (150 + j) = some (prE p) := by rw [mg_up_n _ _ (by omega)]; exact hP
            generalize mg_up M5 1 (psF ng np lk nk (nI (wa + 1)) fg fp fv le sm0) = M6 at hs hO hG hD hI hN hP ⊢
            refine mg_aload_n d_PS_findBySeed_91 rfl rfl ?_
            refine mg_getfield fl_PS_69 d_PS_findBySeed_92 hO rfl ?_
            refine mg_iload d_PS_findBySeed_95 rfl ?_
            refine mg_icmp_le (tgt := 103) d_PS_findBySeed_97 (by decide) (fun c_97 => ?_) (fun c_97 => ?_)
            · have hle : ¬ runs < (wa + 1) := fun h => absurd c_97 (nI_ge h (by omega))
              rw [if_neg hle] at hr
              refine mg_iinc (v := nI (z + 1)) d_PS_findBySeed_103 rfl (nI_1 _) (Nat.le_of_ble_eq_true rfl) rfl ?_
              refine mg_goto (tgt := 14) d_PS_findBySeed_106 (by decide) ?_
              exact ih (z + 1) pa (wa + 1) _ _ _ _ (by omega) (by omega) (by omega) hO hG hD hP hI hN hs hr
            · have hgt : runs < (wa + 1) := by
                rcases Nat.lt_or_ge runs (wa + 1) with q | q
                · exact q
                · exact absurd (nI_le q (by omega)) c_97
              rw [if_pos hgt] at hr
              subst hr
              refine mg_bipush (v := -2) d_PS_findBySeed_100 (by decide) ?_
              exact mg_ireturn d_PS_findBySeed_102 rfl rfl (Nat.le_of_ble_eq_true rfl) (Nat.le_of_ble_eq_true rfl) ⟨rfl, hO, hD, hs⟩
          · rw [if_pos c_72, if_pos c_72] at hr
            refine mg_iinc (v := nI (pa + 1)) d_PS_findBySeed_75 rfl (nI_1 _) (Nat.le_of_ble_eq_true rfl) rfl ?_
            refine mg_goto (tgt := 91) d_PS_findBySeed_78 (by decide) ?_
            refine mg_aload_n d_PS_findBySeed_91 rfl rfl ?_
            refine mg_getfield fl_PS_69 d_PS_findBySeed_92 hO rfl ?_
            refine mg_iload d_PS_findBySeed_95 rfl ?_
            refine mg_icmp_le (tgt := 103) d_PS_findBySeed_97 (by decide) (fun c_97 => ?_) (fun c_97 => ?_)
            · have hle : ¬ runs < wa := fun h => absurd c_97 (nI_ge h (by omega))
              rw [if_neg hle] at hr
              refine mg_iinc (v := nI (z + 1)) d_PS_findBySeed_103 rfl (nI_1 _) (Nat.le_of_ble_eq_true rfl) rfl ?_
              refine mg_goto (tgt := 14) d_PS_findBySeed_106 (by decide) ?_
              exact ih (z + 1) (pa + 1) wa _ _ _ _ (by omega) (by omega) (by omega) hO hG hD hP hI hN hs hr
            · have hgt : runs < wa := by
                rcases Nat.lt_or_ge runs wa with q | q
                · exact q
                · exact absurd (nI_le q (by omega)) c_97
              rw [if_pos hgt] at hr
              subst hr
              refine mg_bipush (v := -2) d_PS_findBySeed_100 (by decide) ?_
              exact mg_ireturn d_PS_findBySeed_102 rfl rfl (Nat.le_of_ble_eq_true rfl) (Nat.le_of_ble_eq_true rfl) ⟨rfl, hO, hD, hs⟩
        · rw [if_pos (bI_t c_57)] at hr
          subst hr
          first | refine mg_aload_n d_PS_findBySeed_60 rfl rfl ?_ | refine mg_aload_nN d_PS_findBySeed_60 rfl rfl ?_
          first | refine mg_aload_n d_PS_findBySeed_61 rfl rfl ?_ | refine mg_aload_nN d_PS_findBySeed_61 rfl rfl ?_
          first | refine mg_aload_n d_PS_findBySeed_62 rfl rfl ?_ | refine mg_aload_nN d_PS_findBySeed_62 rfl rfl ?_
          refine mg_iload d_PS_findBySeed_63 rfl ?_
          refine mg_callV (vl_PS_213 rfl) d_PS_findBySeed_65 hO rfl rfl (c_PS_takeFound hO hD hI hN) rfl rfl (by rw [hR]; decide) (by rw [hR]; decide) (Nat.le_of_ble_eq_true rfl) ?_
          rintro v M6 ⟨rfl, hO6, hI6, hN6, hs6⟩
          refine mg_iconst (v := -1) d_PS_findBySeed_68 (by decide) ?_
          refine mg_ireturn d_PS_findBySeed_69 rfl rfl (Nat.le_of_ble_eq_true rfl) (Nat.le_of_ble_eq_true rfl) ⟨rfl, hO6, hI6, hN6, hD.fr (lo := 0) (hi := 8) (fun k hk => hs6 k (by omega) (by omega)) (by omega), fun k h1 h2 h3 => ?_⟩
          rw [hs6 k h1 h2]; exact hs k h1 h3

set_option maxHeartbeats 4000000 in
set_option maxRecDepth 100000 in
theorem c_PS_findBySeed {M : mg_M} {ng np nk : Nat} {lk fg fp : Value} {fv : Int32} {le : Bool} {sm0 : Int64} {gs : List gN} {i j : Nat} {g : gN} {p : pN} {runs : Nat} {sd x : Int64} {md : dM} {cs ns : List Int32} {il : Bool} {lm : Nat → Int32} {rw0 nu : List Int32} (hw : wfG gs) (hg : gs[i]? = some g) (hrn : runs ≤ 60) (hO : M 1 = some (psF ng np lk nk (nI 0) fg fp fv le sm0)) (hG : isG M gs) (hD : isD M 12 md (cs, ns, il, x, lm)) (hP : M (150 + j) = some (prE p)) (hI : isI M 4 rw0) (hN : isI M 6 nu) : mg_Ct Y_PS_findBySeed { frames := 11, cells := 0, slots := 0, locals := 259 } [.ref 1, .ref (100 + i), .ref (150 + j), .long sd, .int (nI runs)] M (sdP M (fun wa => psF ng np lk nk (nI wa) fg fp fv le sm0) (fun wa vv => psF ng np lk nk (nI wa) (.ref (100 + i)) (.ref (150 + j)) vv false sm0) (seedF gs p i runs 121 0 0 0 md (cs, ns, il, sd, lm))) := by
  obtain ⟨how, gv, zz⟩ := md
  refine mg_met [some (.ref 1), some (.ref (100 + i)), some (.ref (150 + j)), some (.long sd), none, some (.int (nI runs)), none, none, none] (by decide +kernel) rfl (Nat.le_of_ble_eq_true rfl) ?_
  intro X hR _
  refine mg_iconst (v := 0) d_PS_findBySeed_0 (by decide) ?_
  refine mg_istore d_PS_findBySeed_1 (Nat.le_of_ble_eq_true rfl) rfl ?_
  refine mg_aload_n d_PS_findBySeed_3 rfl rfl ?_
  refine mg_getfield fl_PS_40 d_PS_findBySeed_4 hO rfl ?_
  refine mg_lload_n d_PS_findBySeed_7 rfl rfl ?_
  refine mg_callV (vl_PS_220 rfl) d_PS_findBySeed_8 hD.1 rfl rfl (c_Dr_sow hD) rfl rfl (by rw [hR]; decide) (by rw [hR]; decide) (Nat.le_of_ble_eq_true rfl) ?_
  rintro v M2 ⟨rfl, hD2, hs2⟩
  refine mg_iconst (v := 0) d_PS_findBySeed_11 (by decide) ?_
  refine mg_istore d_PS_findBySeed_12 (Nat.le_of_ble_eq_true rfl) rfl ?_
  exact lp_seed (M0 := M) hR hw hg hrn 121 0 0 0 M2 _ _ none (by omega) (by omega) (by omega) ((hs2 1 (by omega)).trans hO) (hG.fr hs2 (by omega)) hD2 ((hs2 (150 + j) (by omega)).trans hP) (hI.sm hs2 (by omega)) (hN.sm hs2 (by omega)) (fun k _ h2 => hs2 k h2) rfl

