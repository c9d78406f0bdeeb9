/-! GENERATORS: list and keep; and every generator's contract -/
theorem cmp_eq {x y : Int64} : lg_cmp x y = 0 ↔ x = y := by
  unfold lg_cmp
  by_cases h : y < x
  · rw [if_pos h]
    exact ⟨fun e => absurd e (by decide), fun e => by subst e; exact (Int64.lt_irrefl h).elim⟩
  · rw [if_neg h]
    by_cases h2 : x = y
    · rw [if_pos h2]; exact ⟨fun _ => h2, fun _ => rfl⟩
    · rw [if_neg h2]; exact ⟨fun e => absurd e (by decide), fun e => absurd e h2⟩

set_option maxHeartbeats 4000000 in
set_option maxRecDepth 100000 in
theorem lp_LO {X : mg_X} {M0 : mg_M} {r : dS} {mm : Nat} {gs : List gN} {how z : Int32} {gv : List Int32} {i : Nat} {b : Int32} {dp d ja : Nat} {ga : gN} (hdp : 1 ≤ dp) (hR : mg_R X = rmG dp) (hmm : mm ≤ 9) (hOf : ∀ M, isG M gs → M (100 + i) = some (.inr (4, [.int (nI dp), .ref (100 + ja), .int (nI mm)]))) (hga : gs[ja]? = some ga) (hka : ga.1 ≤ 5) (hda : ga.2.2.2 < dp) (hdd : dp ≤ d + 1) (ca : gvC gs (how, gv, z) ja ga) : ∀ (n m : Nat) (M : mg_M) (σ : dS), m + n = mm → isG M gs → isD M 12 (how, gv, z) σ → sm 12 20 M0 M → listF (giveF gs (how, gv, z) d ja) (how, gv, z) n σ = r → mg_G X Y_LO_give (mg_Q X (fun v M' => v = none ∧ isD M' 12 (how, gv, z) r ∧ sm 12 20 M0 M') (rmG dp)) M 0 0 2 [some (.ref (100 + i)), some (.ref 12), some (.int (nI m))] [] := by
  intro n
  induction n with
  | zero =>
    intro m M σ hm hG hD hs hr
    rw [listF] at hr
    subst hr
    refine mg_iload_n d_LO_give_2 rfl rfl ?_
    refine mg_aload_n d_LO_give_3 rfl rfl ?_
    refine mg_getfield fl_LO_17 d_LO_give_4 (hOf M hG) rfl ?_
    refine mg_icmp_ge (tgt := 34) d_LO_give_7 (by decide) (fun c_7 => ?_) (fun c_7 => absurd (nI_le (by omega) (by omega)) c_7)
    exact mg_return d_LO_give_34 rfl (Nat.le_of_ble_eq_true rfl) (Nat.le_of_ble_eq_true rfl) ⟨rfl, hD, hs⟩
  | succ n ih =>
    intro m M σ hm hG hD hs hr
    obtain ⟨cs, ns, il, x, lm⟩ := σ
    refine mg_iload_n d_LO_give_2 rfl rfl ?_
    first | refine mg_aload_n d_LO_give_3 rfl rfl ?_ | refine mg_aload_nN d_LO_give_3 rfl rfl ?_
    refine mg_getfield fl_LO_17 d_LO_give_4 (by first | exact hOf _ hG | exact hD.1) rfl ?_
    refine mg_icmp_ge (tgt := 34) d_LO_give_7 (by decide) (fun c_7 => ?_) (fun c_7 => ?_)
    · exact absurd c_7 (nI_ge (by omega) (by omega))
    · first | refine mg_aload_n d_LO_give_10 rfl rfl ?_ | refine mg_aload_nN d_LO_give_10 rfl rfl ?_
      refine mg_iconst (v := 1) d_LO_give_11 (by decide) ?_
      refine mg_iconst (v := 2) d_LO_give_12 (by decide) ?_
      refine mg_callV (vl_LO_20 rfl) d_LO_give_13 hD.1 rfl rfl (c_Dr_draw hD) rfl rfl (by rw [hR]; constructor <;> simp only [rmG, mg_nl] <;> omega) (by rw [hR]; exact ⟨Nat.le_of_ble_eq_true rfl, Nat.le_of_ble_eq_true rfl⟩) (Nat.le_of_ble_eq_true rfl) ?_
      rintro v M2 ⟨rfl, hD2, hs2⟩
      have hG2 := hG.fr hs2 (by omega)
      rw [listF] at hr
      generalize drawF (how, gv, z) (cs, ns, il, x, lm) 1 2 = q at hD2 hr ⊢
      obtain ⟨rv, cs2, ns2, il2, x2, lm2⟩ := q
      refine mg_iconst (v := 1) d_LO_give_16 (by decide) ?_
      refine mg_icmp_ne (tgt := 34) d_LO_give_17 (by decide) (fun c_17 => ?_) (fun c_17 => ?_)
      · rw [if_neg c_17] at hr
        subst hr
        exact mg_return d_LO_give_34 rfl (Nat.le_of_ble_eq_true rfl) (Nat.le_of_ble_eq_true rfl) ⟨rfl, hD2, hs.tr hs2⟩
      · rw [if_pos c_17] at hr
        first | refine mg_aload_n d_LO_give_20 rfl rfl ?_ | refine mg_aload_nN d_LO_give_20 rfl rfl ?_
        refine mg_getfield fl_LO_11 d_LO_give_21 ((hs2 (100 + i) (by omega)).trans (hOf M hG)) rfl ?_
        first | refine mg_aload_n d_LO_give_24 rfl rfl ?_ | refine mg_aload_nN d_LO_give_24 rfl rfl ?_
        refine mg_callG gv_LO d_LO_give_25 hG2 hga hka (ca d _ _ (by omega) hG2 hD2) rfl (by rw [hR]; constructor <;> simp only [rmG, mg_nl] <;> omega) (by rw [hR]; exact ⟨Nat.le_of_ble_eq_true rfl, Nat.le_of_ble_eq_true rfl⟩) (Nat.le_of_ble_eq_true rfl) ?_
        rintro v M3 ⟨rfl, hD3, hs3⟩
        refine mg_iinc (v := nI (m + 1)) d_LO_give_28 rfl (nI_1 _) (Nat.le_of_ble_eq_true rfl) rfl ?_
        refine mg_goto (tgt := 2) d_LO_give_31 (by decide) ?_
        exact ih (m + 1) _ _ (by omega) (hG2.fr hs3 (by omega)) hD3 ((hs.tr hs2).tr hs3) hr

set_option maxHeartbeats 4000000 in
set_option maxRecDepth 100000 in
theorem c_LO_give {gs : List gN} {md : dM} {i : Nat} {a b : Int32} {dp : Nat} (hg : gs[i]? = some (1, a, b, dp)) (hdp : 1 ≤ dp) {ja : Nat} {ga : gN} (ea : a = nI ja) (la : ja < 20) (hga : gs[ja]? = some ga) (hka : ga.1 ≤ 5) (hda : ga.2.2.2 < dp) (ca : gvC gs md ja ga) {mm : Nat} (eb : b = nI mm) (hmm : mm ≤ 9) : gvC gs md i (1, a, b, dp) := by
  intro d M σ hd hG hD
  replace hd : dp ≤ d := hd
  obtain ⟨d, rfl⟩ : ∃ e, d = e + 1 := ⟨d - 1, by omega⟩
  obtain ⟨how, gv, z⟩ := md
  subst ea; subst eb
  have hOf : ∀ M, isG M gs → M (100 + i) = some (.inr (4, [.int (nI dp), .ref (100 + ja), .int (nI mm)])) := fun M hG => by
    have hO := hG i _ hg
    simp only [genE] at hO
    rw [nI_clamp (by omega : ja < 2 ^ 31)] at hO
    exact hO
  have hgF : giveF gs (how, gv, z) (d + 1) i σ = listF (giveF gs (how, gv, z) d ja) (how, gv, z) mm σ := by simp only [giveF, hg, nI_clamp (by omega : ja < 2 ^ 31), nI_clamp (by omega : mm < 2 ^ 31)]
  show mg_Ct Y_LO_give (rmG dp) _ M _
  refine mg_met [some (.ref (100 + i)), some (.ref 12), none] (by decide +kernel) rfl (Nat.le_of_ble_eq_true rfl) ?_
  intro X hR _
  replace hR : mg_R X = rmG dp := hR
  refine mg_iconst (v := 0) d_LO_give_0 (by decide) ?_
  refine mg_istore_n d_LO_give_1 rfl (Nat.le_of_ble_eq_true rfl) rfl ?_
  exact lp_LO (b := 0) (M0 := M) hdp hR hmm hOf hga hka hda hd ca mm 0 M σ (by omega) hG hD sm.rf hgF.symm

set_option maxHeartbeats 4000000 in
set_option maxRecDepth 100000 in
theorem lp_KO {X : mg_X} {M0 : mg_M} {r : dS} {st : Nat} {gs : List gN} {how z : Int32} {gv : List Int32} {i : Nat} {b : Int32} {dp d ja : Nat} {ga : gN} (hdp : 1 ≤ dp) (hR : mg_R X = rmG dp) (hst : st ≤ 60) (hOf : ∀ M, isG M gs → M (100 + i) = some (.inr (7, [.int (nI dp), .ref (100 + ja), .int b]))) (hga : gs[ja]? = some ga) (hka : ga.1 ≤ 5) (hda : ga.2.2.2 < dp) (hdd : dp ≤ d + 1) (ca : gvC gs (how, gv, z) ja ga) : ∀ (n t : Nat) (M : mg_M) (σ : dS), t + n = 3 → isG M gs → isD M 12 (how, gv, z) σ → sm 12 20 M0 M → keepF (giveF gs (how, gv, z) d ja) st b n σ = r → mg_G X Y_KO_give (mg_Q X (fun v M' => v = none ∧ isD M' 12 (how, gv, z) r ∧ sm 12 20 M0 M') (rmG dp)) M 0 0 10 [some (.ref (100 + i)), some (.ref 12), some (.int (nI st)), some (.int (nI t))] [] := by
  intro n
  induction n with
  | zero =>
    intro t M σ ht hG hD hs hr
    obtain ⟨cs, ns, il, x, lm⟩ := σ
    rw [keepF] at hr
    subst hr
    refine mg_iload_n d_KO_give_10 rfl rfl ?_
    refine mg_iconst (v := 3) d_KO_give_11 (by decide) ?_
    refine mg_icmp_ge (tgt := 64) d_KO_give_12 (by decide) (fun c_12 => ?_) (fun c_12 => absurd (nI_le (a := 3) (b := t) (by omega) (by omega)) c_12)
    refine mg_aload_n d_KO_give_64 rfl rfl ?_
    refine mg_iconst (v := 1) d_KO_give_65 (by decide) ?_
    refine mg_putfield (fw_KO_34 _) d_KO_give_66 hD.1 (Nat.le_of_ble_eq_true rfl) (fun _ => ⟨rfl, rfl⟩) ?_
    exact mg_return d_KO_give_69 rfl (Nat.le_of_ble_eq_true rfl) (Nat.le_of_ble_eq_true rfl) ⟨rfl, hD.obj (il' := true) (x' := x) (md' := (how, gv, z)) rfl, hs.up (by omega) (by omega)⟩
  | succ n ih =>
    intro t M σ ht hG hD hs hr
    obtain ⟨cs, ns, il, x, lm⟩ := σ
    refine mg_iload_n d_KO_give_10 rfl rfl ?_
    refine mg_iconst (v := 3) d_KO_give_11 (by decide) ?_
    refine mg_icmp_ge (tgt := 64) d_KO_give_12 (by decide) (fun c_12 => ?_) (fun c_12 => ?_)
    · exact absurd c_12 (nI_ge (a := t) (b := 3) (by omega) (by omega))
    · first | refine mg_aload_n d_KO_give_15 rfl rfl ?_ | refine mg_aload_nN d_KO_give_15 rfl rfl ?_
      refine mg_getfield fl_KO_34 d_KO_give_16 (by first | exact hOf _ hG | exact hD.1) rfl ?_
      refine mg_if_ne (tgt := 64) d_KO_give_19 (by decide) (fun c_19 => ?_) (fun c_19 => ?_)
      · obtain rfl := bI_t c_19
        rw [keepF, if_pos rfl] at hr
        subst hr
        refine mg_aload_n d_KO_give_64 rfl rfl ?_
        refine mg_iconst (v := 1) d_KO_give_65 (by decide) ?_
        refine mg_putfield (fw_KO_34 _) d_KO_give_66 hD.1 (Nat.le_of_ble_eq_true rfl) (fun _ => ⟨rfl, rfl⟩) ?_
        exact mg_return d_KO_give_69 rfl (Nat.le_of_ble_eq_true rfl) (Nat.le_of_ble_eq_true rfl) ⟨rfl, hD.obj (il' := true) (x' := x) (md' := (how, gv, z)) rfl, hs.up (by omega) (by omega)⟩
      · obtain rfl := bI_f c_19
        rw [keepF, if_neg (show ¬ ((cs, ns, false, x, lm) : dS).2.2.1 = true from fun h => by cases h)] at hr
        first | refine mg_aload_n d_KO_give_22 rfl rfl ?_ | refine mg_aload_nN d_KO_give_22 rfl rfl ?_
        refine mg_getfield fl_KO_22 d_KO_give_23 (by first | exact hOf _ hG | exact hD.1) rfl ?_
        refine mg_iload_n d_KO_give_26 rfl rfl ?_
        refine mg_callV (vl_KO_38 rfl) d_KO_give_27 (by obtain ⟨_, e1, -⟩ := hD.2.2.1; exact e1) rfl rfl (c_In_cutTo (xs := ns) hD.2.2.1) rfl rfl (by rw [hR]; constructor <;> simp only [rmG, mg_nl] <;> omega) (by rw [hR]; exact ⟨Nat.le_of_ble_eq_true rfl, Nat.le_of_ble_eq_true rfl⟩) (Nat.le_of_ble_eq_true rfl) ?_
        rintro v M2 ⟨rfl, hI2, hs2⟩
        rw [nI_clampN hst] at hI2
        replace hD := hD.ns hI2 hs2
        replace hs := hs.tr (hs2.wd (by omega) (by omega))
        replace hG := hG.fr hs2 (by omega)
        clear hI2 hs2
        first | refine mg_aload_n d_KO_give_30 rfl rfl ?_ | refine mg_aload_nN d_KO_give_30 rfl rfl ?_
        refine mg_getfield fl_KO_13 d_KO_give_31 (by first | exact hOf _ hG | exact hD.1) rfl ?_
        first | refine mg_aload_n d_KO_give_34 rfl rfl ?_ | refine mg_aload_nN d_KO_give_34 rfl rfl ?_
        refine mg_callG gv_KO d_KO_give_35 hG hga hka (ca d _ _ (by omega) hG hD) rfl (by rw [hR]; constructor <;> simp only [rmG, mg_nl] <;> omega) (by rw [hR]; exact ⟨Nat.le_of_ble_eq_true rfl, Nat.le_of_ble_eq_true rfl⟩) (Nat.le_of_ble_eq_true rfl) ?_
        rintro v M3 ⟨rfl, hD3, hs3⟩
        replace hs := hs.tr hs3
        replace hG := hG.fr hs3 (by omega)
        rw [show cutF (cs, ns, false, x, lm) st = (cs, ns.take st, false, x, lm) from rfl] at hr
        generalize giveF gs (how, gv, z) d ja (cs, ns.take st, false, x, lm) = σ3 at hD3 hr
        obtain ⟨cs3, ns3, il3, x3, lm3⟩ := σ3
        replace hD := hD3
        clear hD3 hs3
        first | refine mg_aload_n d_KO_give_38 rfl rfl ?_ | refine mg_aload_nN d_KO_give_38 rfl rfl ?_
        refine mg_getfield fl_KO_22 d_KO_give_39 (by first | exact hOf _ hG | exact hD.1) rfl ?_
        refine mg_iload_n d_KO_give_42 rfl rfl ?_
        refine mg_callV (vl_KO_45 rfl) d_KO_give_43 (by obtain ⟨_, e1, -⟩ := hD.2.2.1; exact e1) rfl rfl (c_In_totalFrom (xs := ns3) (a := st) hD.2.2.1 (by omega)) rfl rfl (by rw [hR]; constructor <;> simp only [rmG, mg_nl] <;> omega) (by rw [hR]; exact ⟨Nat.le_of_ble_eq_true rfl, Nat.le_of_ble_eq_true rfl⟩) (Nat.le_of_ble_eq_true rfl) ?_
        rintro v M4 ⟨rfl, rfl⟩
        refine mg_lconst (v := 1) d_KO_give_46 (by decide) ?_
        refine mg_land d_KO_give_47 ?_
        first | refine mg_aload_n d_KO_give_48 rfl rfl ?_ | refine mg_aload_nN d_KO_give_48 rfl rfl ?_
        refine mg_getfield fl_KO_19 d_KO_give_49 (by first | exact hOf _ hG | exact hD.1) rfl ?_
        refine mg_i2l d_KO_give_52 ?_
        refine mg_lcmp d_KO_give_53 ?_
        refine mg_if_ne (tgt := 58) d_KO_give_54 (by decide) (fun c_54 => ?_) (fun c_54 => ?_)
        · rw [if_neg (fun h => c_54 (cmp_eq.mpr h))] at hr
          refine mg_iinc (v := nI (t + 1)) d_KO_give_58 rfl (nI_1 _) (Nat.le_of_ble_eq_true rfl) rfl ?_
          refine mg_goto (tgt := 10) d_KO_give_61 (by decide) ?_
          exact ih (t + 1) _ _ (by omega) hG hD hs hr
        · rw [if_pos (cmp_eq.mp c_54)] at hr
          subst hr
          exact mg_return d_KO_give_57 rfl (Nat.le_of_ble_eq_true rfl) (Nat.le_of_ble_eq_true rfl) ⟨rfl, hD, hs⟩

set_option maxHeartbeats 4000000 in
set_option maxRecDepth 100000 in
theorem c_KO_give {gs : List gN} {md : dM} {i : Nat} {a b : Int32} {dp : Nat} (hg : gs[i]? = some (4, a, b, dp)) (hdp : 1 ≤ dp) {ja : Nat} {ga : gN} (ea : a = nI ja) (la : ja < 20) (hga : gs[ja]? = some ga) (hka : ga.1 ≤ 5) (hda : ga.2.2.2 < dp) (ca : gvC gs md ja ga) : gvC gs md i (4, a, b, dp) := by
  intro d M σ hd hG hD
  replace hd : dp ≤ d := hd
  obtain ⟨d, rfl⟩ : ∃ e, d = e + 1 := ⟨d - 1, by omega⟩
  obtain ⟨how, gv, z⟩ := md
  obtain ⟨cs, ns, il, x, lm⟩ := σ
  subst ea
  have hOf : ∀ M, isG M gs → M (100 + i) = some (.inr (7, [.int (nI dp), .ref (100 + ja), .int b])) := fun M hG => by
    have hO := hG i _ hg
    simp only [genE] at hO
    rw [nI_clamp (by omega : ja < 2 ^ 31)] at hO
    exact hO
  have hgF : giveF gs (how, gv, z) (d + 1) i (cs, ns, il, x, lm) = keepF (giveF gs (how, gv, z) d ja) ns.length b 3 (cs, ns, il, x, lm) := by simp only [giveF, hg, nI_clamp (by omega : ja < 2 ^ 31)]
  show mg_Ct Y_KO_give (rmG dp) _ M _
  refine mg_met [some (.ref (100 + i)), some (.ref 12), none, none] (by decide +kernel) rfl (Nat.le_of_ble_eq_true rfl) ?_
  intro X hR _
  replace hR : mg_R X = rmG dp := hR
  refine mg_aload_n d_KO_give_0 rfl rfl ?_
  refine mg_getfield fl_KO_22 d_KO_give_1 hD.1 rfl ?_
  refine mg_callV (vl_KO_28 rfl) d_KO_give_4 (by obtain ⟨_, e1, -⟩ := hD.2.2.1; exact e1) rfl rfl (c_In_length (xs := ns) hD.2.2.1) rfl rfl (by rw [hR]; constructor <;> simp only [rmG, mg_nl] <;> omega) (by rw [hR]; exact ⟨Nat.le_of_ble_eq_true rfl, Nat.le_of_ble_eq_true rfl⟩) (Nat.le_of_ble_eq_true rfl) ?_
  rintro v M1 ⟨rfl, rfl⟩
  refine mg_istore_n d_KO_give_7 rfl (Nat.le_of_ble_eq_true rfl) rfl ?_
  refine mg_iconst (v := 0) d_KO_give_8 (by decide) ?_
  refine mg_istore_n d_KO_give_9 rfl (Nat.le_of_ble_eq_true rfl) rfl ?_
  exact lp_KO (M0 := M1) hdp hR hD.2.2.1.le hOf hga hka hda hd ca 3 0 M1 _ (by omega) hG hD sm.rf hgF.symm

/-- every generator keeps its contract -/
theorem c_give {gs : List gN} (hw : wfG gs) (md : dM) : ∀ (D i : Nat) (g : gN), gs[i]? = some g → g.2.2.2 ≤ D → gvC gs md i g := by
  intro D
  induction D with
  | zero =>
    rintro i ⟨k, a, b, dp⟩ hg hD
    have := (hw.2 i k a b dp hg).2.1
    exact absurd hD (by show ¬ dp ≤ 0; omega)
  | succ D ih =>
    rintro i ⟨k, a, b, dp⟩ hg hD
    replace hD : dp ≤ D + 1 := hD
    obtain ⟨hk, hdp, hdp8, -, hpa, hpb, h1, h4⟩ := hw.2 i k a b dp hg
    have get : ∀ q : Int32, gP gs dp q → ∃ (j : Nat) (g : gN), q = nI j ∧ j < 20 ∧ gs[j]? = some g ∧ g.1 ≤ 5 ∧ g.2.2.2 < dp ∧ gvC gs md j g := by
      rintro q ⟨j, g, e, l, hj, hd⟩
      obtain ⟨k', a', b', dp'⟩ := g
      exact ⟨j, _, e, l, hj, (hw.2 j k' a' b' dp' hj).1, hd, ih j _ hj (by show dp' ≤ D; replace hd : dp' < dp := hd; omega)⟩
    match k, hk, hg, hpa, hpb, h1, h4 with
    | 0, _, hg, _, _, _, _ => exact c_IR_give hg hdp
    | 1, _, hg, hpa, _, h1, _ =>
      obtain ⟨ja, ga, e1, e2, e3, e4, e5, e6⟩ := get a (hpa (by decide))
      obtain ⟨m, hm, hb⟩ := h1 rfl
      exact c_LO_give hg hdp e1 e2 e3 e4 e5 e6 hb hm
    | 2, _, hg, hpa, hpb, _, _ =>
      obtain ⟨ja, ga, e1, e2, e3, e4, e5, e6⟩ := get a (hpa (by decide))
      obtain ⟨jb, gb, f1, f2, f3, f4, f5, f6⟩ := get b (hpb (Or.inl rfl))
      exact c_PO_give hg hdp e1 e2 e3 e4 e5 e6 f1 f2 f3 f4 f5 f6
    | 3, _, hg, hpa, hpb, _, _ =>
      obtain ⟨ja, ga, e1, e2, e3, e4, e5, e6⟩ := get a (hpa (by decide))
      obtain ⟨jb, gb, f1, f2, f3, f4, f5, f6⟩ := get b (hpb (Or.inr rfl))
      exact c_OO_give hg hdp e1 e2 e3 e4 e5 e6 f1 f2 f3 f4 f5 f6
    | 4, _, hg, hpa, _, _, _ =>
      obtain ⟨ja, ga, e1, e2, e3, e4, e5, e6⟩ := get a (hpa (by decide))
      exact c_KO_give hg hdp e1 e2 e3 e4 e5 e6
    | 5, _, hg, hpa, _, _, _ =>
      obtain ⟨ja, ga, e1, e2, e3, e4, e5, e6⟩ := get a (hpa (by decide))
      exact c_AT_give hg hdp e1 e2 e3 e4 e5 e6
    | k + 6, hk, _, _, _, _, _ => exact absurd hk (by omega)

