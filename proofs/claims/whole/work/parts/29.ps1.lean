/-! THE CLASS's object, at 1; its arrays at 2 and 3; row 4, numbers 6, puts 8, step 10, draws 12; generators from 100, properties from 150, kept rows from 200 on, three handles each -/
theorem mg_eqv {X : mg_X} {Y : mg_Y} {Q : State → Prop} {M : mg_M} {k j pc : Nat} {lv : List (Option Value)} {rest : List Value} {x y : Value} (e : x = y) (kk : mg_G X Y Q M k j pc lv (y :: rest)) : mg_G X Y Q M k j pc lv (x :: rest) := e ▸ kk
abbrev psF (ng np : Nat) (lk : Value) (nk : Nat) (wa : Int32) (fg fp : Value) (fv : Int32) (le : Bool) (sm : Int64) : va_E := .inr (0, [.ref 2, .int (nI ng), .ref 3, .int (nI np), lk, .int (nI nk), .int wa, fg, fp, .int fv, .int (bI le), .ref 4, .ref 6, .ref 8, .ref 10, .ref 12, .long sm])
def gA (b n : Nat) : Nat → Option Nat := fun i => if i < n then some (b + i) else none
abbrev arE (t n : Nat) (f : Nat → Option Nat) : va_E := .inl (t, n, .inr (.inr (.inr (.inr f))))
theorem gA_in {b n j : Nat} (h : j < n) (hj : j < 2 ^ 31) : va_rf (gA b n (nI j).toNatClampNeg) = .ref (b + j) := by
  rw [nI_clamp hj]; simp [gA, h, va_rf]
def isBd (v : Int32) : Bool := decide (v = 1) || decide (v = 2)
def isNr (v : Int32) : Bool := decide (¬ v < -1000) && decide (¬ 1000 < v)

set_option maxHeartbeats 4000000 in
set_option maxRecDepth 100000 in
theorem c_PS_isBad {M : mg_M} {v0 : Int32} : mg_Ct Y_PS_isBad { frames := 0, cells := 0, slots := 0, locals := 0 } [.int v0] M (fun v M' => v = some (.int (bI (isBd v0))) ∧ M' = M) := by
  refine mg_met [some (.int v0)] (by decide +kernel) rfl (Nat.le_of_ble_eq_true rfl) ?_
  intro X hR _
  refine mg_iload_n d_PS_isBad_0 rfl rfl ?_
  refine mg_iconst (v := 1) d_PS_isBad_1 (by decide) ?_
  refine mg_icmp_eq (tgt := 10) d_PS_isBad_2 (by decide) (fun c_2 => ?_) (fun c_2 => ?_)
  · subst c_2
    refine mg_iconst (v := 1) d_PS_isBad_10 (by decide) ?_
    refine mg_goto (tgt := 15) d_PS_isBad_11 (by decide) ?_
    exact mg_ireturn d_PS_isBad_15 rfl rfl (Nat.le_of_ble_eq_true rfl) (Nat.le_of_ble_eq_true rfl) ⟨rfl, rfl⟩
  · refine mg_iload_n d_PS_isBad_5 rfl rfl ?_
    refine mg_iconst (v := 2) d_PS_isBad_6 (by decide) ?_
    refine mg_icmp_ne (tgt := 14) d_PS_isBad_7 (by decide) (fun c_7 => ?_) (fun c_7 => ?_)
    · refine mg_iconst (v := 0) d_PS_isBad_14 (by decide) ?_
      exact mg_ireturn d_PS_isBad_15 rfl rfl (Nat.le_of_ble_eq_true rfl) (Nat.le_of_ble_eq_true rfl) ⟨by simp [isBd, c_2, c_7, bI], rfl⟩
    · subst c_7
      refine mg_iconst (v := 1) d_PS_isBad_10 (by decide) ?_
      refine mg_goto (tgt := 15) d_PS_isBad_11 (by decide) ?_
      exact mg_ireturn d_PS_isBad_15 rfl rfl (Nat.le_of_ble_eq_true rfl) (Nat.le_of_ble_eq_true rfl) ⟨rfl, rfl⟩

set_option maxHeartbeats 4000000 in
set_option maxRecDepth 100000 in
theorem c_PS_isNear {M : mg_M} {v0 : Int32} : mg_Ct Y_PS_isNear { frames := 0, cells := 0, slots := 0, locals := 0 } [.int v0] M (fun v M' => v = some (.int (bI (isNr v0))) ∧ M' = M) := by
  refine mg_met [some (.int v0)] (by decide +kernel) rfl (Nat.le_of_ble_eq_true rfl) ?_
  intro X hR _
  refine mg_iload_n d_PS_isNear_0 rfl rfl ?_
  refine mg_sipush (v := -1000) d_PS_isNear_1 (by decide) ?_
  refine mg_icmp_lt (tgt := 18) d_PS_isNear_4 (by decide) (fun c_4 => ?_) (fun c_4 => ?_)
  · refine mg_iconst (v := 0) d_PS_isNear_18 (by decide) ?_
    exact mg_ireturn d_PS_isNear_19 rfl rfl (Nat.le_of_ble_eq_true rfl) (Nat.le_of_ble_eq_true rfl) ⟨by simp only [isNr, c_4, not_true_eq_false, decide_false, Bool.false_and]; rfl, rfl⟩
  · refine mg_iload_n d_PS_isNear_7 rfl rfl ?_
    refine mg_sipush (v := 1000) d_PS_isNear_8 (by decide) ?_
    refine mg_icmp_gt (tgt := 18) d_PS_isNear_11 (by decide) (fun c_11 => ?_) (fun c_11 => ?_)
    · refine mg_iconst (v := 0) d_PS_isNear_18 (by decide) ?_
      exact mg_ireturn d_PS_isNear_19 rfl rfl (Nat.le_of_ble_eq_true rfl) (Nat.le_of_ble_eq_true rfl) ⟨by simp only [isNr, c_11, not_true_eq_false, decide_false, Bool.and_false]; rfl, rfl⟩
    · refine mg_iconst (v := 1) d_PS_isNear_14 (by decide) ?_
      refine mg_goto (tgt := 19) d_PS_isNear_15 (by decide) ?_
      exact mg_ireturn d_PS_isNear_19 rfl rfl (Nat.le_of_ble_eq_true rfl) (Nat.le_of_ble_eq_true rfl) ⟨by simp only [isNr, c_4, c_11, not_false_eq_true, decide_true, Bool.and_true]; rfl, rfl⟩

set_option maxHeartbeats 4000000 in
set_option maxRecDepth 100000 in
theorem c_PS_generatorAt_in {M : mg_M} {ng np nk : Nat} {lk fg fp : Value} {wa fv : Int32} {le : Bool} {sm0 : Int64} {j : Nat} (hO : M 1 = some (psF ng np lk nk wa fg fp fv le sm0)) (hA : M 2 = some (arE 1 20 (gA 100 ng))) (hj : j < ng) (hn : ng ≤ 20) : mg_Ct Y_PS_generatorAt { frames := 0, cells := 0, slots := 0, locals := 0 } [.ref 1, .int (nI j)] M (fun v M' => v = some (.ref (100 + j)) ∧ M' = M) := by
  refine mg_met [some (.ref 1), some (.int (nI j))] (by decide +kernel) rfl (Nat.le_of_ble_eq_true rfl) ?_
  intro X hR _
  refine mg_iload_n d_PS_generatorAt_0 rfl rfl ?_
  refine mg_if_lt (tgt := 30) d_PS_generatorAt_1 (by decide) (fun c_1 => ?_) (fun c_1 => ?_)
  · exact absurd c_1 (nI_pos (by omega))
  · refine mg_iload_n d_PS_generatorAt_4 rfl rfl ?_
    first | refine mg_aload_n d_PS_generatorAt_5 rfl rfl ?_ | refine mg_aload_nN d_PS_generatorAt_5 rfl rfl ?_
    refine mg_getfield fl_PS_44 d_PS_generatorAt_6 (by first | exact hO | exact hA) rfl ?_
    refine mg_icmp_ge (tgt := 30) d_PS_generatorAt_9 (by decide) (fun c_9 => ?_) (fun c_9 => ?_)
    · exact absurd c_9 (nI_ge hj (by omega))
    · refine mg_iload_n d_PS_generatorAt_12 rfl rfl ?_
      first | refine mg_aload_n d_PS_generatorAt_13 rfl rfl ?_ | refine mg_aload_nN d_PS_generatorAt_13 rfl rfl ?_
      refine mg_getfield fl_PS_11 d_PS_generatorAt_14 (by first | exact hO | exact hA) rfl ?_
      refine mg_arrlen (v := nI 20) rfl d_PS_generatorAt_17 (by first | exact hO | exact hA) rfl ?_
      refine mg_icmp_ge (tgt := 30) d_PS_generatorAt_18 (by decide) (fun c_18 => ?_) (fun c_18 => ?_)
      · exact absurd c_18 (nI_ge (by omega : j < 20) (by decide))
      · have hin : vp_in (nI j) 20 := vp_in_nI (by omega) (by decide)
        first | refine mg_aload_n d_PS_generatorAt_21 rfl rfl ?_ | refine mg_aload_nN d_PS_generatorAt_21 rfl rfl ?_
        refine mg_getfield fl_PS_11 d_PS_generatorAt_22 (by first | exact hO | exact hA) rfl ?_
        refine mg_iload_n d_PS_generatorAt_25 rfl rfl ?_
        refine mg_aaload rfl d_PS_generatorAt_26 hA hin ?_
        refine mg_eqv (gA_in hj (by omega)) ?_
        refine mg_goto (tgt := 31) d_PS_generatorAt_27 (by decide) ?_
        exact mg_areturn d_PS_generatorAt_31 rfl (Or.inr ⟨_, rfl⟩) (Nat.le_of_ble_eq_true rfl) (Nat.le_of_ble_eq_true rfl) ⟨rfl, rfl⟩

set_option maxHeartbeats 4000000 in
set_option maxRecDepth 100000 in
theorem c_PS_generatorAt_out {M : mg_M} {ng np nk : Nat} {lk fg fp : Value} {wa fv : Int32} {le : Bool} {sm0 : Int64} {i : Int32} (hO : M 1 = some (psF ng np lk nk wa fg fp fv le sm0)) (hi : i < 0 ∨ nI ng ≤ i) : mg_Ct Y_PS_generatorAt { frames := 0, cells := 0, slots := 0, locals := 0 } [.ref 1, .int i] M (fun v M' => v = some .null ∧ M' = M) := by
  refine mg_met [some (.ref 1), some (.int i)] (by decide +kernel) rfl (Nat.le_of_ble_eq_true rfl) ?_
  intro X hR _
  refine mg_iload_n d_PS_generatorAt_0 rfl rfl ?_
  refine mg_if_lt (tgt := 30) d_PS_generatorAt_1 (by decide) (fun c_1 => ?_) (fun c_1 => ?_)
  · refine mg_aconst_null d_PS_generatorAt_30 ?_
    exact mg_areturn d_PS_generatorAt_31 rfl (Or.inl rfl) (Nat.le_of_ble_eq_true rfl) (Nat.le_of_ble_eq_true rfl) ⟨rfl, rfl⟩
  · refine mg_iload_n d_PS_generatorAt_4 rfl rfl ?_
    first | refine mg_aload_n d_PS_generatorAt_5 rfl rfl ?_ | refine mg_aload_nN d_PS_generatorAt_5 rfl rfl ?_
    refine mg_getfield fl_PS_44 d_PS_generatorAt_6 hO rfl ?_
    refine mg_icmp_ge (tgt := 30) d_PS_generatorAt_9 (by decide) (fun c_9 => ?_) (fun c_9 => ?_)
    · refine mg_aconst_null d_PS_generatorAt_30 ?_
      exact mg_areturn d_PS_generatorAt_31 rfl (Or.inl rfl) (Nat.le_of_ble_eq_true rfl) (Nat.le_of_ble_eq_true rfl) ⟨rfl, rfl⟩
    · exact absurd hi (fun h => h.elim c_1 c_9)

set_option maxHeartbeats 4000000 in
set_option maxRecDepth 100000 in
theorem c_PS_propertyAt_in {M : mg_M} {ng np nk : Nat} {lk fg fp : Value} {wa fv : Int32} {le : Bool} {sm0 : Int64} {j : Nat} (hO : M 1 = some (psF ng np lk nk wa fg fp fv le sm0)) (hA : M 3 = some (arE 2 10 (gA 150 np))) (hj : j < np) (hn : np ≤ 10) : mg_Ct Y_PS_propertyAt { frames := 0, cells := 0, slots := 0, locals := 0 } [.ref 1, .int (nI j)] M (fun v M' => v = some (.ref (150 + j)) ∧ M' = M) := by
  refine mg_met [some (.ref 1), some (.int (nI j))] (by decide +kernel) rfl (Nat.le_of_ble_eq_true rfl) ?_
  intro X hR _
  refine mg_iload_n d_PS_propertyAt_0 rfl rfl ?_
  refine mg_if_lt (tgt := 30) d_PS_propertyAt_1 (by decide) (fun c_1 => ?_) (fun c_1 => ?_)
  · exact absurd c_1 (nI_pos (by omega))
  · refine mg_iload_n d_PS_propertyAt_4 rfl rfl ?_
    first | refine mg_aload_n d_PS_propertyAt_5 rfl rfl ?_ | refine mg_aload_nN d_PS_propertyAt_5 rfl rfl ?_
    refine mg_getfield fl_PS_55 d_PS_propertyAt_6 (by first | exact hO | exact hA) rfl ?_
    refine mg_icmp_ge (tgt := 30) d_PS_propertyAt_9 (by decide) (fun c_9 => ?_) (fun c_9 => ?_)
    · exact absurd c_9 (nI_ge hj (by omega))
    · refine mg_iload_n d_PS_propertyAt_12 rfl rfl ?_
      first | refine mg_aload_n d_PS_propertyAt_13 rfl rfl ?_ | refine mg_aload_nN d_PS_propertyAt_13 rfl rfl ?_
      refine mg_getfield fl_PS_17 d_PS_propertyAt_14 (by first | exact hO | exact hA) rfl ?_
      refine mg_arrlen (v := nI 10) rfl d_PS_propertyAt_17 (by first | exact hO | exact hA) rfl ?_
      refine mg_icmp_ge (tgt := 30) d_PS_propertyAt_18 (by decide) (fun c_18 => ?_) (fun c_18 => ?_)
      · exact absurd c_18 (nI_ge (by omega : j < 10) (by decide))
      · have hin : vp_in (nI j) 10 := vp_in_nI (by omega) (by decide)
        first | refine mg_aload_n d_PS_propertyAt_21 rfl rfl ?_ | refine mg_aload_nN d_PS_propertyAt_21 rfl rfl ?_
        refine mg_getfield fl_PS_17 d_PS_propertyAt_22 (by first | exact hO | exact hA) rfl ?_
        refine mg_iload_n d_PS_propertyAt_25 rfl rfl ?_
        refine mg_aaload rfl d_PS_propertyAt_26 hA hin ?_
        refine mg_eqv (gA_in hj (by omega)) ?_
        refine mg_goto (tgt := 31) d_PS_propertyAt_27 (by decide) ?_
        exact mg_areturn d_PS_propertyAt_31 rfl (Or.inr ⟨_, rfl⟩) (Nat.le_of_ble_eq_true rfl) (Nat.le_of_ble_eq_true rfl) ⟨rfl, rfl⟩

set_option maxHeartbeats 4000000 in
set_option maxRecDepth 100000 in
theorem c_PS_propertyAt_out {M : mg_M} {ng np nk : Nat} {lk fg fp : Value} {wa fv : Int32} {le : Bool} {sm0 : Int64} {i : Int32} (hO : M 1 = some (psF ng np lk nk wa fg fp fv le sm0)) (hi : i < 0 ∨ nI np ≤ i) : mg_Ct Y_PS_propertyAt { frames := 0, cells := 0, slots := 0, locals := 0 } [.ref 1, .int i] M (fun v M' => v = some .null ∧ M' = M) := by
  refine mg_met [some (.ref 1), some (.int i)] (by decide +kernel) rfl (Nat.le_of_ble_eq_true rfl) ?_
  intro X hR _
  refine mg_iload_n d_PS_propertyAt_0 rfl rfl ?_
  refine mg_if_lt (tgt := 30) d_PS_propertyAt_1 (by decide) (fun c_1 => ?_) (fun c_1 => ?_)
  · refine mg_aconst_null d_PS_propertyAt_30 ?_
    exact mg_areturn d_PS_propertyAt_31 rfl (Or.inl rfl) (Nat.le_of_ble_eq_true rfl) (Nat.le_of_ble_eq_true rfl) ⟨rfl, rfl⟩
  · refine mg_iload_n d_PS_propertyAt_4 rfl rfl ?_
    first | refine mg_aload_n d_PS_propertyAt_5 rfl rfl ?_ | refine mg_aload_nN d_PS_propertyAt_5 rfl rfl ?_
    refine mg_getfield fl_PS_55 d_PS_propertyAt_6 hO rfl ?_
    refine mg_icmp_ge (tgt := 30) d_PS_propertyAt_9 (by decide) (fun c_9 => ?_) (fun c_9 => ?_)
    · refine mg_aconst_null d_PS_propertyAt_30 ?_
      exact mg_areturn d_PS_propertyAt_31 rfl (Or.inl rfl) (Nat.le_of_ble_eq_true rfl) (Nat.le_of_ble_eq_true rfl) ⟨rfl, rfl⟩
    · exact absurd hi (fun h => h.elim c_1 c_9)

def vdS (p : pN) (σ : dS) : Int32 := if σ.2.2.1 = true then 4 else vdF p σ.2.1
def runR (gs : List gN) (ys : List Int32) (z : Int32) (i : Nat) (x : Int64) (lm : Nat → Int32) : dS := giveF gs (0, ys, z) 8 i ([], [], false, x, lm)
set_option maxHeartbeats 4000000 in
set_option maxRecDepth 100000 in
theorem c_PS_verdict {M : mg_M} {ng np nk : Nat} {lk fg fp : Value} {wa fv : Int32} {le : Bool} {sm0 : Int64} {hp : Nat} {p : pN} {md : dM} {σ : dS} (hO : M 1 = some (psF ng np lk nk wa fg fp fv le sm0)) (hD : isD M 12 md σ) (hP : M hp = some (prE p)) : mg_Ct Y_PS_verdictOfDraws { frames := 3, cells := 0, slots := 0, locals := 67 } [.ref 1, .ref hp] M (fun v M' => v = some (.int (vdS p σ)) ∧ M' = M) := by
  obtain ⟨cs, ns, il, x, lm⟩ := σ
  obtain ⟨kd, kk, kc⟩ := p
  refine mg_met [some (.ref 1), some (.ref hp)] (by decide +kernel) rfl (Nat.le_of_ble_eq_true rfl) ?_
  intro X hR _
  first | refine mg_aload_n d_PS_verdictOfDraws_0 rfl rfl ?_ | refine mg_aload_nN d_PS_verdictOfDraws_0 rfl rfl ?_
  refine mg_getfield fl_PS_40 d_PS_verdictOfDraws_1 (by first | exact hO | exact hD.1) rfl ?_
  refine mg_getfield fl_PS_149 d_PS_verdictOfDraws_4 (by first | exact hO | exact hD.1) rfl ?_
  refine mg_if_eq (tgt := 14) d_PS_verdictOfDraws_7 (by decide) (fun c_7 => ?_) (fun c_7 => ?_)
  · obtain rfl := bI_f c_7
    first | refine mg_aload_n d_PS_verdictOfDraws_14 rfl rfl ?_ | refine mg_aload_nN d_PS_verdictOfDraws_14 rfl rfl ?_
    first | refine mg_aload_n d_PS_verdictOfDraws_15 rfl rfl ?_ | refine mg_aload_nN d_PS_verdictOfDraws_15 rfl rfl ?_
    refine mg_getfield fl_PS_40 d_PS_verdictOfDraws_16 (by first | exact hO | exact hD.1) rfl ?_
    refine mg_getfield fl_PS_122 d_PS_verdictOfDraws_19 (by first | exact hO | exact hD.1) rfl ?_
    refine mg_callV (vl_PS_197 rfl) d_PS_verdictOfDraws_22 hP rfl rfl (c_Pr_judge hP hD.2.2.1) rfl rfl (by rw [hR]; decide) (by rw [hR]; decide) (Nat.le_of_ble_eq_true rfl) ?_
    rintro v M2 ⟨rfl, rfl⟩
    exact mg_ireturn d_PS_verdictOfDraws_25 rfl rfl (Nat.le_of_ble_eq_true rfl) (Nat.le_of_ble_eq_true rfl) ⟨by simp only [vdS]; rfl, rfl⟩
  · obtain rfl := bI_t c_7
    refine mg_iconst (v := 4) d_PS_verdictOfDraws_10 (by decide) ?_
    refine mg_goto (tgt := 25) d_PS_verdictOfDraws_11 (by decide) ?_
    exact mg_ireturn d_PS_verdictOfDraws_25 rfl rfl (Nat.le_of_ble_eq_true rfl) (Nat.le_of_ble_eq_true rfl) ⟨by simp only [vdS, if_true], rfl⟩

theorem gv_PS {Y : mg_Y} (h : mg_own Y = "PropertyShrink") : mg_GV Y 145 := ⟨ul_PS_145_IR h, ul_PS_145_LO h, ul_PS_145_PO h, ul_PS_145_OO h, ul_PS_145_KO h, ul_PS_145_AT h⟩
theorem wf_dp {gs : List gN} (hw : wfG gs) {i : Nat} {g : gN} (hg : gs[i]? = some g) : g.1 ≤ 5 ∧ g.2.2.2 ≤ 8 := by
  obtain ⟨k, a, b, dp⟩ := g
  have h := hw.2 i k a b dp hg
  exact ⟨h.1, h.2.2.1⟩
set_option maxHeartbeats 4000000 in
set_option maxRecDepth 100000 in
theorem c_PS_replayRow {M : mg_M} {ng np nk : Nat} {lk fg fp : Value} {wa fv : Int32} {le : Bool} {sm0 : Int64} {gs : List gN} {i hp h : Nat} {g : gN} {p : pN} {how z : Int32} {gv cs ns ys : List Int32} {il : Bool} {x : Int64} {lm : Nat → Int32} (hw : wfG gs) (hg : gs[i]? = some g) (hO : M 1 = some (psF ng np lk nk wa fg fp fv le sm0)) (hG : isG M gs) (hD : isD M 12 (how, gv, z) (cs, ns, il, x, lm)) (hP : M hp = some (prE p)) (hp0 : 20 ≤ hp) (hY : isI M h ys) (hh : h + 2 ≤ 12 ∨ 20 ≤ h) : mg_Ct Y_PS_replayRow { frames := 11, cells := 0, slots := 0, locals := 259 } [.ref 1, .ref (100 + i), .ref hp, .ref h] M (fun v M' => v = some (.int (vdS p (runR gs ys z i x lm))) ∧ isD M' 12 (0, ys, z) (runR gs ys z i x lm) ∧ sm 12 20 M M') := by
  refine mg_met [some (.ref 1), some (.ref (100 + i)), some (.ref hp), some (.ref h)] (by decide +kernel) rfl (Nat.le_of_ble_eq_true rfl) ?_
  intro X hR _
  first | refine mg_aload_n d_PS_replayRow_0 rfl rfl ?_ | refine mg_aload_nN d_PS_replayRow_0 rfl rfl ?_
  refine mg_getfield fl_PS_40 d_PS_replayRow_1 hO rfl ?_
  first | refine mg_aload_n d_PS_replayRow_4 rfl rfl ?_ | refine mg_aload_nN d_PS_replayRow_4 rfl rfl ?_
  refine mg_callV (vl_PS_190 rfl) d_PS_replayRow_5 hD.1 rfl rfl (c_Dr_beginRow hD hY hh) rfl rfl (by rw [hR]; decide) (by rw [hR]; decide) (Nat.le_of_ble_eq_true rfl) ?_
  rintro v M2 ⟨rfl, hD2, hs2⟩
  have hO2 := (hs2 1 (by omega)).trans hO
  have hG2 := hG.fr hs2 (by omega)
  first | refine mg_aload_n d_PS_replayRow_8 rfl rfl ?_ | refine mg_aload_nN d_PS_replayRow_8 rfl rfl ?_
  first | refine mg_aload_n d_PS_replayRow_9 rfl rfl ?_ | refine mg_aload_nN d_PS_replayRow_9 rfl rfl ?_
  refine mg_getfield fl_PS_40 d_PS_replayRow_10 hO2 rfl ?_
  refine mg_callG (gv_PS rfl) d_PS_replayRow_13 hG2 hg (wf_dp hw hg).1 (c_give hw _ 8 i g hg (wf_dp hw hg).2 8 _ _ (wf_dp hw hg).2 hG2 hD2) rfl (by rw [hR]; have := (wf_dp hw hg).2; constructor <;> simp only [] <;> omega) (by rw [hR]; exact ⟨Nat.le_of_ble_eq_true rfl, Nat.le_of_ble_eq_true rfl⟩) (Nat.le_of_ble_eq_true rfl) ?_
  rintro v M3 ⟨rfl, hD3, hs3⟩
  have hO3 := (hs3 1 (by omega)).trans hO2
  have hP3 := (hs3 hp (by omega)).trans ((hs2 hp (by omega)).trans hP)
  first | refine mg_aload_n d_PS_replayRow_16 rfl rfl ?_ | refine mg_aload_nN d_PS_replayRow_16 rfl rfl ?_
  first | refine mg_aload_n d_PS_replayRow_17 rfl rfl ?_ | refine mg_aload_nN d_PS_replayRow_17 rfl rfl ?_
  refine mg_callV (vl_PS_193 rfl) d_PS_replayRow_18 hO3 rfl rfl (c_PS_verdict hO3 hD3 hP3) rfl rfl (by rw [hR]; decide) (by rw [hR]; decide) (Nat.le_of_ble_eq_true rfl) ?_
  rintro v M4 ⟨rfl, rfl⟩
  exact mg_ireturn d_PS_replayRow_21 rfl rfl (Nat.le_of_ble_eq_true rfl) (Nat.le_of_ble_eq_true rfl) ⟨rfl, hD3, hs2.tr hs3⟩

set_option maxHeartbeats 4000000 in
set_option maxRecDepth 100000 in
theorem c_PS_takeRow {M : mg_M} {ng np nk : Nat} {lk fg fp : Value} {wa fv : Int32} {le : Bool} {sm0 : Int64} {md : dM} {σ : dS} {rw0 nu : List Int32} (hO : M 1 = some (psF ng np lk nk wa fg fp fv le sm0)) (hD : isD M 12 md σ) (hI : isI M 4 rw0) (hN : isI M 6 nu) : mg_Ct Y_PS_takeRow { frames := 3, cells := 0, slots := 0, locals := 67 } [.ref 1] M (fun v M' => v = none ∧ isI M' 4 σ.1 ∧ isI M' 6 σ.2.1 ∧ sm 4 8 M M') := by
  refine mg_met [some (.ref 1)] (by decide +kernel) rfl (Nat.le_of_ble_eq_true rfl) ?_
  intro X hR _
  first | refine mg_aload_n d_PS_takeRow_0 rfl rfl ?_ | refine mg_aload_nN d_PS_takeRow_0 rfl rfl ?_
  refine mg_getfield fl_PS_24 d_PS_takeRow_1 (by first | exact hO | exact hD.1) rfl ?_
  first | refine mg_aload_n d_PS_takeRow_4 rfl rfl ?_ | refine mg_aload_nN d_PS_takeRow_4 rfl rfl ?_
  refine mg_getfield fl_PS_40 d_PS_takeRow_5 (by first | exact hO | exact hD.1) rfl ?_
  refine mg_getfield fl_PS_227 d_PS_takeRow_8 (by first | exact hO | exact hD.1) rfl ?_
  refine mg_callV (vl_PS_123 rfl) d_PS_takeRow_11 (by obtain ⟨_, e1, -⟩ := hI; exact e1) rfl rfl (c_In_copyFrom hI hD.2.1 (by omega)) rfl rfl (by rw [hR]; decide) (by rw [hR]; decide) (Nat.le_of_ble_eq_true rfl) ?_
  rintro v M2 ⟨rfl, hI2, hs2⟩
  have hO2 := (hs2 1 (by omega)).trans hO
  have hD2 := hD.fr hs2 (by omega)
  have hN2 := hN.sm hs2 (by omega)
  first | refine mg_aload_n d_PS_takeRow_14 rfl rfl ?_ | refine mg_aload_nN d_PS_takeRow_14 rfl rfl ?_
  refine mg_getfield fl_PS_28 d_PS_takeRow_15 hO2 rfl ?_
  first | refine mg_aload_n d_PS_takeRow_18 rfl rfl ?_ | refine mg_aload_nN d_PS_takeRow_18 rfl rfl ?_
  refine mg_getfield fl_PS_40 d_PS_takeRow_19 hO2 rfl ?_
  refine mg_getfield fl_PS_122 d_PS_takeRow_22 hD2.1 rfl ?_
  refine mg_callV (vl_PS_123 rfl) d_PS_takeRow_25 (by obtain ⟨_, e1, -⟩ := hN2; exact e1) rfl rfl (c_In_copyFrom hN2 hD2.2.2.1 (by omega)) rfl rfl (by rw [hR]; decide) (by rw [hR]; decide) (Nat.le_of_ble_eq_true rfl) ?_
  rintro v M3 ⟨rfl, hN3, hs3⟩
  exact mg_return d_PS_takeRow_28 rfl (Nat.le_of_ble_eq_true rfl) (Nat.le_of_ble_eq_true rfl) ⟨rfl, hI2.sm hs3 (by omega), hN3, (hs2.wd (by omega) (by omega)).tr (hs3.wd (by omega) (by omega))⟩

set_option maxHeartbeats 4000000 in
set_option maxRecDepth 100000 in
theorem c_PS_takeFound {M : mg_M} {ng np nk : Nat} {lk fg fp : Value} {wa fv : Int32} {le : Bool} {sm0 : Int64} {md : dM} {σ : dS} {rw0 nu : List Int32} {gg pp : Nat} {vv : Int32} (hO : M 1 = some (psF ng np lk nk wa fg fp fv le sm0)) (hD : isD M 12 md σ) (hI : isI M 4 rw0) (hN : isI M 6 nu) : mg_Ct Y_PS_takeFound { frames := 4, cells := 0, slots := 0, locals := 87 } [.ref 1, .ref gg, .ref pp, .int vv] M (fun v M' => v = none ∧ M' 1 = some (psF ng np lk nk wa (.ref gg) (.ref pp) vv false sm0) ∧ isI M' 4 σ.1 ∧ isI M' 6 σ.2.1 ∧ ∀ k, k ≠ 1 → (k < 4 ∨ 8 ≤ k) → M' k = M k) := by
  refine mg_met [some (.ref 1), some (.ref gg), some (.ref pp), some (.int vv)] (by decide +kernel) rfl (Nat.le_of_ble_eq_true rfl) ?_
  intro X hR _
  first | refine mg_aload_n d_PS_takeFound_0 rfl rfl ?_ | refine mg_aload_nN d_PS_takeFound_0 rfl rfl ?_
  first | refine mg_aload_n d_PS_takeFound_1 rfl rfl ?_ | refine mg_aload_nN d_PS_takeFound_1 rfl rfl ?_
  refine mg_putfield (fw_PS_92 _) d_PS_takeFound_2 hO (Nat.le_of_ble_eq_true rfl) (fun _ => ⟨rfl, rfl⟩) ?_
  first | refine mg_aload_n d_PS_takeFound_5 rfl rfl ?_ | refine mg_aload_nN d_PS_takeFound_5 rfl rfl ?_
  first | refine mg_aload_n d_PS_takeFound_6 rfl rfl ?_ | refine mg_aload_nN d_PS_takeFound_6 rfl rfl ?_
  refine mg_putfield (fw_PS_96 _) d_PS_takeFound_7 (mg_up_s _ _ _) (Nat.le_of_ble_eq_true rfl) (fun _ => ⟨rfl, rfl⟩) ?_
  rw [mg_up_up]
  first | refine mg_aload_n d_PS_takeFound_10 rfl rfl ?_ | refine mg_aload_nN d_PS_takeFound_10 rfl rfl ?_
  refine mg_iload_n d_PS_takeFound_11 rfl rfl ?_
  refine mg_putfield (fw_PS_115 _) d_PS_takeFound_12 (mg_up_s _ _ _) (Nat.le_of_ble_eq_true rfl) (fun _ => ⟨rfl, rfl⟩) ?_
  rw [mg_up_up]
  first | refine mg_aload_n d_PS_takeFound_15 rfl rfl ?_ | refine mg_aload_nN d_PS_takeFound_15 rfl rfl ?_
  refine mg_iconst (v := 0) d_PS_takeFound_16 (by decide) ?_
  refine mg_putfield (fw_PS_111 _) d_PS_takeFound_17 (mg_up_s _ _ _) (Nat.le_of_ble_eq_true rfl) (fun _ => ⟨rfl, rfl⟩) ?_
  rw [mg_up_up]
  refine mg_eqM (M' := mg_up M 1 (psF ng np lk nk wa (.ref gg) (.ref pp) vv false sm0)) rfl ?_
  first | refine mg_aload_n d_PS_takeFound_20 rfl rfl ?_ | refine mg_aload_nN d_PS_takeFound_20 rfl rfl ?_
  refine mg_callV (vl_PS_104 rfl) d_PS_takeFound_21 (mg_up_s _ _ _) rfl rfl (c_PS_takeRow (lk := lk) (nk := nk) (mg_up_s _ _ _) (hD.up (by omega)) (hI.up (by omega) (by omega)) (hN.up (by omega) (by omega))) rfl rfl (by rw [hR]; decide) (by rw [hR]; decide) (Nat.le_of_ble_eq_true rfl) ?_
  rintro v M2 ⟨rfl, hI2, hN2, hs2⟩
  exact mg_return d_PS_takeFound_24 rfl (Nat.le_of_ble_eq_true rfl) (Nat.le_of_ble_eq_true rfl) ⟨rfl, by rw [hs2 1 (by omega), mg_up_s], hI2, hN2, fun k h1 h2 => by rw [hs2 k (by omega), mg_up_n _ _ h1]⟩

