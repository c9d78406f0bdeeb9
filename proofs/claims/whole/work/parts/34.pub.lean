/-! THE CLASS, whole: its state, and the calls that read it or replay a row -/
abbrev fO : Type := Option (Nat × Nat × Int32)
def foG (f : fO) : Value := match f with
  | none => .null
  | some (i, _, _) => .ref (100 + i)
def foP (f : fO) : Value := match f with
  | none => .null
  | some (_, j, _) => .ref (150 + j)
def foV (f : fO) : Int32 := match f with
  | none => 0
  | some (_, _, v) => v
def isR (M : mg_M) (ps : List pN) : Prop := ∀ (i : Nat) (p : pN), ps[i]? = some p → M (150 + i) = some (prE p)
def isFr (M : mg_M) (a b c : Nat) : Prop := (∀ k, 100 + a ≤ k → k < 120 → M k = none) ∧ (∀ k, 150 + b ≤ k → k < 160 → M k = none) ∧ ∀ k, 200 + 3 * c ≤ k → k < 800 → M k = none
/-- far out all handles are free -/
def isJ (M : mg_M) : Prop := ∃ T, 10000 ≤ T ∧ ∀ k, T ≤ k → M k = none
def isPS (M : mg_M) (gs : List gN) (ps : List pN) (ks : List kN) (wa : Nat) (fo : fO) (le : Bool) (row nu pu : List Int32) (s : Int64) : Prop :=
  M 1 = some (psF gs.length ps.length (kpV ks.length) ks.length (nI wa) (foG fo) (foP fo) (foV fo) le s) ∧ M 2 = some (arE 1 20 (gA 100 gs.length)) ∧ M 3 = some (arE 2 10 (gA 150 ps.length)) ∧ isG M gs ∧ isR M ps ∧ isK M ks ∧ isI M 4 row ∧ isI M 6 nu ∧ isI M 8 pu ∧ (∃ st, isI M 10 st) ∧ (∃ md σ, isD M 12 md σ) ∧ isFr M gs.length ps.length ks.length ∧ isJ M
/-- what lies behind 20, and the two arrays, are as they were -/
def smB (M M' : mg_M) : Prop := ∀ k, (k = 2 ∨ k = 3 ∨ 20 ≤ k) → M' k = M k
theorem isPS.mk' {M M' : mg_M} {gs : List gN} {ps : List pN} {ks : List kN} {wa wa' : Nat} {fo fo' : fO} {le le' : Bool} {row nu pu row' nu' pu' : List Int32} {s s' : Int64} (h : isPS M gs ps ks wa fo le row nu pu s) (hO : M' 1 = some (psF gs.length ps.length (kpV ks.length) ks.length (nI wa') (foG fo') (foP fo') (foV fo') le' s')) (h4 : isI M' 4 row') (h6 : isI M' 6 nu') (h8 : isI M' 8 pu') (h10 : ∃ st, isI M' 10 st) (h12 : ∃ md σ, isD M' 12 md σ) (hs : smB M M') : isPS M' gs ps ks wa' fo' le' row' nu' pu' s' := by
  obtain ⟨-, a2, a3, aG, aR, aK, -, -, -, -, -, aF, T, aT, aJ⟩ := h
  refine ⟨hO, by rw [hs 2 (by omega)]; exact a2, by rw [hs 3 (by omega)]; exact a3, fun i g hg => by rw [hs _ (by omega)]; exact aG i g hg, fun i p hp => by rw [hs _ (by omega)]; exact aR i p hp, fun i k hk => ?_, h4, h6, h8, h10, h12, ?_, T, aT, fun k hk => by rw [hs k (by omega)]; exact aJ k hk⟩
  · obtain ⟨b1, b2⟩ := aK i k hk
    refine ⟨by rw [hs _ (by omega)]; exact b1, ?_⟩
    obtain ⟨f, c1, c2, c3⟩ := b2
    exact ⟨f, by rw [hs _ (by omega)]; exact c1, by rw [hs _ (by omega)]; exact c2, c3⟩
  · exact ⟨fun k h1 h2 => by rw [hs k (by omega)]; exact aF.1 k h1 h2, fun k h1 h2 => by rw [hs k (by omega)]; exact aF.2.1 k h1 h2, fun k h1 h2 => by rw [hs k (by omega)]; exact aF.2.2 k h1 h2⟩
/-- nothing but what is the class's has changed -/
def smC (M M' : mg_M) : Prop := ∀ k, (k < 1 ∨ (1000 ≤ k ∧ k < 10000)) → M' k = M k
theorem smC.rf {M : mg_M} : smC M M := fun _ _ => rfl
theorem smC.of {lo hi : Nat} {M M' : mg_M} (h : sm lo hi M M') (h1 : 1 ≤ lo) (h2 : hi ≤ 1000) : smC M M' := fun k hk => h k (by omega)
theorem smC.tr {M M' M'' : mg_M} (h : smC M M') (h' : smC M' M'') : smC M M'' := fun q hq => (h' q hq).trans (h q hq)
theorem isPS.frM {M M' : mg_M} {gs : List gN} {ps : List pN} {ks : List kN} {wa : Nat} {fo : fO} {le : Bool} {row nu pu : List Int32} {s : Int64} (h : isPS M gs ps ks wa fo le row nu pu s) (hg : gs.length ≤ 20) (hp : ps.length ≤ 10) (hk : ks.length ≤ 200) (hs : sm 1000 10000 M M') : isPS M' gs ps ks wa fo le row nu pu s := by
  obtain ⟨a1, a2, a3, aG, aR, aK, a4, a6, a8, ⟨st, a10⟩, ⟨md, σ, a12⟩, aF, T, aT, aJ⟩ := h
  refine ⟨by rw [hs 1 (by omega)]; exact a1, by rw [hs 2 (by omega)]; exact a2, by rw [hs 3 (by omega)]; exact a3, aG.fr hs (by omega), fun i p hp2 => ?_, fun i k hk2 => ?_, a4.sm hs (by omega), a6.sm hs (by omega), a8.sm hs (by omega), ⟨st, a10.sm hs (by omega)⟩, ⟨md, σ, a12.fr hs (by omega)⟩, ⟨fun k h1 h2 => by rw [hs k (by omega)]; exact aF.1 k h1 h2, fun k h1 h2 => by rw [hs k (by omega)]; exact aF.2.1 k h1 h2, fun k h1 h2 => by rw [hs k (by omega)]; exact aF.2.2 k h1 h2⟩, T, aT, fun k hk3 => by rw [hs k (by omega)]; exact aJ k hk3⟩
  · have := (List.getElem?_eq_some_iff.mp hp2).1
    rw [hs _ (by omega)]; exact aR i p hp2
  · have := (List.getElem?_eq_some_iff.mp hk2).1
    obtain ⟨b1, b2⟩ := aK i k hk2
    exact ⟨by rw [hs _ (by omega)]; exact b1, b2.sm hs (by omega)⟩
def vdC (p : pN) (r : List Int32 × List Int32 × Bool) : Int32 := if r.2.2 = true then 4 else vdF p r.2.1
theorem vd_eq {p : pN} {σ : dS} {r : List Int32 × List Int32 × Bool} (h1 : σ.2.1 = r.2.1) (h2 : σ.2.2.1 = r.2.2) : vdS p σ = vdC p r := by
  unfold vdS vdC; rw [h1, h2]

set_option maxHeartbeats 4000000 in
set_option maxRecDepth 100000 in
theorem c_PS_least {M : mg_M} {gs : List gN} {ps : List pN} {ks : List kN} {wa : Nat} {fo : fO} {le : Bool} {row nu pu : List Int32} {s : Int64} (h : isPS M gs ps ks wa fo le row nu pu s) : mg_Ct Y_PS_least { frames := 0, cells := 0, slots := 0, locals := 0 } [.ref 1] M (fun v M' => v = some (.int (bI le)) ∧ M' = M) := by
  obtain ⟨hO, hA, hB, hG, hRr, hK, h4, h6, h8, ⟨st, h10⟩, ⟨md, σ, hD⟩, hF, hJ⟩ := id h
  refine mg_met [some (.ref 1)] (by decide +kernel) rfl (Nat.le_of_ble_eq_true rfl) ?_
  intro X hR _
  first | refine mg_aload_n d_PS_least_0 rfl rfl ?_ | refine mg_aload_nN d_PS_least_0 rfl rfl ?_
  refine mg_getfield fl_PS_111 d_PS_least_1 hO rfl ?_
  exact mg_ireturn d_PS_least_4 rfl (bI_nar le) (Nat.le_of_ble_eq_true rfl) (Nat.le_of_ble_eq_true rfl) ⟨rfl, rfl⟩

set_option maxHeartbeats 4000000 in
set_option maxRecDepth 100000 in
theorem c_PS_sum {M : mg_M} {gs : List gN} {ps : List pN} {ks : List kN} {wa : Nat} {fo : fO} {le : Bool} {row nu pu : List Int32} {s : Int64} (h : isPS M gs ps ks wa fo le row nu pu s) : mg_Ct Y_PS_sum { frames := 0, cells := 0, slots := 0, locals := 0 } [.ref 1] M (fun v M' => v = some (.long s) ∧ M' = M) := by
  obtain ⟨hO, hA, hB, hG, hRr, hK, h4, h6, h8, ⟨st, h10⟩, ⟨md, σ, hD⟩, hF, hJ⟩ := id h
  refine mg_met [some (.ref 1)] (by decide +kernel) rfl (Nat.le_of_ble_eq_true rfl) ?_
  intro X hR _
  first | refine mg_aload_n d_PS_sum_0 rfl rfl ?_ | refine mg_aload_nN d_PS_sum_0 rfl rfl ?_
  refine mg_getfield fl_PS_138 d_PS_sum_1 hO rfl ?_
  exact mg_lreturn d_PS_sum_4 rfl (Nat.le_of_ble_eq_true rfl) (Nat.le_of_ble_eq_true rfl) ⟨rfl, rfl⟩

set_option maxHeartbeats 4000000 in
set_option maxRecDepth 100000 in
theorem c_PS_choice {M : mg_M} {gs : List gN} {ps : List pN} {ks : List kN} {wa : Nat} {fo : fO} {le : Bool} {row nu pu : List Int32} {s : Int64} {i : Int32} (h : isPS M gs ps ks wa fo le row nu pu s) : mg_Ct Y_PS_choice { frames := 1, cells := 0, slots := 0, locals := 22 } [.ref 1, .int i] M (fun v M' => v = some (.int (atI row i (-1))) ∧ M' = M) := by
  obtain ⟨hO, hA, hB, hG, hRr, hK, h4, h6, h8, ⟨st, h10⟩, ⟨md, σ, hD⟩, hF, hJ⟩ := id h
  refine mg_met [some (.ref 1), some (.int i)] (by decide +kernel) rfl (Nat.le_of_ble_eq_true rfl) ?_
  intro X hR _
  first | refine mg_aload_n d_PS_choice_0 rfl rfl ?_ | refine mg_aload_nN d_PS_choice_0 rfl rfl ?_
  refine mg_getfield fl_PS_24 d_PS_choice_1 hO rfl ?_
  refine mg_iload_n d_PS_choice_4 rfl rfl ?_
  refine mg_iconst (v := -1) d_PS_choice_5 (by decide) ?_
  refine mg_callV (vl_PS_130 rfl) d_PS_choice_6 (by obtain ⟨_, e1, -⟩ := h4; exact e1) rfl rfl (c_In_at h4) rfl rfl (by rw [hR]; decide) (by rw [hR]; decide) (Nat.le_of_ble_eq_true rfl) ?_
  rintro v M2 ⟨rfl, rfl⟩
  exact mg_ireturn d_PS_choice_9 rfl rfl (Nat.le_of_ble_eq_true rfl) (Nat.le_of_ble_eq_true rfl) ⟨rfl, rfl⟩

set_option maxHeartbeats 4000000 in
set_option maxRecDepth 100000 in
theorem c_PS_number {M : mg_M} {gs : List gN} {ps : List pN} {ks : List kN} {wa : Nat} {fo : fO} {le : Bool} {row nu pu : List Int32} {s : Int64} {i : Int32} (h : isPS M gs ps ks wa fo le row nu pu s) : mg_Ct Y_PS_number { frames := 1, cells := 0, slots := 0, locals := 22 } [.ref 1, .int i] M (fun v M' => v = some (.int (atI nu i 0)) ∧ M' = M) := by
  obtain ⟨hO, hA, hB, hG, hRr, hK, h4, h6, h8, ⟨st, h10⟩, ⟨md, σ, hD⟩, hF, hJ⟩ := id h
  refine mg_met [some (.ref 1), some (.int i)] (by decide +kernel) rfl (Nat.le_of_ble_eq_true rfl) ?_
  intro X hR _
  first | refine mg_aload_n d_PS_number_0 rfl rfl ?_ | refine mg_aload_nN d_PS_number_0 rfl rfl ?_
  refine mg_getfield fl_PS_28 d_PS_number_1 hO rfl ?_
  refine mg_iload_n d_PS_number_4 rfl rfl ?_
  refine mg_iconst (v := 0) d_PS_number_5 (by decide) ?_
  refine mg_callV (vl_PS_130 rfl) d_PS_number_6 (by obtain ⟨_, e1, -⟩ := h6; exact e1) rfl rfl (c_In_at h6) rfl rfl (by rw [hR]; decide) (by rw [hR]; decide) (Nat.le_of_ble_eq_true rfl) ?_
  rintro v M2 ⟨rfl, rfl⟩
  exact mg_ireturn d_PS_number_9 rfl rfl (Nat.le_of_ble_eq_true rfl) (Nat.le_of_ble_eq_true rfl) ⟨rfl, rfl⟩

def sizF (what : Int32) (a b c d : Nat) : Int32 := if what = 0 then nI a else if what = 1 then nI b else if what = 2 then nI c else if what = 3 then nI d else -1
set_option maxHeartbeats 4000000 in
set_option maxRecDepth 100000 in
theorem c_PS_size {M : mg_M} {gs : List gN} {ps : List pN} {ks : List kN} {wa : Nat} {fo : fO} {le : Bool} {row nu pu : List Int32} {s : Int64} {i : Int32} (h : isPS M gs ps ks wa fo le row nu pu s) : mg_Ct Y_PS_size { frames := 1, cells := 0, slots := 0, locals := 20 } [.ref 1, .int i] M (fun v M' => v = some (.int (sizF i row.length nu.length ks.length wa)) ∧ M' = M) := by
  obtain ⟨hO, hA, hB, hG, hRr, hK, h4, h6, h8, ⟨st, h10⟩, ⟨md, σ, hD⟩, hF, hJ⟩ := id h
  refine mg_met [some (.ref 1), some (.int i)] (by decide +kernel) rfl (Nat.le_of_ble_eq_true rfl) ?_
  intro X hR _
  refine mg_iload_n d_PS_size_0 rfl rfl ?_
  by_cases k0 : i = 0
  · subst k0
    refine mg_tableIn (off := 31) (tgt := 32) d_PS_size_1 (by decide) (by decide) rfl (by decide) ?_
    first | refine mg_aload_n d_PS_size_32 rfl rfl ?_ | refine mg_aload_nN d_PS_size_32 rfl rfl ?_
    refine mg_getfield fl_PS_24 d_PS_size_33 hO rfl ?_
    refine mg_callV (vl_PS_134 rfl) d_PS_size_36 (by obtain ⟨_, e1, -⟩ := h4; exact e1) rfl rfl (c_In_length h4) rfl rfl (by rw [hR]; decide) (by rw [hR]; decide) (Nat.le_of_ble_eq_true rfl) ?_
    rintro v M2 ⟨rfl, rfl⟩
    exact mg_ireturn d_PS_size_39 rfl rfl (Nat.le_of_ble_eq_true rfl) (Nat.le_of_ble_eq_true rfl) ⟨rfl, rfl⟩
  · by_cases k1 : i = 1
    · subst k1
      refine mg_tableIn (off := 39) (tgt := 40) d_PS_size_1 (by decide) (by decide) rfl (by decide) ?_
      first | refine mg_aload_n d_PS_size_40 rfl rfl ?_ | refine mg_aload_nN d_PS_size_40 rfl rfl ?_
      refine mg_getfield fl_PS_28 d_PS_size_41 hO rfl ?_
      refine mg_callV (vl_PS_134 rfl) d_PS_size_44 (by obtain ⟨_, e1, -⟩ := h6; exact e1) rfl rfl (c_In_length h6) rfl rfl (by rw [hR]; decide) (by rw [hR]; decide) (Nat.le_of_ble_eq_true rfl) ?_
      rintro v M2 ⟨rfl, rfl⟩
      exact mg_ireturn d_PS_size_47 rfl rfl (Nat.le_of_ble_eq_true rfl) (Nat.le_of_ble_eq_true rfl) ⟨rfl, rfl⟩
    · by_cases k2 : i = 2
      · subst k2
        refine mg_tableIn (off := 47) (tgt := 48) d_PS_size_1 (by decide) (by decide) rfl (by decide) ?_
        first | refine mg_aload_n d_PS_size_48 rfl rfl ?_ | refine mg_aload_nN d_PS_size_48 rfl rfl ?_
        refine mg_getfield fl_PS_89 d_PS_size_49 hO rfl ?_
        exact mg_ireturn d_PS_size_52 rfl rfl (Nat.le_of_ble_eq_true rfl) (Nat.le_of_ble_eq_true rfl) ⟨rfl, rfl⟩
      · by_cases k3 : i = 3
        · subst k3
          refine mg_tableIn (off := 52) (tgt := 53) d_PS_size_1 (by decide) (by decide) rfl (by decide) ?_
          first | refine mg_aload_n d_PS_size_53 rfl rfl ?_ | refine mg_aload_nN d_PS_size_53 rfl rfl ?_
          refine mg_getfield fl_PS_69 d_PS_size_54 hO rfl ?_
          exact mg_ireturn d_PS_size_57 rfl rfl (Nat.le_of_ble_eq_true rfl) (Nat.le_of_ble_eq_true rfl) ⟨rfl, rfl⟩
        · have hout : i.toInt < 0 ∨ 3 < i.toInt := by
            have a0 := lv_neT k0 (a := 0) (by decide)
            have a1 := lv_neT k1 (a := 1) (by decide)
            have a2 := lv_neT k2 (a := 2) (by decide)
            have a3 := lv_neT k3 (a := 3) (by decide)
            omega
          refine mg_tableOut (tgt := 58) d_PS_size_1 hout (by decide) ?_
          refine mg_iconst (v := -1) d_PS_size_58 (by decide) ?_
          exact mg_ireturn d_PS_size_59 rfl rfl (Nat.le_of_ble_eq_true rfl) (Nat.le_of_ble_eq_true rfl) ⟨by simp only [sizF, if_neg k0, if_neg k1, if_neg k2, if_neg k3], rfl⟩

def putB (pu : List Int32) (c : Int32) : Bool := decide (¬ c < 0) && decide (pu.length < 60)
set_option maxHeartbeats 4000000 in
set_option maxRecDepth 100000 in
theorem c_PS_put {M : mg_M} {gs : List gN} {ps : List pN} {ks : List kN} {wa : Nat} {fo : fO} {le : Bool} {row nu pu : List Int32} {s : Int64} {i : Int32} (h : isPS M gs ps ks wa fo le row nu pu s) : mg_Ct Y_PS_put { frames := 1, cells := 0, slots := 0, locals := 21 } [.ref 1, .int i] M (fun v M' => v = some (.int (bI (putB pu i))) ∧ isPS M' gs ps ks wa fo le row nu (if putB pu i = true then pu ++ [i] else pu) s ∧ smC M M') := by
  obtain ⟨hO, hA, hB, hG, hRr, hK, h4, h6, h8, ⟨st, h10⟩, ⟨md, σ, hD⟩, hF, hJ⟩ := id h
  refine mg_met [some (.ref 1), some (.int i)] (by decide +kernel) rfl (Nat.le_of_ble_eq_true rfl) ?_
  intro X hR _
  refine mg_iload_n d_PS_put_0 rfl rfl ?_
  refine mg_if_lt (tgt := 19) d_PS_put_1 (by decide) (fun c_1 => ?_) (fun c_1 => ?_)
  · have hb : putB pu i = false := by simp [putB, c_1]
    refine mg_iconst (v := 0) d_PS_put_19 (by decide) ?_
    exact mg_ireturn d_PS_put_20 rfl rfl (Nat.le_of_ble_eq_true rfl) (Nat.le_of_ble_eq_true rfl) ⟨by rw [hb]; rfl, by rw [hb]; exact h, smC.rf⟩
  · first | refine mg_aload_n d_PS_put_4 rfl rfl ?_ | refine mg_aload_nN d_PS_put_4 rfl rfl ?_
    refine mg_getfield fl_PS_31 d_PS_put_5 hO rfl ?_
    refine mg_iload_n d_PS_put_8 rfl rfl ?_
    refine mg_callV (vl_PS_127 rfl) d_PS_put_9 (by obtain ⟨_, e1, -⟩ := h8; exact e1) rfl rfl (c_In_add h8) rfl rfl (by rw [hR]; decide) (by rw [hR]; decide) (Nat.le_of_ble_eq_true rfl) ?_
    rintro v M2 ⟨rfl, hI2, hs2⟩
    have hP2 : isPS M2 gs ps ks wa fo le row nu (if pu.length < 60 then pu ++ [i] else pu) s := h.mk' ((hs2 1 (by omega)).trans hO) (h4.sm hs2 (by omega)) (h6.sm hs2 (by omega)) hI2 ⟨st, h10.sm hs2 (by omega)⟩ ⟨md, σ, hD.fr hs2 (by omega)⟩ (fun k hk => hs2 k (by omega))
    have hC2 : smC M M2 := smC.of hs2 (by omega) (by omega)
    refine mg_if_eq (tgt := 19) d_PS_put_12 (by decide) (fun c_12 => ?_) (fun c_12 => ?_)
    · have hlt : ¬ pu.length < 60 := fun q => by rw [if_pos q] at c_12; exact absurd c_12 (by decide)
      have hb : putB pu i = false := by simp [putB, hlt]
      rw [if_neg hlt] at hP2
      refine mg_iconst (v := 0) d_PS_put_19 (by decide) ?_
      exact mg_ireturn d_PS_put_20 rfl rfl (Nat.le_of_ble_eq_true rfl) (Nat.le_of_ble_eq_true rfl) ⟨by rw [hb]; rfl, by rw [hb]; exact hP2, hC2⟩
    · have hlt : pu.length < 60 := by
        rcases Nat.lt_or_ge pu.length 60 with q | q
        · exact q
        · exact absurd (if_neg (show ¬ pu.length < 60 by omega)) c_12
      have hb : putB pu i = true := by simp [putB, hlt, c_1]
      rw [if_pos hlt] at hP2
      refine mg_iconst (v := 1) d_PS_put_15 (by decide) ?_
      refine mg_goto (tgt := 20) d_PS_put_16 (by decide) ?_
      exact mg_ireturn d_PS_put_20 rfl rfl (Nat.le_of_ble_eq_true rfl) (Nat.le_of_ble_eq_true rfl) ⟨by rw [hb]; rfl, by rw [hb]; exact hP2, hC2⟩

def offR (i : Int32) (n : Nat) : Prop := i < 0 ∨ nI n ≤ i
theorem offR_or (i : Int32) {n : Nat} (hn : n ≤ 20) : offR i n ∨ ∃ j, j < n ∧ i = nI j := by
  rcases pk_ix i (n := n) (by omega) with h | h | h
  · exact Or.inl (Or.inl h)
  · exact Or.inl (Or.inr h)
  · exact Or.inr h
set_option maxHeartbeats 4000000 in
set_option maxRecDepth 100000 in
theorem c_PS_replay_no1 {M : mg_M} {gs : List gN} {ps : List pN} {ks : List kN} {wa : Nat} {fo : fO} {le : Bool} {row nu pu : List Int32} {s : Int64} {i j : Int32} (h : isPS M gs ps ks wa fo le row nu pu s) (hw : wfG gs) (hpl : ps.length ≤ 10) (hi : offR i gs.length) : mg_Ct Y_PS_replay { frames := 12, cells := 0, slots := 0, locals := 282 } [.ref 1, .int i, .int j] M (fun v M' => v = some (.int (-1)) ∧ M' = M) := by
  obtain ⟨hO, hA, hB, hG, hRr, hK, h4, h6, h8, ⟨st, h10⟩, ⟨md, σ, hD⟩, hF, hJ⟩ := id h
  refine mg_met [some (.ref 1), some (.int i), some (.int j), none, none, none] (by decide +kernel) rfl (Nat.le_of_ble_eq_true rfl) ?_
  intro X hR _
  first | refine mg_aload_n d_PS_replay_0 rfl rfl ?_ | refine mg_aload_nN d_PS_replay_0 rfl rfl ?_
  refine mg_iload_n d_PS_replay_1 rfl rfl ?_
  refine mg_callV (vl_PS_61 rfl) d_PS_replay_2 hO rfl rfl (c_PS_generatorAt_out hO hi) rfl rfl (by rw [hR]; decide) (by rw [hR]; decide) (Nat.le_of_ble_eq_true rfl) ?_
  rintro v M2 ⟨rfl, rfl⟩
  first | refine mg_astore_n d_PS_replay_5 rfl (Nat.le_of_ble_eq_true rfl) rfl ?_ | refine mg_astore_nN d_PS_replay_5 rfl (Nat.le_of_ble_eq_true rfl) rfl ?_
  first | refine mg_aload_n d_PS_replay_6 rfl rfl ?_ | refine mg_aload_nN d_PS_replay_6 rfl rfl ?_
  refine mg_iload_n d_PS_replay_7 rfl rfl ?_
  rcases offR_or j (n := ps.length) (by omega) with hj | ⟨j, hj, rfl⟩
  · refine mg_callV (vl_PS_65 rfl) d_PS_replay_8 hO rfl rfl (c_PS_propertyAt_out hO hj) rfl rfl (by rw [hR]; decide) (by rw [hR]; decide) (Nat.le_of_ble_eq_true rfl) ?_
    rintro v M3 ⟨rfl, rfl⟩
    refine mg_astoreN d_PS_replay_11 (Nat.le_of_ble_eq_true rfl) rfl ?_
    refine mg_aload_nN d_PS_replay_13 rfl rfl ?_
    refine mg_ifnullN (tgt := 22) d_PS_replay_14 (by decide) ?_
    refine mg_iconst (v := -1) d_PS_replay_22 (by decide) ?_
    exact mg_ireturn d_PS_replay_23 rfl rfl (Nat.le_of_ble_eq_true rfl) (Nat.le_of_ble_eq_true rfl) ⟨rfl, rfl⟩
  · refine mg_callV (vl_PS_65 rfl) d_PS_replay_8 hO rfl rfl (c_PS_propertyAt_in hO hB hj hpl) rfl rfl (by rw [hR]; decide) (by rw [hR]; decide) (Nat.le_of_ble_eq_true rfl) ?_
    rintro v M3 ⟨rfl, rfl⟩
    refine mg_astore d_PS_replay_11 (Nat.le_of_ble_eq_true rfl) rfl ?_
    refine mg_aload_nN d_PS_replay_13 rfl rfl ?_
    refine mg_ifnullN (tgt := 22) d_PS_replay_14 (by decide) ?_
    refine mg_iconst (v := -1) d_PS_replay_22 (by decide) ?_
    exact mg_ireturn d_PS_replay_23 rfl rfl (Nat.le_of_ble_eq_true rfl) (Nat.le_of_ble_eq_true rfl) ⟨rfl, rfl⟩

set_option maxHeartbeats 4000000 in
set_option maxRecDepth 100000 in
theorem c_PS_replay_no2 {M : mg_M} {gs : List gN} {ps : List pN} {ks : List kN} {wa : Nat} {fo : fO} {le : Bool} {row nu pu : List Int32} {s : Int64} {i : Nat} {j : Int32} (h : isPS M gs ps ks wa fo le row nu pu s) (hw : wfG gs) (hi : i < gs.length) (hj : offR j ps.length) : mg_Ct Y_PS_replay { frames := 12, cells := 0, slots := 0, locals := 282 } [.ref 1, .int (nI i), .int j] M (fun v M' => v = some (.int (-1)) ∧ M' = M) := by
  obtain ⟨hO, hA, hB, hG, hRr, hK, h4, h6, h8, ⟨st, h10⟩, ⟨md, σ, hD⟩, hF, hJ⟩ := id h
  refine mg_met [some (.ref 1), some (.int (nI i)), some (.int j), none, none, none] (by decide +kernel) rfl (Nat.le_of_ble_eq_true rfl) ?_
  intro X hR _
  first | refine mg_aload_n d_PS_replay_0 rfl rfl ?_ | refine mg_aload_nN d_PS_replay_0 rfl rfl ?_
  refine mg_iload_n d_PS_replay_1 rfl rfl ?_
  refine mg_callV (vl_PS_61 rfl) d_PS_replay_2 hO rfl rfl (c_PS_generatorAt_in hO hA hi hw.1) rfl rfl (by rw [hR]; decide) (by rw [hR]; decide) (Nat.le_of_ble_eq_true rfl) ?_
  rintro v M2 ⟨rfl, rfl⟩
  first | refine mg_astore_n d_PS_replay_5 rfl (Nat.le_of_ble_eq_true rfl) rfl ?_ | refine mg_astore_nN d_PS_replay_5 rfl (Nat.le_of_ble_eq_true rfl) rfl ?_
  first | refine mg_aload_n d_PS_replay_6 rfl rfl ?_ | refine mg_aload_nN d_PS_replay_6 rfl rfl ?_
  refine mg_iload_n d_PS_replay_7 rfl rfl ?_
  refine mg_callV (vl_PS_65 rfl) d_PS_replay_8 hO rfl rfl (c_PS_propertyAt_out hO hj) rfl rfl (by rw [hR]; decide) (by rw [hR]; decide) (Nat.le_of_ble_eq_true rfl) ?_
  rintro v M3 ⟨rfl, rfl⟩
  first | refine mg_astore d_PS_replay_11 (Nat.le_of_ble_eq_true rfl) rfl ?_ | refine mg_astoreN d_PS_replay_11 (Nat.le_of_ble_eq_true rfl) rfl ?_
  first | refine mg_aload_n d_PS_replay_13 rfl rfl ?_ | refine mg_aload_nN d_PS_replay_13 rfl rfl ?_
  refine mg_ifnull d_PS_replay_14 ?_
  first | refine mg_aload d_PS_replay_17 rfl ?_ | refine mg_aloadN d_PS_replay_17 rfl ?_
  refine mg_ifnonnullN d_PS_replay_19 ?_
  refine mg_iconst (v := -1) d_PS_replay_22 (by decide) ?_
  exact mg_ireturn d_PS_replay_23 rfl rfl (Nat.le_of_ble_eq_true rfl) (Nat.le_of_ble_eq_true rfl) ⟨rfl, rfl⟩

set_option maxHeartbeats 4000000 in
set_option maxRecDepth 100000 in
theorem c_PS_replay {M : mg_M} {gs : List gN} {ps : List pN} {ks : List kN} {wa : Nat} {fo : fO} {le : Bool} {row nu pu : List Int32} {s : Int64} {i j : Nat} {g : gN} {p : pN} (h : isPS M gs ps ks wa fo le row nu pu s) (hw : wfG gs) (hpl : ps.length ≤ 10) (hg : gs[i]? = some g) (hp : ps[j]? = some p) : mg_Ct Y_PS_replay { frames := 12, cells := 0, slots := 0, locals := 282 } [.ref 1, .int (nI i), .int (nI j)] M (fun v M' => v = some (.int (vdC p (rowC gs i pu))) ∧ isPS M' gs ps ks wa fo le row (if vdC p (rowC gs i pu) = 4 then [] else (rowC gs i pu).2.1) [] s ∧ smC M M') := by
  obtain ⟨hO, hA, hB, hG, hRr, hK, h4, h6, h8, ⟨st, h10⟩, ⟨md, σ, hD⟩, hF, hJ⟩ := id h
  obtain ⟨how, gv, z⟩ := md
  obtain ⟨cs, ns, il, x, lm⟩ := σ
  have hi := (List.getElem?_eq_some_iff.mp hg).1
  have hj := (List.getElem?_eq_some_iff.mp hp).1
  refine mg_met [some (.ref 1), some (.int (nI i)), some (.int (nI j)), none, none, none] (by decide +kernel) rfl (Nat.le_of_ble_eq_true rfl) ?_
  intro X hR _
  first | refine mg_aload_n d_PS_replay_0 rfl rfl ?_ | refine mg_aload_nN d_PS_replay_0 rfl rfl ?_
  refine mg_iload_n d_PS_replay_1 rfl rfl ?_
  refine mg_callV (vl_PS_61 rfl) d_PS_replay_2 hO rfl rfl (c_PS_generatorAt_in hO hA hi hw.1) rfl rfl (by rw [hR]; decide) (by rw [hR]; decide) (Nat.le_of_ble_eq_true rfl) ?_
  rintro v M2 ⟨rfl, rfl⟩
  first | refine mg_astore_n d_PS_replay_5 rfl (Nat.le_of_ble_eq_true rfl) rfl ?_ | refine mg_astore_nN d_PS_replay_5 rfl (Nat.le_of_ble_eq_true rfl) rfl ?_
  first | refine mg_aload_n d_PS_replay_6 rfl rfl ?_ | refine mg_aload_nN d_PS_replay_6 rfl rfl ?_
  refine mg_iload_n d_PS_replay_7 rfl rfl ?_
  refine mg_callV (vl_PS_65 rfl) d_PS_replay_8 hO rfl rfl (c_PS_propertyAt_in hO hB hj hpl) rfl rfl (by rw [hR]; decide) (by rw [hR]; decide) (Nat.le_of_ble_eq_true rfl) ?_
  rintro v M3 ⟨rfl, rfl⟩
  first | refine mg_astore d_PS_replay_11 (Nat.le_of_ble_eq_true rfl) rfl ?_ | refine mg_astoreN d_PS_replay_11 (Nat.le_of_ble_eq_true rfl) rfl ?_
  first | refine mg_aload_n d_PS_replay_13 rfl rfl ?_ | refine mg_aload_nN d_PS_replay_13 rfl rfl ?_
  refine mg_ifnull d_PS_replay_14 ?_
  first | refine mg_aload d_PS_replay_17 rfl ?_ | refine mg_aloadN d_PS_replay_17 rfl ?_
  refine mg_ifnonnull (tgt := 24) d_PS_replay_19 (by decide) ?_
  first | refine mg_aload_n d_PS_replay_24 rfl rfl ?_ | refine mg_aload_nN d_PS_replay_24 rfl rfl ?_
  first | refine mg_aload_n d_PS_replay_25 rfl rfl ?_ | refine mg_aload_nN d_PS_replay_25 rfl rfl ?_
  first | refine mg_aload d_PS_replay_26 rfl ?_ | refine mg_aloadN d_PS_replay_26 rfl ?_
  first | refine mg_aload_n d_PS_replay_28 rfl rfl ?_ | refine mg_aload_nN d_PS_replay_28 rfl rfl ?_
  refine mg_getfield fl_PS_31 d_PS_replay_29 hO rfl ?_
  refine mg_callV (vl_PS_100 rfl) d_PS_replay_32 hO rfl rfl (c_PS_replayRow hw hg hO hG hD (hRr j p hp) (by omega) h8 (by omega)) rfl rfl (by rw [hR]; decide) (by rw [hR]; decide) (Nat.le_of_ble_eq_true rfl) ?_
  rintro v M4 ⟨rfl, hD4, hs4⟩
  obtain ⟨r1, r2, r3⟩ := row_eq gs i pu z x lm
  rw [vd_eq r2 r3]
  generalize runR gs pu z i x lm = σ4 at hD4 r1 r2 r3
  obtain ⟨cs4, ns4, il4, x4, lm4⟩ := σ4
  replace r2 : ns4 = (rowC gs i pu).2.1 := r2
  subst r2
  have hO4 := (hs4 1 (by omega)).trans hO
  have b8 := h8.sm hs4 (by omega)
  refine mg_istore d_PS_replay_35 (Nat.le_of_ble_eq_true rfl) rfl ?_
  first | refine mg_aload_n d_PS_replay_37 rfl rfl ?_ | refine mg_aload_nN d_PS_replay_37 rfl rfl ?_
  refine mg_getfield fl_PS_31 d_PS_replay_38 hO4 rfl ?_
  refine mg_iconst (v := 0) d_PS_replay_41 (by decide) ?_
  refine mg_callV (vl_PS_118 rfl) d_PS_replay_42 (by obtain ⟨_, e1, -⟩ := b8; exact e1) rfl rfl (c_In_cutTo b8) rfl rfl (by rw [hR]; decide) (by rw [hR]; decide) (Nat.le_of_ble_eq_true rfl) ?_
  rintro v M5 ⟨rfl, hI5, hs5⟩
  replace hI5 : isI M5 8 [] := hI5
  have hO5 := (hs5 1 (by omega)).trans hO4
  have hD5 := hD4.fr hs5 (by omega)
  have b6 := (h6.sm hs4 (by omega)).sm hs5 (by omega)
  first | refine mg_aload_n d_PS_replay_45 rfl rfl ?_ | refine mg_aload_nN d_PS_replay_45 rfl rfl ?_
  refine mg_getfield fl_PS_28 d_PS_replay_46 hO5 rfl ?_
  first | refine mg_aload_n d_PS_replay_49 rfl rfl ?_ | refine mg_aload_nN d_PS_replay_49 rfl rfl ?_
  refine mg_getfield fl_PS_40 d_PS_replay_50 hO5 rfl ?_
  refine mg_getfield fl_PS_122 d_PS_replay_53 hD5.1 rfl ?_
  refine mg_callV (vl_PS_123 rfl) d_PS_replay_56 (by obtain ⟨_, e1, -⟩ := b6; exact e1) rfl rfl (c_In_copyFrom b6 hD5.2.2.1 (by omega)) rfl rfl (by rw [hR]; decide) (by rw [hR]; decide) (Nat.le_of_ble_eq_true rfl) ?_
  rintro v M6 ⟨rfl, hI6, hs6⟩
  have hO6 := (hs6 1 (by omega)).trans hO5
  have keep : smB M3 M6 := fun k hk => ((hs6 k (by omega)).trans (hs5 k (by omega))).trans (hs4 k (by omega))
  have hC : smC M3 M6 := ((smC.of hs4 (by omega) (by omega)).tr (smC.of hs5 (by omega) (by omega))).tr (smC.of hs6 (by omega) (by omega))
  have hP6 : isPS M6 gs ps ks wa fo le row (rowC gs i pu).2.1 [] s := h.mk' hO6 (((h4.sm hs4 (by omega)).sm hs5 (by omega)).sm hs6 (by omega)) hI6 (hI5.sm hs6 (by omega)) ⟨st, ((h10.sm hs4 (by omega)).sm hs5 (by omega)).sm hs6 (by omega)⟩ ⟨_, _, hD5.fr hs6 (by omega)⟩ keep
  refine mg_iload d_PS_replay_59 rfl ?_
  refine mg_iconst (v := 4) d_PS_replay_61 (by decide) ?_
  refine mg_icmp_ne (tgt := 73) d_PS_replay_62 (by decide) (fun c_62 => ?_) (fun c_62 => ?_)
  · refine mg_iload d_PS_replay_73 rfl ?_
    exact mg_ireturn d_PS_replay_75 rfl rfl (Nat.le_of_ble_eq_true rfl) (Nat.le_of_ble_eq_true rfl) ⟨rfl, by rw [if_neg c_62]; exact hP6, hC⟩
  · first | refine mg_aload_n d_PS_replay_65 rfl rfl ?_ | refine mg_aload_nN d_PS_replay_65 rfl rfl ?_
    refine mg_getfield fl_PS_28 d_PS_replay_66 hO6 rfl ?_
    refine mg_iconst (v := 0) d_PS_replay_69 (by decide) ?_
    refine mg_callV (vl_PS_118 rfl) d_PS_replay_70 (by obtain ⟨_, e1, -⟩ := hI6; exact e1) rfl rfl (c_In_cutTo hI6) rfl rfl (by rw [hR]; decide) (by rw [hR]; decide) (Nat.le_of_ble_eq_true rfl) ?_
    rintro v M7 ⟨rfl, hI7, hs7⟩
    replace hI7 : isI M7 6 [] := hI7
    refine mg_iload d_PS_replay_73 rfl ?_
    refine mg_ireturn d_PS_replay_75 rfl rfl (Nat.le_of_ble_eq_true rfl) (Nat.le_of_ble_eq_true rfl) ⟨rfl, ?_, hC.tr (smC.of hs7 (by omega) (by omega))⟩
    rw [if_pos c_62]
    obtain ⟨-, -, -, -, -, -, q4, -, q8, ⟨st2, q10⟩, ⟨md2, σ2, q12⟩, -⟩ := id hP6
    exact hP6.mk' ((hs7 1 (by omega)).trans hO6) (q4.sm hs7 (by omega)) hI7 (q8.sm hs7 (by omega)) ⟨st2, q10.sm hs7 (by omega)⟩ ⟨md2, σ2, q12.fr hs7 (by omega)⟩ (fun k hk => hs7 k (by omega))

