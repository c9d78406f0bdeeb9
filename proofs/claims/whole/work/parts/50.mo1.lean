/-! THE REFERENCE's object, at 1000; its arrays behind it. si: its ints and booleans by their places -/
abbrev moE (si : Nat → Int32) (x s : Int64) : va_E := .inr (11, [.int (si 0), .int (si 1), .int (si 2), .ref 1001, .ref 1002, .ref 1003, .ref 1004, .ref 1005, .ref 1006, .ref 1007, .int (si 10), .int (si 11), .int (si 12), .int (si 13), .long x, .int (si 15), .ref 1008, .ref 1009, .ref 1010, .ref 1011, .int (si 20), .ref 1012, .ref 1013, .ref 1014, .ref 1015, .int (si 25), .int (si 26), .int (si 27), .int (si 28), .int (si 29), .int (si 30), .int (si 31), .ref 1016, .ref 1017, .ref 1018, .ref 1019, .ref 1020, .int (si 37), .ref 1021, .ref 1022, .int (si 40), .int (si 41), .long s])
abbrev iaE (n : Nat) (f : Nat → Int32) : va_E := .inl (0, n, .inl f)
/-- an array that holds a list from its beginning on -/
def isA (M : mg_M) (h n : Nat) (l : List Int32) : Prop := ∃ f : Nat → Int32, M h = some (iaE n f) ∧ l.length ≤ n ∧ ∀ j, j < l.length → f j = l.getD j 0
theorem isA.eq {M M' : mg_M} {h n : Nat} {l : List Int32} (hA : isA M h n l) (h1 : M' h = M h) : isA M' h n l := by
  obtain ⟨f, a1, a2⟩ := hA
  exact ⟨f, by rw [h1]; exact a1, a2⟩
theorem isA.le {M : mg_M} {h n : Nat} {l : List Int32} (hA : isA M h n l) : l.length ≤ n := hA.choose_spec.2.1
theorem isA_push {M : mg_M} {h n : Nat} {l : List Int32} {f : Nat → Int32} {v : Int32} (hf : ∀ j, j < l.length → f j = l.getD j 0) (hl : l.length < n) (hM : M h = some (iaE n (upd f l.length v))) : isA M h n (l ++ [v]) := by
  refine ⟨_, hM, by rw [List.length_append]; show l.length + 1 ≤ n; omega, fun j hj => ?_⟩
  rw [List.length_append] at hj
  replace hj : j < l.length + 1 := hj
  by_cases hjl : j = l.length
  · subst hjl; rw [pk_us]; simp
  · rw [pk_un hjl, hf j (by omega)]
    simp [List.getD_eq_getElem?_getD, List.getElem?_append_left (show j < l.length by omega)]
/-- a run of the reference: its object, and the arrays in, row, top, number -/
def isRun (M : mg_M) (si : Nat → Int32) (x s : Int64) (md : dM) (σ : dS) : Prop := M 1000 = some (moE si x s) ∧ si 10 = md.1 ∧ si 11 = nI σ.1.length ∧ si 12 = nI σ.2.1.length ∧ (md.1 = 1 → si 13 = md.2.2) ∧ x = σ.2.2.2.1 ∧ si 15 = bI σ.2.2.1 ∧ si 20 = nI md.2.1.length ∧ isA M 1008 60 md.2.1 ∧ isA M 1009 60 σ.1 ∧ M 1010 = some (iaE 60 σ.2.2.2.2) ∧ isA M 1011 60 σ.2.1

set_option maxHeartbeats 4000000 in
set_option maxRecDepth 100000 in
theorem c_Mo_isBad {M : mg_M} {v0 : Int32} : mg_Ct Y_Mo_isBad { frames := 0, cells := 0, slots := 0, locals := 0 } [.int v0] M (fun v M' => v = some (.int (bI (isBd v0))) ∧ M' = M) := by
  refine mg_met [some (.int v0)] (by decide +kernel) rfl (Nat.le_of_ble_eq_true rfl) ?_
  intro X hR _
  refine mg_iload_n d_Mo_isBad_0 rfl rfl ?_
  refine mg_iconst (v := 1) d_Mo_isBad_1 (by decide) ?_
  refine mg_icmp_eq (tgt := 10) d_Mo_isBad_2 (by decide) (fun c_2 => ?_) (fun c_2 => ?_)
  · subst c_2
    refine mg_iconst (v := 1) d_Mo_isBad_10 (by decide) ?_
    refine mg_goto (tgt := 15) d_Mo_isBad_11 (by decide) ?_
    exact mg_ireturn d_Mo_isBad_15 rfl rfl (Nat.le_of_ble_eq_true rfl) (Nat.le_of_ble_eq_true rfl) ⟨rfl, rfl⟩
  · refine mg_iload_n d_Mo_isBad_5 rfl rfl ?_
    refine mg_iconst (v := 2) d_Mo_isBad_6 (by decide) ?_
    refine mg_icmp_ne (tgt := 14) d_Mo_isBad_7 (by decide) (fun c_7 => ?_) (fun c_7 => ?_)
    · refine mg_iconst (v := 0) d_Mo_isBad_14 (by decide) ?_
      exact mg_ireturn d_Mo_isBad_15 rfl rfl (Nat.le_of_ble_eq_true rfl) (Nat.le_of_ble_eq_true rfl) ⟨by simp [isBd, c_2, c_7, bI], rfl⟩
    · subst c_7
      refine mg_iconst (v := 1) d_Mo_isBad_10 (by decide) ?_
      refine mg_goto (tgt := 15) d_Mo_isBad_11 (by decide) ?_
      exact mg_ireturn d_Mo_isBad_15 rfl rfl (Nat.le_of_ble_eq_true rfl) (Nat.le_of_ble_eq_true rfl) ⟨rfl, rfl⟩

def wiB (v lo hi : Int32) : Bool := decide (¬ v < lo) && decide (¬ hi < v)
set_option maxHeartbeats 4000000 in
set_option maxRecDepth 100000 in
theorem c_Mo_isWithin {M : mg_M} {v0 lo hi : Int32} : mg_Ct Y_Mo_isWithin { frames := 0, cells := 0, slots := 0, locals := 0 } [.int v0, .int lo, .int hi] M (fun v M' => v = some (.int (bI (wiB v0 lo hi))) ∧ M' = M) := by
  refine mg_met [some (.int v0), some (.int lo), some (.int hi)] (by decide +kernel) rfl (Nat.le_of_ble_eq_true rfl) ?_
  intro X hR _
  refine mg_iload_n d_Mo_isWithin_0 rfl rfl ?_
  refine mg_iload_n d_Mo_isWithin_1 rfl rfl ?_
  refine mg_icmp_lt (tgt := 14) d_Mo_isWithin_2 (by decide) (fun c_2 => ?_) (fun c_2 => ?_)
  · refine mg_iconst (v := 0) d_Mo_isWithin_14 (by decide) ?_
    exact mg_ireturn d_Mo_isWithin_15 rfl rfl (Nat.le_of_ble_eq_true rfl) (Nat.le_of_ble_eq_true rfl) ⟨by simp only [wiB, c_2, not_true_eq_false, decide_false, Bool.false_and]; rfl, rfl⟩
  · refine mg_iload_n d_Mo_isWithin_5 rfl rfl ?_
    refine mg_iload_n d_Mo_isWithin_6 rfl rfl ?_
    refine mg_icmp_gt (tgt := 14) d_Mo_isWithin_7 (by decide) (fun c_7 => ?_) (fun c_7 => ?_)
    · refine mg_iconst (v := 0) d_Mo_isWithin_14 (by decide) ?_
      exact mg_ireturn d_Mo_isWithin_15 rfl rfl (Nat.le_of_ble_eq_true rfl) (Nat.le_of_ble_eq_true rfl) ⟨by simp only [wiB, c_7, not_true_eq_false, decide_false, Bool.and_false]; rfl, rfl⟩
    · refine mg_iconst (v := 1) d_Mo_isWithin_10 (by decide) ?_
      refine mg_goto (tgt := 15) d_Mo_isWithin_11 (by decide) ?_
      exact mg_ireturn d_Mo_isWithin_15 rfl rfl (Nat.le_of_ble_eq_true rfl) (Nat.le_of_ble_eq_true rfl) ⟨by simp only [wiB, c_2, c_7, not_false_eq_true, decide_true, Bool.and_true]; rfl, rfl⟩

def igB (g : Int32) (n : Int32) : Bool := decide (¬ g < 0) && decide (¬ n ≤ g)
set_option maxHeartbeats 4000000 in
set_option maxRecDepth 100000 in
theorem c_Mo_isGenerator {M : mg_M} {si : Nat → Int32} {x s : Int64} {g : Int32} (hO : M 1000 = some (moE si x s)) : mg_Ct Y_Mo_isGenerator { frames := 0, cells := 0, slots := 0, locals := 0 } [.ref 1000, .int g] M (fun v M' => v = some (.int (bI (igB g (si 1)))) ∧ M' = M) := by
  refine mg_met [some (.ref 1000), some (.int g)] (by decide +kernel) rfl (Nat.le_of_ble_eq_true rfl) ?_
  intro X hR _
  refine mg_iload_n d_Mo_isGenerator_0 rfl rfl ?_
  refine mg_if_lt (tgt := 16) d_Mo_isGenerator_1 (by decide) (fun c_1 => ?_) (fun c_1 => ?_)
  · refine mg_iconst (v := 0) d_Mo_isGenerator_16 (by decide) ?_
    exact mg_ireturn d_Mo_isGenerator_17 rfl rfl (Nat.le_of_ble_eq_true rfl) (Nat.le_of_ble_eq_true rfl) ⟨by simp only [igB, c_1, not_true_eq_false, decide_false, Bool.false_and]; rfl, rfl⟩
  · refine mg_iload_n d_Mo_isGenerator_4 rfl rfl ?_
    first | refine mg_aload_n d_Mo_isGenerator_5 rfl rfl ?_ | refine mg_aload_nN d_Mo_isGenerator_5 rfl rfl ?_
    refine mg_getfield fl_Mo_83 d_Mo_isGenerator_6 hO rfl ?_
    refine mg_icmp_ge (tgt := 16) d_Mo_isGenerator_9 (by decide) (fun c_9 => ?_) (fun c_9 => ?_)
    · refine mg_iconst (v := 0) d_Mo_isGenerator_16 (by decide) ?_
      exact mg_ireturn d_Mo_isGenerator_17 rfl rfl (Nat.le_of_ble_eq_true rfl) (Nat.le_of_ble_eq_true rfl) ⟨by simp only [igB, c_9, not_true_eq_false, decide_false, Bool.and_false]; rfl, rfl⟩
    · refine mg_iconst (v := 1) d_Mo_isGenerator_12 (by decide) ?_
      refine mg_goto (tgt := 17) d_Mo_isGenerator_13 (by decide) ?_
      exact mg_ireturn d_Mo_isGenerator_17 rfl rfl (Nat.le_of_ble_eq_true rfl) (Nat.le_of_ble_eq_true rfl) ⟨by simp only [igB, c_1, c_9, not_false_eq_true, decide_true, Bool.and_true]; rfl, rfl⟩

def isSt (M : mg_M) (pi sg co sa : Nat → Int32) : Prop := M 1012 = some (iaE 20 pi) ∧ M 1013 = some (iaE 20 sg) ∧ M 1014 = some (iaE 20 co) ∧ M 1015 = some (iaE 20 sa)
set_option maxHeartbeats 4000000 in
set_option maxRecDepth 100000 in
theorem c_Mo_push {M : mg_M} {si : Nat → Int32} {x s : Int64} {g : Int32} {k : Nat} {pi sg co sa : Nat → Int32} (hO : M 1000 = some (moE si x s)) (hS : isSt M pi sg co sa) (hh : si 25 = nI k) (hk : k < 20) : mg_Ct Y_Mo_push { frames := 0, cells := 0, slots := 0, locals := 0 } [.ref 1000, .int g] M (fun v M' => v = none ∧ M' = mg_up (mg_up (mg_up (mg_up (mg_up M 1012 (iaE 20 (upd pi k g))) 1013 (iaE 20 (upd sg k 0))) 1014 (iaE 20 (upd co k 0))) 1015 (iaE 20 (upd sa k (si 12)))) 1000 (moE (upd si 25 (nI (k + 1))) x s)) := by
  obtain ⟨q1, q2, q3, q4⟩ := hS
  have hin : vp_in (si 25) 20 := by rw [hh]; exact vp_in_nI hk (by decide)
  refine mg_met [some (.ref 1000), some (.int g)] (by decide +kernel) rfl (Nat.le_of_ble_eq_true rfl) ?_
  intro X hR _
  first | refine mg_aload_n d_Mo_push_0 rfl rfl ?_ | refine mg_aload_nN d_Mo_push_0 rfl rfl ?_
  refine mg_getfield fl_Mo_43 d_Mo_push_1 (by first | assumption | exact mg_up_s _ _ _ | (rw [mg_up_n _ _ (by decide)]; first | assumption | exact mg_up_s _ _ _ | (rw [mg_up_n _ _ (by decide)]; first | assumption | exact mg_up_s _ _ _ | (rw [mg_up_n _ _ (by decide)]; first | assumption | exact mg_up_s _ _ _ | (rw [mg_up_n _ _ (by decide)]; first | assumption | exact mg_up_s _ _ _ | (rw [mg_up_n _ _ (by decide)]; first | assumption | exact mg_up_s _ _ _ | (rw [mg_up_n _ _ (by decide)]; first | assumption | exact mg_up_s _ _ _))))))) rfl ?_
  first | refine mg_aload_n d_Mo_push_4 rfl rfl ?_ | refine mg_aload_nN d_Mo_push_4 rfl rfl ?_
  refine mg_getfield fl_Mo_121 d_Mo_push_5 (by first | assumption | exact mg_up_s _ _ _ | (rw [mg_up_n _ _ (by decide)]; first | assumption | exact mg_up_s _ _ _ | (rw [mg_up_n _ _ (by decide)]; first | assumption | exact mg_up_s _ _ _ | (rw [mg_up_n _ _ (by decide)]; first | assumption | exact mg_up_s _ _ _ | (rw [mg_up_n _ _ (by decide)]; first | assumption | exact mg_up_s _ _ _ | (rw [mg_up_n _ _ (by decide)]; first | assumption | exact mg_up_s _ _ _ | (rw [mg_up_n _ _ (by decide)]; first | assumption | exact mg_up_s _ _ _))))))) rfl ?_
  refine mg_iload_n d_Mo_push_8 rfl rfl ?_
  refine mg_iastore rfl d_Mo_push_9 (by first | assumption | exact mg_up_s _ _ _ | (rw [mg_up_n _ _ (by decide)]; first | assumption | exact mg_up_s _ _ _ | (rw [mg_up_n _ _ (by decide)]; first | assumption | exact mg_up_s _ _ _ | (rw [mg_up_n _ _ (by decide)]; first | assumption | exact mg_up_s _ _ _ | (rw [mg_up_n _ _ (by decide)]; first | assumption | exact mg_up_s _ _ _ | (rw [mg_up_n _ _ (by decide)]; first | assumption | exact mg_up_s _ _ _ | (rw [mg_up_n _ _ (by decide)]; first | assumption | exact mg_up_s _ _ _))))))) hin ?_
  refine mg_eqM (M' := mg_up M 1012 (iaE 20 (upd pi k g))) (by rw [hh, nI_clamp (by omega : k < 2 ^ 31)]) ?_
  first | refine mg_aload_n d_Mo_push_10 rfl rfl ?_ | refine mg_aload_nN d_Mo_push_10 rfl rfl ?_
  refine mg_getfield fl_Mo_46 d_Mo_push_11 (by first | assumption | exact mg_up_s _ _ _ | (rw [mg_up_n _ _ (by decide)]; first | assumption | exact mg_up_s _ _ _ | (rw [mg_up_n _ _ (by decide)]; first | assumption | exact mg_up_s _ _ _ | (rw [mg_up_n _ _ (by decide)]; first | assumption | exact mg_up_s _ _ _ | (rw [mg_up_n _ _ (by decide)]; first | assumption | exact mg_up_s _ _ _ | (rw [mg_up_n _ _ (by decide)]; first | assumption | exact mg_up_s _ _ _ | (rw [mg_up_n _ _ (by decide)]; first | assumption | exact mg_up_s _ _ _))))))) rfl ?_
  first | refine mg_aload_n d_Mo_push_14 rfl rfl ?_ | refine mg_aload_nN d_Mo_push_14 rfl rfl ?_
  refine mg_getfield fl_Mo_121 d_Mo_push_15 (by first | assumption | exact mg_up_s _ _ _ | (rw [mg_up_n _ _ (by decide)]; first | assumption | exact mg_up_s _ _ _ | (rw [mg_up_n _ _ (by decide)]; first | assumption | exact mg_up_s _ _ _ | (rw [mg_up_n _ _ (by decide)]; first | assumption | exact mg_up_s _ _ _ | (rw [mg_up_n _ _ (by decide)]; first | assumption | exact mg_up_s _ _ _ | (rw [mg_up_n _ _ (by decide)]; first | assumption | exact mg_up_s _ _ _ | (rw [mg_up_n _ _ (by decide)]; first | assumption | exact mg_up_s _ _ _))))))) rfl ?_
  refine mg_iconst (v := 0) d_Mo_push_18 (by decide) ?_
  refine mg_iastore rfl d_Mo_push_19 (by first | assumption | exact mg_up_s _ _ _ | (rw [mg_up_n _ _ (by decide)]; first | assumption | exact mg_up_s _ _ _ | (rw [mg_up_n _ _ (by decide)]; first | assumption | exact mg_up_s _ _ _ | (rw [mg_up_n _ _ (by decide)]; first | assumption | exact mg_up_s _ _ _ | (rw [mg_up_n _ _ (by decide)]; first | assumption | exact mg_up_s _ _ _ | (rw [mg_up_n _ _ (by decide)]; first | assumption | exact mg_up_s _ _ _ | (rw [mg_up_n _ _ (by decide)]; first | assumption | exact mg_up_s _ _ _))))))) hin ?_
  refine mg_eqM (M' := mg_up (mg_up M 1012 (iaE 20 (upd pi k g))) 1013 (iaE 20 (upd sg k 0))) (by rw [hh, nI_clamp (by omega : k < 2 ^ 31)]) ?_
  first | refine mg_aload_n d_Mo_push_20 rfl rfl ?_ | refine mg_aload_nN d_Mo_push_20 rfl rfl ?_
  refine mg_getfield fl_Mo_49 d_Mo_push_21 (by first | assumption | exact mg_up_s _ _ _ | (rw [mg_up_n _ _ (by decide)]; first | assumption | exact mg_up_s _ _ _ | (rw [mg_up_n _ _ (by decide)]; first | assumption | exact mg_up_s _ _ _ | (rw [mg_up_n _ _ (by decide)]; first | assumption | exact mg_up_s _ _ _ | (rw [mg_up_n _ _ (by decide)]; first | assumption | exact mg_up_s _ _ _ | (rw [mg_up_n _ _ (by decide)]; first | assumption | exact mg_up_s _ _ _ | (rw [mg_up_n _ _ (by decide)]; first | assumption | exact mg_up_s _ _ _))))))) rfl ?_
  first | refine mg_aload_n d_Mo_push_24 rfl rfl ?_ | refine mg_aload_nN d_Mo_push_24 rfl rfl ?_
  refine mg_getfield fl_Mo_121 d_Mo_push_25 (by first | assumption | exact mg_up_s _ _ _ | (rw [mg_up_n _ _ (by decide)]; first | assumption | exact mg_up_s _ _ _ | (rw [mg_up_n _ _ (by decide)]; first | assumption | exact mg_up_s _ _ _ | (rw [mg_up_n _ _ (by decide)]; first | assumption | exact mg_up_s _ _ _ | (rw [mg_up_n _ _ (by decide)]; first | assumption | exact mg_up_s _ _ _ | (rw [mg_up_n _ _ (by decide)]; first | assumption | exact mg_up_s _ _ _ | (rw [mg_up_n _ _ (by decide)]; first | assumption | exact mg_up_s _ _ _))))))) rfl ?_
  refine mg_iconst (v := 0) d_Mo_push_28 (by decide) ?_
  refine mg_iastore rfl d_Mo_push_29 (by first | assumption | exact mg_up_s _ _ _ | (rw [mg_up_n _ _ (by decide)]; first | assumption | exact mg_up_s _ _ _ | (rw [mg_up_n _ _ (by decide)]; first | assumption | exact mg_up_s _ _ _ | (rw [mg_up_n _ _ (by decide)]; first | assumption | exact mg_up_s _ _ _ | (rw [mg_up_n _ _ (by decide)]; first | assumption | exact mg_up_s _ _ _ | (rw [mg_up_n _ _ (by decide)]; first | assumption | exact mg_up_s _ _ _ | (rw [mg_up_n _ _ (by decide)]; first | assumption | exact mg_up_s _ _ _))))))) hin ?_
  refine mg_eqM (M' := mg_up (mg_up (mg_up M 1012 (iaE 20 (upd pi k g))) 1013 (iaE 20 (upd sg k 0))) 1014 (iaE 20 (upd co k 0))) (by rw [hh, nI_clamp (by omega : k < 2 ^ 31)]) ?_
  first | refine mg_aload_n d_Mo_push_30 rfl rfl ?_ | refine mg_aload_nN d_Mo_push_30 rfl rfl ?_
  refine mg_getfield fl_Mo_52 d_Mo_push_31 (by first | assumption | exact mg_up_s _ _ _ | (rw [mg_up_n _ _ (by decide)]; first | assumption | exact mg_up_s _ _ _ | (rw [mg_up_n _ _ (by decide)]; first | assumption | exact mg_up_s _ _ _ | (rw [mg_up_n _ _ (by decide)]; first | assumption | exact mg_up_s _ _ _ | (rw [mg_up_n _ _ (by decide)]; first | assumption | exact mg_up_s _ _ _ | (rw [mg_up_n _ _ (by decide)]; first | assumption | exact mg_up_s _ _ _ | (rw [mg_up_n _ _ (by decide)]; first | assumption | exact mg_up_s _ _ _))))))) rfl ?_
  first | refine mg_aload_n d_Mo_push_34 rfl rfl ?_ | refine mg_aload_nN d_Mo_push_34 rfl rfl ?_
  refine mg_getfield fl_Mo_121 d_Mo_push_35 (by first | assumption | exact mg_up_s _ _ _ | (rw [mg_up_n _ _ (by decide)]; first | assumption | exact mg_up_s _ _ _ | (rw [mg_up_n _ _ (by decide)]; first | assumption | exact mg_up_s _ _ _ | (rw [mg_up_n _ _ (by decide)]; first | assumption | exact mg_up_s _ _ _ | (rw [mg_up_n _ _ (by decide)]; first | assumption | exact mg_up_s _ _ _ | (rw [mg_up_n _ _ (by decide)]; first | assumption | exact mg_up_s _ _ _ | (rw [mg_up_n _ _ (by decide)]; first | assumption | exact mg_up_s _ _ _))))))) rfl ?_
  first | refine mg_aload_n d_Mo_push_38 rfl rfl ?_ | refine mg_aload_nN d_Mo_push_38 rfl rfl ?_
  refine mg_getfield fl_Mo_124 d_Mo_push_39 (by first | assumption | exact mg_up_s _ _ _ | (rw [mg_up_n _ _ (by decide)]; first | assumption | exact mg_up_s _ _ _ | (rw [mg_up_n _ _ (by decide)]; first | assumption | exact mg_up_s _ _ _ | (rw [mg_up_n _ _ (by decide)]; first | assumption | exact mg_up_s _ _ _ | (rw [mg_up_n _ _ (by decide)]; first | assumption | exact mg_up_s _ _ _ | (rw [mg_up_n _ _ (by decide)]; first | assumption | exact mg_up_s _ _ _ | (rw [mg_up_n _ _ (by decide)]; first | assumption | exact mg_up_s _ _ _))))))) rfl ?_
  refine mg_iastore rfl d_Mo_push_42 (by first | assumption | exact mg_up_s _ _ _ | (rw [mg_up_n _ _ (by decide)]; first | assumption | exact mg_up_s _ _ _ | (rw [mg_up_n _ _ (by decide)]; first | assumption | exact mg_up_s _ _ _ | (rw [mg_up_n _ _ (by decide)]; first | assumption | exact mg_up_s _ _ _ | (rw [mg_up_n _ _ (by decide)]; first | assumption | exact mg_up_s _ _ _ | (rw [mg_up_n _ _ (by decide)]; first | assumption | exact mg_up_s _ _ _ | (rw [mg_up_n _ _ (by decide)]; first | assumption | exact mg_up_s _ _ _))))))) hin ?_
  refine mg_eqM (M' := mg_up (mg_up (mg_up (mg_up M 1012 (iaE 20 (upd pi k g))) 1013 (iaE 20 (upd sg k 0))) 1014 (iaE 20 (upd co k 0))) 1015 (iaE 20 (upd sa k (si 12)))) (by rw [hh, nI_clamp (by omega : k < 2 ^ 31)]) ?_
  first | refine mg_aload_n d_Mo_push_43 rfl rfl ?_ | refine mg_aload_nN d_Mo_push_43 rfl rfl ?_
  refine mg_dup d_Mo_push_44 rfl ?_
  refine mg_getfield fl_Mo_121 d_Mo_push_45 (by first | assumption | exact mg_up_s _ _ _ | (rw [mg_up_n _ _ (by decide)]; first | assumption | exact mg_up_s _ _ _ | (rw [mg_up_n _ _ (by decide)]; first | assumption | exact mg_up_s _ _ _ | (rw [mg_up_n _ _ (by decide)]; first | assumption | exact mg_up_s _ _ _ | (rw [mg_up_n _ _ (by decide)]; first | assumption | exact mg_up_s _ _ _ | (rw [mg_up_n _ _ (by decide)]; first | assumption | exact mg_up_s _ _ _ | (rw [mg_up_n _ _ (by decide)]; first | assumption | exact mg_up_s _ _ _))))))) rfl ?_
  refine mg_iconst (v := 1) d_Mo_push_48 (by decide) ?_
  refine mg_iadd d_Mo_push_49 ?_
  refine mg_putfield (fw_Mo_121 _) d_Mo_push_50 (by first | assumption | exact mg_up_s _ _ _ | (rw [mg_up_n _ _ (by decide)]; first | assumption | exact mg_up_s _ _ _ | (rw [mg_up_n _ _ (by decide)]; first | assumption | exact mg_up_s _ _ _ | (rw [mg_up_n _ _ (by decide)]; first | assumption | exact mg_up_s _ _ _ | (rw [mg_up_n _ _ (by decide)]; first | assumption | exact mg_up_s _ _ _ | (rw [mg_up_n _ _ (by decide)]; first | assumption | exact mg_up_s _ _ _ | (rw [mg_up_n _ _ (by decide)]; first | assumption | exact mg_up_s _ _ _))))))) (Nat.le_of_ble_eq_true rfl) (fun _ => ⟨rfl, rfl⟩) ?_
  refine mg_eqM (M' := mg_up (mg_up (mg_up (mg_up (mg_up M 1012 (iaE 20 (upd pi k g))) 1013 (iaE 20 (upd sg k 0))) 1014 (iaE 20 (upd co k 0))) 1015 (iaE 20 (upd sa k (si 12)))) 1000 (moE (upd si 25 (nI (k + 1))) x s)) (by rw [hh, nI_1]; rfl) ?_
  exact mg_return d_Mo_push_53 rfl (Nat.le_of_ble_eq_true rfl) (Nat.le_of_ble_eq_true rfl) ⟨rfl, rfl⟩

