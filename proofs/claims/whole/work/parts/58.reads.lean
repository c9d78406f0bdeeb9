/-! THE REFERENCE's whole state -/
def isKM (M : mg_M) (ks : List kN) : Prop := ∃ kg kp kz kf : Nat → Int32, M 1017 = some (iaE 200 kg) ∧ M 1018 = some (iaE 200 kp) ∧ M 1019 = some (iaE 200 kz) ∧ M 1020 = some (iaE 12000 kf) ∧ ∀ (n : Nat) (k : kN), ks[n]? = some k → kg n = k.1 ∧ kp n = k.2.1 ∧ kz n = nI k.2.2.length ∧ k.2.2.length ≤ 60 ∧ ∀ t, t < k.2.2.length → kf (60 * n + t) = k.2.2.getD t 0
def foS (si : Nat → Int32) (fo : fO) (row : List Int32) : Prop := match fo with
  | none => si 26 = -1 ∧ row = []
  | some (i, j, v) => si 26 = nI row.length ∧ si 27 = nI i ∧ si 28 = nI j ∧ si 29 = v
theorem foS.eq {si si' : Nat → Int32} {fo : fO} {row : List Int32} (h : foS si fo row) (e : ∀ k, 26 ≤ k → k ≤ 29 → si' k = si k) : foS si' fo row := by
  match fo, h with
  | none, h => exact ⟨(e 26 (by decide) (by decide)).trans h.1, h.2⟩
  | some (i, j, v), h => exact ⟨(e 26 (by decide) (by decide)).trans h.1, (e 27 (by decide) (by decide)).trans h.2.1, (e 28 (by decide) (by decide)).trans h.2.2.1, (e 29 (by decide) (by decide)).trans h.2.2.2⟩
def isMoS (M : mg_M) (si : Nat → Int32) (gs : List gN) (ps : List pN) (ks : List kN) (wa : Nat) (fo : fO) (le : Bool) (row nu pu : List Int32) : Prop :=
  (si 1 = nI gs.length ∧ si 2 = nI ps.length ∧ isGM M gs ∧ isPM M ps) ∧ (foS si fo row ∧ isA M 1016 60 row) ∧ (si 30 = nI ks.length ∧ si 31 = nI wa ∧ isKM M ks) ∧ si 37 = bI le ∧ (si 40 = nI nu.length ∧ isA M 1021 60 nu) ∧ si 41 = nI pu.length ∧ isA M 1022 60 pu
theorem isGM.eq {M M' : mg_M} {gs : List gN} (h : isGM M gs) (hs : ∀ k, 1001 ≤ k → k ≤ 1004 → M' k = M k) : isGM M' gs := by
  obtain ⟨f1, f2, f3, f4, e1, e2, e3, e4, e⟩ := h
  exact ⟨f1, f2, f3, f4, (hs _ (by decide) (by decide)).trans e1, (hs _ (by decide) (by decide)).trans e2, (hs _ (by decide) (by decide)).trans e3, (hs _ (by decide) (by decide)).trans e4, e⟩
theorem isPM.eq {M M' : mg_M} {ps : List pN} (h : isPM M ps) (hs : ∀ k, 1005 ≤ k → k ≤ 1007 → M' k = M k) : isPM M' ps := by
  obtain ⟨f1, f2, f3, e1, e2, e3, e⟩ := h
  exact ⟨f1, f2, f3, (hs _ (by decide) (by decide)).trans e1, (hs _ (by decide) (by decide)).trans e2, (hs _ (by decide) (by decide)).trans e3, e⟩
theorem isKM.eq {M M' : mg_M} {ks : List kN} (h : isKM M ks) (hs : ∀ k, 1017 ≤ k → k ≤ 1020 → M' k = M k) : isKM M' ks := by
  obtain ⟨f1, f2, f3, f4, e1, e2, e3, e4, e⟩ := h
  exact ⟨f1, f2, f3, f4, (hs _ (by decide) (by decide)).trans e1, (hs _ (by decide) (by decide)).trans e2, (hs _ (by decide) (by decide)).trans e3, (hs _ (by decide) (by decide)).trans e4, e⟩
theorem isWk.eq {M M' : mg_M} (h : isWk M) (hs : ∀ k, 1009 ≤ k → k ≤ 1015 → M' k = M k) : isWk M' := by
  obtain ⟨⟨f1, e1⟩, ⟨f2, e2⟩, ⟨f3, e3⟩, pi, sg, co, sa, q1, q2, q3, q4⟩ := h
  exact ⟨⟨f1, (hs _ (by decide) (by decide)).trans e1⟩, ⟨f2, (hs _ (by decide) (by decide)).trans e2⟩, ⟨f3, (hs _ (by decide) (by decide)).trans e3⟩, pi, sg, co, sa, (hs _ (by decide) (by decide)).trans q1, (hs _ (by decide) (by decide)).trans q2, (hs _ (by decide) (by decide)).trans q3, (hs _ (by decide) (by decide)).trans q4⟩
theorem isMoS.fr {M M' : mg_M} {si si' : Nat → Int32} {gs : List gN} {ps : List pN} {ks : List kN} {wa : Nat} {fo : fO} {le : Bool} {row nu pu : List Int32} (h : isMoS M si gs ps ks wa fo le row nu pu) (e : ∀ k, (k = 1 ∨ k = 2 ∨ (26 ≤ k ∧ k ≤ 31) ∨ k = 37 ∨ k = 40 ∨ k = 41) → si' k = si k) (hs : ∀ k, ((1001 ≤ k ∧ k ≤ 1007) ∨ (1016 ≤ k ∧ k ≤ 1022)) → M' k = M k) : isMoS M' si' gs ps ks wa fo le row nu pu := by
  obtain ⟨⟨a1, a2, a3, a4⟩, ⟨b1, b2⟩, ⟨c1, c2, c3⟩, d1, ⟨e1, e2⟩, f1, f2⟩ := h
  exact ⟨⟨(e 1 (by decide)).trans a1, (e 2 (by decide)).trans a2, a3.eq (fun k h1 h2 => hs k (by omega)), a4.eq (fun k h1 h2 => hs k (by omega))⟩, ⟨b1.eq (fun k h1 h2 => e k (by omega)), b2.eq (hs _ (by decide))⟩, ⟨(e 30 (by decide)).trans c1, (e 31 (by decide)).trans c2, c3.eq (fun k h1 h2 => hs k (by omega))⟩, (e 37 (by decide)).trans d1, ⟨(e 40 (by decide)).trans e1, e2.eq (hs _ (by decide))⟩, (e 41 (by decide)).trans f1, f2.eq (hs _ (by decide))⟩
def isMo (M : mg_M) (gs : List gN) (ps : List pN) (ks : List kN) (wa : Nat) (fo : fO) (le : Bool) (row nu pu : List Int32) (s : Int64) : Prop := ∃ si x, M 1000 = some (moE si x s) ∧ isMoS M si gs ps ks wa fo le row nu pu ∧ isWk M ∧ ∃ gv, isA M 1008 60 gv ∧ si 20 = nI gv.length
theorem isMo.frC {M M' : mg_M} {gs : List gN} {ps : List pN} {ks : List kN} {wa : Nat} {fo : fO} {le : Bool} {row nu pu : List Int32} {s : Int64} (h : isMo M gs ps ks wa fo le row nu pu s) (hs : smC M M') : isMo M' gs ps ks wa fo le row nu pu s := by
  obtain ⟨si, x, h1, h2, h3, gv, h4, h5⟩ := h
  exact ⟨si, x, (hs _ (by omega)).trans h1, h2.fr (fun _ _ => rfl) (fun k hk => hs k (by omega)), h3.eq (fun k _ _ => hs k (by omega)), gv, h4.eq (hs _ (by omega)), h5⟩
abbrev c0M (M : mg_M) (si : Nat → Int32) (x s : Int64) : mg_M := mg_up M 1000 (moE (upd si 0 0) x s)
theorem isMoS.c0 {M : mg_M} {si : Nat → Int32} {x s : Int64} {gs : List gN} {ps : List pN} {ks : List kN} {wa : Nat} {fo : fO} {le : Bool} {row nu pu : List Int32} (h : isMoS M si gs ps ks wa fo le row nu pu) : isMoS (c0M M si x s) (upd si 0 0) gs ps ks wa fo le row nu pu := h.fr (fun k hk => pk_un (by omega)) (fun k hk => mg_up_n _ _ (by omega))
theorem isMo.c0 {M : mg_M} {si : Nat → Int32} {x s : Int64} {gs : List gN} {ps : List pN} {ks : List kN} {wa : Nat} {fo : fO} {le : Bool} {row nu pu : List Int32} (h2 : isMoS M si gs ps ks wa fo le row nu pu) (h3 : isWk M) (h4 : ∃ gv, isA M 1008 60 gv ∧ si 20 = nI gv.length) : isMo (c0M M si x s) gs ps ks wa fo le row nu pu s ∧ sm 1000 1023 M (c0M M si x s) := by
  obtain ⟨gv, h4, h5⟩ := h4
  exact ⟨⟨upd si 0 0, x, mg_up_s _ _ _, h2.c0, h3.eq (fun k _ _ => mg_up_n _ _ (by omega)), gv, h4.eq (mg_up_n _ _ (by decide)), h5⟩, sm.rf.up (by decide) (by decide)⟩

set_option maxHeartbeats 4000000 in
set_option maxRecDepth 100000 in
theorem c_Mo_least {M : mg_M} {gs : List gN} {ps : List pN} {ks : List kN} {wa : Nat} {fo : fO} {le : Bool} {row nu pu : List Int32} {s : Int64}  (h : isMo M gs ps ks wa fo le row nu pu s)  : mg_Ct Y_Mo_least { frames := 0, cells := 0, slots := 0, locals := 0 } [.ref 1000] M (fun v M' => v = some (.int (bI le)) ∧ isMo M' gs ps ks wa fo le row nu pu s ∧ sm 1000 1023 M M') := by
  obtain ⟨si, x, hO, hS, hWk, hI⟩ := id h
  obtain ⟨⟨a1, a2, a3, a4⟩, ⟨b1, ⟨ff, b2, b3, b4⟩⟩, ⟨c1, c2, c3⟩, d1, ⟨e1, ⟨tf, e2, e3, e4⟩⟩, f1, ⟨pf, f2, f3, f4⟩⟩ := id hS
  have hz := isMo.c0 (x := x) (s := s) hS hWk hI
  refine mg_met [some (.ref 1000)] (by decide +kernel) rfl (Nat.le_of_ble_eq_true rfl) ?_
  intro X hR _
  first | refine mg_aload_n d_Mo_least_0 rfl rfl ?_ | refine mg_aload_nN d_Mo_least_0 rfl rfl ?_
  refine mg_iconst (v := 0) d_Mo_least_1 (by decide) ?_
  refine mg_putfield (fw_Mo_80 _) d_Mo_least_2 (by first | assumption | exact mg_up_s _ _ _ | (rw [mg_up_n _ _ (by decide)]; first | assumption | exact mg_up_s _ _ _ | (rw [mg_up_n _ _ (by decide)]; first | assumption | exact mg_up_s _ _ _ | (rw [mg_up_n _ _ (by decide)]; first | assumption | exact mg_up_s _ _ _ | (rw [mg_up_n _ _ (by decide)]; first | assumption | exact mg_up_s _ _ _ | (rw [mg_up_n _ _ (by decide)]; first | assumption | exact mg_up_s _ _ _ | (rw [mg_up_n _ _ (by decide)]; first | assumption | exact mg_up_s _ _ _))))))) (Nat.le_of_ble_eq_true rfl) (fun _ => ⟨rfl, rfl⟩) ?_
  refine mg_eqM (M' := c0M M si x s) rfl ?_
  have hO1 : (c0M M si x s) 1000 = some (moE (upd si 0 0) x s) := mg_up_s _ _ _
  have hT1 : (c0M M si x s) 1021 = some (iaE 60 tf) := (mg_up_n _ _ (by decide)).trans e2
  have hF1 : (c0M M si x s) 1016 = some (iaE 60 ff) := (mg_up_n _ _ (by decide)).trans b2
  have hP1 : (c0M M si x s) 1022 = some (iaE 60 pf) := (mg_up_n _ _ (by decide)).trans f2
  first | refine mg_aload_n d_Mo_least_5 rfl rfl ?_ | refine mg_aload_nN d_Mo_least_5 rfl rfl ?_
  refine mg_getfield fl_Mo_181 d_Mo_least_6 (by first | assumption | exact mg_up_s _ _ _ | (rw [mg_up_n _ _ (by decide)]; first | assumption | exact mg_up_s _ _ _ | (rw [mg_up_n _ _ (by decide)]; first | assumption | exact mg_up_s _ _ _ | (rw [mg_up_n _ _ (by decide)]; first | assumption | exact mg_up_s _ _ _ | (rw [mg_up_n _ _ (by decide)]; first | assumption | exact mg_up_s _ _ _ | (rw [mg_up_n _ _ (by decide)]; first | assumption | exact mg_up_s _ _ _ | (rw [mg_up_n _ _ (by decide)]; first | assumption | exact mg_up_s _ _ _))))))) rfl ?_
  refine mg_eqi d1 ?_
  exact mg_ireturn d_Mo_least_9 rfl (bI_nar le) (Nat.le_of_ble_eq_true rfl) (Nat.le_of_ble_eq_true rfl) ⟨rfl, hz⟩

set_option maxHeartbeats 4000000 in
set_option maxRecDepth 100000 in
theorem c_Mo_sum {M : mg_M} {gs : List gN} {ps : List pN} {ks : List kN} {wa : Nat} {fo : fO} {le : Bool} {row nu pu : List Int32} {s : Int64}  (h : isMo M gs ps ks wa fo le row nu pu s)  : mg_Ct Y_Mo_sum { frames := 0, cells := 0, slots := 0, locals := 0 } [.ref 1000] M (fun v M' => v = some (.long s) ∧ isMo M' gs ps ks wa fo le row nu pu s ∧ sm 1000 1023 M M') := by
  obtain ⟨si, x, hO, hS, hWk, hI⟩ := id h
  obtain ⟨⟨a1, a2, a3, a4⟩, ⟨b1, ⟨ff, b2, b3, b4⟩⟩, ⟨c1, c2, c3⟩, d1, ⟨e1, ⟨tf, e2, e3, e4⟩⟩, f1, ⟨pf, f2, f3, f4⟩⟩ := id hS
  have hz := isMo.c0 (x := x) (s := s) hS hWk hI
  refine mg_met [some (.ref 1000)] (by decide +kernel) rfl (Nat.le_of_ble_eq_true rfl) ?_
  intro X hR _
  first | refine mg_aload_n d_Mo_sum_0 rfl rfl ?_ | refine mg_aload_nN d_Mo_sum_0 rfl rfl ?_
  refine mg_iconst (v := 0) d_Mo_sum_1 (by decide) ?_
  refine mg_putfield (fw_Mo_80 _) d_Mo_sum_2 (by first | assumption | exact mg_up_s _ _ _ | (rw [mg_up_n _ _ (by decide)]; first | assumption | exact mg_up_s _ _ _ | (rw [mg_up_n _ _ (by decide)]; first | assumption | exact mg_up_s _ _ _ | (rw [mg_up_n _ _ (by decide)]; first | assumption | exact mg_up_s _ _ _ | (rw [mg_up_n _ _ (by decide)]; first | assumption | exact mg_up_s _ _ _ | (rw [mg_up_n _ _ (by decide)]; first | assumption | exact mg_up_s _ _ _ | (rw [mg_up_n _ _ (by decide)]; first | assumption | exact mg_up_s _ _ _))))))) (Nat.le_of_ble_eq_true rfl) (fun _ => ⟨rfl, rfl⟩) ?_
  refine mg_eqM (M' := c0M M si x s) rfl ?_
  have hO1 : (c0M M si x s) 1000 = some (moE (upd si 0 0) x s) := mg_up_s _ _ _
  have hT1 : (c0M M si x s) 1021 = some (iaE 60 tf) := (mg_up_n _ _ (by decide)).trans e2
  have hF1 : (c0M M si x s) 1016 = some (iaE 60 ff) := (mg_up_n _ _ (by decide)).trans b2
  have hP1 : (c0M M si x s) 1022 = some (iaE 60 pf) := (mg_up_n _ _ (by decide)).trans f2
  first | refine mg_aload_n d_Mo_sum_5 rfl rfl ?_ | refine mg_aload_nN d_Mo_sum_5 rfl rfl ?_
  refine mg_getfield fl_Mo_199 d_Mo_sum_6 (by first | assumption | exact mg_up_s _ _ _ | (rw [mg_up_n _ _ (by decide)]; first | assumption | exact mg_up_s _ _ _ | (rw [mg_up_n _ _ (by decide)]; first | assumption | exact mg_up_s _ _ _ | (rw [mg_up_n _ _ (by decide)]; first | assumption | exact mg_up_s _ _ _ | (rw [mg_up_n _ _ (by decide)]; first | assumption | exact mg_up_s _ _ _ | (rw [mg_up_n _ _ (by decide)]; first | assumption | exact mg_up_s _ _ _ | (rw [mg_up_n _ _ (by decide)]; first | assumption | exact mg_up_s _ _ _))))))) rfl ?_
  exact mg_lreturn d_Mo_sum_9 rfl (Nat.le_of_ble_eq_true rfl) (Nat.le_of_ble_eq_true rfl) ⟨rfl, hz⟩

theorem foS.at {si : Nat → Int32} {fo : fO} {row : List Int32} (h : foS si fo row) {i : Int32} (h0 : ¬ i < 0) : (i < si 26 ↔ ¬ nI row.length ≤ i) := by
  match fo, h with
  | none, h =>
    obtain ⟨h1, h2⟩ := h
    subst h2
    rw [h1]
    refine ⟨fun e => absurd (Int32.lt_trans e (by decide)) h0, fun e => absurd (Int32.not_lt.mp h0) e⟩
  | some (a, j, v), h => rw [h.1]; exact ⟨fun e => Int32.not_le.mpr e, fun e => Int32.not_le.mp e⟩

set_option maxHeartbeats 4000000 in
set_option maxRecDepth 100000 in
theorem c_Mo_choice {M : mg_M} {gs : List gN} {ps : List pN} {ks : List kN} {wa : Nat} {fo : fO} {le : Bool} {row nu pu : List Int32} {s : Int64} {i : Int32} (h : isMo M gs ps ks wa fo le row nu pu s)  : mg_Ct Y_Mo_choice { frames := 0, cells := 0, slots := 0, locals := 0 } [.ref 1000, .int i] M (fun v M' => v = some (.int (atI row i (-1))) ∧ isMo M' gs ps ks wa fo le row nu pu s ∧ sm 1000 1023 M M') := by
  obtain ⟨si, x, hO, hS, hWk, hI⟩ := id h
  obtain ⟨⟨a1, a2, a3, a4⟩, ⟨b1, ⟨ff, b2, b3, b4⟩⟩, ⟨c1, c2, c3⟩, d1, ⟨e1, ⟨tf, e2, e3, e4⟩⟩, f1, ⟨pf, f2, f3, f4⟩⟩ := id hS
  have hz := isMo.c0 (x := x) (s := s) hS hWk hI
  refine mg_met [some (.ref 1000), some (.int i)] (by decide +kernel) rfl (Nat.le_of_ble_eq_true rfl) ?_
  intro X hR _
  first | refine mg_aload_n d_Mo_choice_0 rfl rfl ?_ | refine mg_aload_nN d_Mo_choice_0 rfl rfl ?_
  refine mg_iconst (v := 0) d_Mo_choice_1 (by decide) ?_
  refine mg_putfield (fw_Mo_80 _) d_Mo_choice_2 (by first | assumption | exact mg_up_s _ _ _ | (rw [mg_up_n _ _ (by decide)]; first | assumption | exact mg_up_s _ _ _ | (rw [mg_up_n _ _ (by decide)]; first | assumption | exact mg_up_s _ _ _ | (rw [mg_up_n _ _ (by decide)]; first | assumption | exact mg_up_s _ _ _ | (rw [mg_up_n _ _ (by decide)]; first | assumption | exact mg_up_s _ _ _ | (rw [mg_up_n _ _ (by decide)]; first | assumption | exact mg_up_s _ _ _ | (rw [mg_up_n _ _ (by decide)]; first | assumption | exact mg_up_s _ _ _))))))) (Nat.le_of_ble_eq_true rfl) (fun _ => ⟨rfl, rfl⟩) ?_
  refine mg_eqM (M' := c0M M si x s) rfl ?_
  have hO1 : (c0M M si x s) 1000 = some (moE (upd si 0 0) x s) := mg_up_s _ _ _
  have hT1 : (c0M M si x s) 1021 = some (iaE 60 tf) := (mg_up_n _ _ (by decide)).trans e2
  have hF1 : (c0M M si x s) 1016 = some (iaE 60 ff) := (mg_up_n _ _ (by decide)).trans b2
  have hP1 : (c0M M si x s) 1022 = some (iaE 60 pf) := (mg_up_n _ _ (by decide)).trans f2
  refine mg_iload_n d_Mo_choice_5 rfl rfl ?_
  refine mg_if_lt (tgt := 17) d_Mo_choice_6 (by decide) (fun c_6 => ?_) (fun c_6 => ?_)
  · refine mg_iconst (v := -1) d_Mo_choice_17 (by decide) ?_
    refine mg_goto (tgt := 27) d_Mo_choice_18 (by decide) ?_
    exact mg_ireturn d_Mo_choice_27 rfl rfl (Nat.le_of_ble_eq_true rfl) (Nat.le_of_ble_eq_true rfl) ⟨by rw [atI_lt c_6], hz⟩
  · refine mg_iload_n d_Mo_choice_9 rfl rfl ?_
    first | refine mg_aload_n d_Mo_choice_10 rfl rfl ?_ | refine mg_aload_nN d_Mo_choice_10 rfl rfl ?_
    refine mg_getfield fl_Mo_55 d_Mo_choice_11 (by first | assumption | exact mg_up_s _ _ _ | (rw [mg_up_n _ _ (by decide)]; first | assumption | exact mg_up_s _ _ _ | (rw [mg_up_n _ _ (by decide)]; first | assumption | exact mg_up_s _ _ _ | (rw [mg_up_n _ _ (by decide)]; first | assumption | exact mg_up_s _ _ _ | (rw [mg_up_n _ _ (by decide)]; first | assumption | exact mg_up_s _ _ _ | (rw [mg_up_n _ _ (by decide)]; first | assumption | exact mg_up_s _ _ _ | (rw [mg_up_n _ _ (by decide)]; first | assumption | exact mg_up_s _ _ _))))))) rfl ?_
    refine mg_icmp_lt (tgt := 21) d_Mo_choice_14 (by decide) (fun c_14 => ?_) (fun c_14 => ?_)
    · have hge : ¬ nI row.length ≤ i := (b1.at c_6).mp c_14
      obtain ⟨j, hj, rfl⟩ := ix_of b3 c_6 hge
      have hin : vp_in (nI j) 60 := nIw hj b3
      first | refine mg_aload_n d_Mo_choice_21 rfl rfl ?_ | refine mg_aload_nN d_Mo_choice_21 rfl rfl ?_
      refine mg_getfield fl_Mo_59 d_Mo_choice_22 (by first | assumption | exact mg_up_s _ _ _ | (rw [mg_up_n _ _ (by decide)]; first | assumption | exact mg_up_s _ _ _ | (rw [mg_up_n _ _ (by decide)]; first | assumption | exact mg_up_s _ _ _ | (rw [mg_up_n _ _ (by decide)]; first | assumption | exact mg_up_s _ _ _ | (rw [mg_up_n _ _ (by decide)]; first | assumption | exact mg_up_s _ _ _ | (rw [mg_up_n _ _ (by decide)]; first | assumption | exact mg_up_s _ _ _ | (rw [mg_up_n _ _ (by decide)]; first | assumption | exact mg_up_s _ _ _))))))) rfl ?_
      refine mg_iload_n d_Mo_choice_25 rfl rfl ?_
      refine mg_iaload rfl d_Mo_choice_26 (by first | assumption | exact mg_up_s _ _ _ | (rw [mg_up_n _ _ (by decide)]; first | assumption | exact mg_up_s _ _ _ | (rw [mg_up_n _ _ (by decide)]; first | assumption | exact mg_up_s _ _ _ | (rw [mg_up_n _ _ (by decide)]; first | assumption | exact mg_up_s _ _ _ | (rw [mg_up_n _ _ (by decide)]; first | assumption | exact mg_up_s _ _ _ | (rw [mg_up_n _ _ (by decide)]; first | assumption | exact mg_up_s _ _ _ | (rw [mg_up_n _ _ (by decide)]; first | assumption | exact mg_up_s _ _ _))))))) (by assumption) ?_
      refine mg_eqi (y := atI row (nI j) (-1)) (by rw [atI_in b3 hj, nI_clampN (by omega)]; exact b4 j hj) ?_
      exact mg_ireturn d_Mo_choice_27 rfl rfl (Nat.le_of_ble_eq_true rfl) (Nat.le_of_ble_eq_true rfl) ⟨rfl, hz⟩
    · refine mg_iconst (v := -1) d_Mo_choice_17 (by decide) ?_
      refine mg_goto (tgt := 27) d_Mo_choice_18 (by decide) ?_
      exact mg_ireturn d_Mo_choice_27 rfl rfl (Nat.le_of_ble_eq_true rfl) (Nat.le_of_ble_eq_true rfl) ⟨by rw [atI_ge (Decidable.not_not.mp (fun e => c_14 ((b1.at c_6).mpr e)))], hz⟩

set_option maxHeartbeats 4000000 in
set_option maxRecDepth 100000 in
theorem c_Mo_number {M : mg_M} {gs : List gN} {ps : List pN} {ks : List kN} {wa : Nat} {fo : fO} {le : Bool} {row nu pu : List Int32} {s : Int64} {i : Int32} (h : isMo M gs ps ks wa fo le row nu pu s)  : mg_Ct Y_Mo_number { frames := 0, cells := 0, slots := 0, locals := 0 } [.ref 1000, .int i] M (fun v M' => v = some (.int (atI nu i 0)) ∧ isMo M' gs ps ks wa fo le row nu pu s ∧ sm 1000 1023 M M') := by
  obtain ⟨si, x, hO, hS, hWk, hI⟩ := id h
  obtain ⟨⟨a1, a2, a3, a4⟩, ⟨b1, ⟨ff, b2, b3, b4⟩⟩, ⟨c1, c2, c3⟩, d1, ⟨e1, ⟨tf, e2, e3, e4⟩⟩, f1, ⟨pf, f2, f3, f4⟩⟩ := id hS
  have hz := isMo.c0 (x := x) (s := s) hS hWk hI
  refine mg_met [some (.ref 1000), some (.int i)] (by decide +kernel) rfl (Nat.le_of_ble_eq_true rfl) ?_
  intro X hR _
  first | refine mg_aload_n d_Mo_number_0 rfl rfl ?_ | refine mg_aload_nN d_Mo_number_0 rfl rfl ?_
  refine mg_iconst (v := 0) d_Mo_number_1 (by decide) ?_
  refine mg_putfield (fw_Mo_80 _) d_Mo_number_2 (by first | assumption | exact mg_up_s _ _ _ | (rw [mg_up_n _ _ (by decide)]; first | assumption | exact mg_up_s _ _ _ | (rw [mg_up_n _ _ (by decide)]; first | assumption | exact mg_up_s _ _ _ | (rw [mg_up_n _ _ (by decide)]; first | assumption | exact mg_up_s _ _ _ | (rw [mg_up_n _ _ (by decide)]; first | assumption | exact mg_up_s _ _ _ | (rw [mg_up_n _ _ (by decide)]; first | assumption | exact mg_up_s _ _ _ | (rw [mg_up_n _ _ (by decide)]; first | assumption | exact mg_up_s _ _ _))))))) (Nat.le_of_ble_eq_true rfl) (fun _ => ⟨rfl, rfl⟩) ?_
  refine mg_eqM (M' := c0M M si x s) rfl ?_
  have hO1 : (c0M M si x s) 1000 = some (moE (upd si 0 0) x s) := mg_up_s _ _ _
  have hT1 : (c0M M si x s) 1021 = some (iaE 60 tf) := (mg_up_n _ _ (by decide)).trans e2
  have hF1 : (c0M M si x s) 1016 = some (iaE 60 ff) := (mg_up_n _ _ (by decide)).trans b2
  have hP1 : (c0M M si x s) 1022 = some (iaE 60 pf) := (mg_up_n _ _ (by decide)).trans f2
  refine mg_iload_n d_Mo_number_5 rfl rfl ?_
  refine mg_if_lt (tgt := 17) d_Mo_number_6 (by decide) (fun c_6 => ?_) (fun c_6 => ?_)
  · refine mg_iconst (v := 0) d_Mo_number_17 (by decide) ?_
    refine mg_goto (tgt := 27) d_Mo_number_18 (by decide) ?_
    exact mg_ireturn d_Mo_number_27 rfl rfl (Nat.le_of_ble_eq_true rfl) (Nat.le_of_ble_eq_true rfl) ⟨by rw [atI_lt c_6], hz⟩
  · refine mg_iload_n d_Mo_number_9 rfl rfl ?_
    first | refine mg_aload_n d_Mo_number_10 rfl rfl ?_ | refine mg_aload_nN d_Mo_number_10 rfl rfl ?_
    refine mg_getfield fl_Mo_143 d_Mo_number_11 (by first | assumption | exact mg_up_s _ _ _ | (rw [mg_up_n _ _ (by decide)]; first | assumption | exact mg_up_s _ _ _ | (rw [mg_up_n _ _ (by decide)]; first | assumption | exact mg_up_s _ _ _ | (rw [mg_up_n _ _ (by decide)]; first | assumption | exact mg_up_s _ _ _ | (rw [mg_up_n _ _ (by decide)]; first | assumption | exact mg_up_s _ _ _ | (rw [mg_up_n _ _ (by decide)]; first | assumption | exact mg_up_s _ _ _ | (rw [mg_up_n _ _ (by decide)]; first | assumption | exact mg_up_s _ _ _))))))) rfl ?_
    refine mg_icmp_lt (tgt := 21) d_Mo_number_14 (by decide) (fun c_14 => ?_) (fun c_14 => ?_)
    · have hge : ¬ nI nu.length ≤ i := by rw [← e1]; exact Int32.not_le.mpr c_14
      obtain ⟨j, hj, rfl⟩ := ix_of e3 c_6 hge
      have hin : vp_in (nI j) 60 := nIw hj e3
      first | refine mg_aload_n d_Mo_number_21 rfl rfl ?_ | refine mg_aload_nN d_Mo_number_21 rfl rfl ?_
      refine mg_getfield fl_Mo_74 d_Mo_number_22 (by first | assumption | exact mg_up_s _ _ _ | (rw [mg_up_n _ _ (by decide)]; first | assumption | exact mg_up_s _ _ _ | (rw [mg_up_n _ _ (by decide)]; first | assumption | exact mg_up_s _ _ _ | (rw [mg_up_n _ _ (by decide)]; first | assumption | exact mg_up_s _ _ _ | (rw [mg_up_n _ _ (by decide)]; first | assumption | exact mg_up_s _ _ _ | (rw [mg_up_n _ _ (by decide)]; first | assumption | exact mg_up_s _ _ _ | (rw [mg_up_n _ _ (by decide)]; first | assumption | exact mg_up_s _ _ _))))))) rfl ?_
      refine mg_iload_n d_Mo_number_25 rfl rfl ?_
      refine mg_iaload rfl d_Mo_number_26 (by first | assumption | exact mg_up_s _ _ _ | (rw [mg_up_n _ _ (by decide)]; first | assumption | exact mg_up_s _ _ _ | (rw [mg_up_n _ _ (by decide)]; first | assumption | exact mg_up_s _ _ _ | (rw [mg_up_n _ _ (by decide)]; first | assumption | exact mg_up_s _ _ _ | (rw [mg_up_n _ _ (by decide)]; first | assumption | exact mg_up_s _ _ _ | (rw [mg_up_n _ _ (by decide)]; first | assumption | exact mg_up_s _ _ _ | (rw [mg_up_n _ _ (by decide)]; first | assumption | exact mg_up_s _ _ _))))))) (by assumption) ?_
      refine mg_eqi (y := atI nu (nI j) 0) (by rw [atI_in e3 hj, nI_clampN (by omega)]; exact e4 j hj) ?_
      exact mg_ireturn d_Mo_number_27 rfl rfl (Nat.le_of_ble_eq_true rfl) (Nat.le_of_ble_eq_true rfl) ⟨rfl, hz⟩
    · refine mg_iconst (v := 0) d_Mo_number_17 (by decide) ?_
      refine mg_goto (tgt := 27) d_Mo_number_18 (by decide) ?_
      exact mg_ireturn d_Mo_number_27 rfl rfl (Nat.le_of_ble_eq_true rfl) (Nat.le_of_ble_eq_true rfl) ⟨by rw [atI_ge (show nI nu.length ≤ i by rw [← e1]; exact Int32.not_lt.mp c_14)], hz⟩

theorem foS.sz {si : Nat → Int32} {fo : fO} {row : List Int32} (h : foS si fo row) (hl : row.length ≤ 60) : (if si 26 = -1 then 0 else si 26) = nI row.length := by
  match fo, h with
  | none, h => rw [if_pos h.1, h.2]; rfl
  | some (a, j, v), h => rw [h.1, if_neg (ne_m1 (by omega))]

set_option maxHeartbeats 4000000 in
set_option maxRecDepth 100000 in
theorem c_Mo_size {M : mg_M} {gs : List gN} {ps : List pN} {ks : List kN} {wa : Nat} {fo : fO} {le : Bool} {row nu pu : List Int32} {s : Int64} {i : Int32} (h : isMo M gs ps ks wa fo le row nu pu s)  : mg_Ct Y_Mo_size { frames := 0, cells := 0, slots := 0, locals := 0 } [.ref 1000, .int i] M (fun v M' => v = some (.int (sizF i row.length nu.length ks.length wa)) ∧ isMo M' gs ps ks wa fo le row nu pu s ∧ sm 1000 1023 M M') := by
  obtain ⟨si, x, hO, hS, hWk, hI⟩ := id h
  obtain ⟨⟨a1, a2, a3, a4⟩, ⟨b1, ⟨ff, b2, b3, b4⟩⟩, ⟨c1, c2, c3⟩, d1, ⟨e1, ⟨tf, e2, e3, e4⟩⟩, f1, ⟨pf, f2, f3, f4⟩⟩ := id hS
  have hz := isMo.c0 (x := x) (s := s) hS hWk hI
  refine mg_met [some (.ref 1000), some (.int i)] (by decide +kernel) rfl (Nat.le_of_ble_eq_true rfl) ?_
  intro X hR _
  first | refine mg_aload_n d_Mo_size_0 rfl rfl ?_ | refine mg_aload_nN d_Mo_size_0 rfl rfl ?_
  refine mg_iconst (v := 0) d_Mo_size_1 (by decide) ?_
  refine mg_putfield (fw_Mo_80 _) d_Mo_size_2 (by first | assumption | exact mg_up_s _ _ _ | (rw [mg_up_n _ _ (by decide)]; first | assumption | exact mg_up_s _ _ _ | (rw [mg_up_n _ _ (by decide)]; first | assumption | exact mg_up_s _ _ _ | (rw [mg_up_n _ _ (by decide)]; first | assumption | exact mg_up_s _ _ _ | (rw [mg_up_n _ _ (by decide)]; first | assumption | exact mg_up_s _ _ _ | (rw [mg_up_n _ _ (by decide)]; first | assumption | exact mg_up_s _ _ _ | (rw [mg_up_n _ _ (by decide)]; first | assumption | exact mg_up_s _ _ _))))))) (Nat.le_of_ble_eq_true rfl) (fun _ => ⟨rfl, rfl⟩) ?_
  refine mg_eqM (M' := c0M M si x s) rfl ?_
  have hO1 : (c0M M si x s) 1000 = some (moE (upd si 0 0) x s) := mg_up_s _ _ _
  have hT1 : (c0M M si x s) 1021 = some (iaE 60 tf) := (mg_up_n _ _ (by decide)).trans e2
  have hF1 : (c0M M si x s) 1016 = some (iaE 60 ff) := (mg_up_n _ _ (by decide)).trans b2
  have hP1 : (c0M M si x s) 1022 = some (iaE 60 pf) := (mg_up_n _ _ (by decide)).trans f2
  refine mg_iload_n d_Mo_size_5 rfl rfl ?_
  refine mg_if_ne (tgt := 28) d_Mo_size_6 (by decide) (fun c_6 => ?_) (fun c_6 => ?_)
  · refine mg_iload_n d_Mo_size_28 rfl rfl ?_
    refine mg_iconst (v := 1) d_Mo_size_29 (by decide) ?_
    refine mg_icmp_ne (tgt := 40) d_Mo_size_30 (by decide) (fun c_30 => ?_) (fun c_30 => ?_)
    · refine mg_iload_n d_Mo_size_40 rfl rfl ?_
      refine mg_iconst (v := 2) d_Mo_size_41 (by decide) ?_
      refine mg_icmp_ne (tgt := 52) d_Mo_size_42 (by decide) (fun c_42 => ?_) (fun c_42 => ?_)
      · refine mg_iload_n d_Mo_size_52 rfl rfl ?_
        refine mg_iconst (v := 3) d_Mo_size_53 (by decide) ?_
        refine mg_icmp_ne (tgt := 64) d_Mo_size_54 (by decide) (fun c_54 => ?_) (fun c_54 => ?_)
        · refine mg_iconst (v := -1) d_Mo_size_64 (by decide) ?_
          exact mg_ireturn d_Mo_size_65 rfl rfl (Nat.le_of_ble_eq_true rfl) (Nat.le_of_ble_eq_true rfl) ⟨by simp only [sizF, if_neg c_6, if_neg c_30, if_neg c_42, if_neg c_54], hz⟩
        · have k1 : i = 3 := (by first | exact c_54 | exact Decidable.not_not.mp c_54)
          refine mg_aload_n d_Mo_size_57 rfl rfl ?_
          refine mg_getfield fl_Mo_174 d_Mo_size_58 (by first | assumption | exact mg_up_s _ _ _ | (rw [mg_up_n _ _ (by decide)]; first | assumption | exact mg_up_s _ _ _ | (rw [mg_up_n _ _ (by decide)]; first | assumption | exact mg_up_s _ _ _ | (rw [mg_up_n _ _ (by decide)]; first | assumption | exact mg_up_s _ _ _ | (rw [mg_up_n _ _ (by decide)]; first | assumption | exact mg_up_s _ _ _ | (rw [mg_up_n _ _ (by decide)]; first | assumption | exact mg_up_s _ _ _ | (rw [mg_up_n _ _ (by decide)]; first | assumption | exact mg_up_s _ _ _))))))) rfl ?_
          refine mg_goto (tgt := 65) d_Mo_size_61 (by decide) ?_
          refine mg_eqi (y := nI wa) c2 ?_
          exact mg_ireturn d_Mo_size_65 rfl rfl (Nat.le_of_ble_eq_true rfl) (Nat.le_of_ble_eq_true rfl) ⟨by rw [k1]; rfl, hz⟩
      · have k1 : i = 2 := (by first | exact c_42 | exact Decidable.not_not.mp c_42)
        refine mg_aload_n d_Mo_size_45 rfl rfl ?_
        refine mg_getfield fl_Mo_158 d_Mo_size_46 (by first | assumption | exact mg_up_s _ _ _ | (rw [mg_up_n _ _ (by decide)]; first | assumption | exact mg_up_s _ _ _ | (rw [mg_up_n _ _ (by decide)]; first | assumption | exact mg_up_s _ _ _ | (rw [mg_up_n _ _ (by decide)]; first | assumption | exact mg_up_s _ _ _ | (rw [mg_up_n _ _ (by decide)]; first | assumption | exact mg_up_s _ _ _ | (rw [mg_up_n _ _ (by decide)]; first | assumption | exact mg_up_s _ _ _ | (rw [mg_up_n _ _ (by decide)]; first | assumption | exact mg_up_s _ _ _))))))) rfl ?_
        refine mg_goto (tgt := 65) d_Mo_size_49 (by decide) ?_
        refine mg_eqi (y := nI ks.length) c1 ?_
        exact mg_ireturn d_Mo_size_65 rfl rfl (Nat.le_of_ble_eq_true rfl) (Nat.le_of_ble_eq_true rfl) ⟨by rw [k1]; rfl, hz⟩
    · have k1 : i = 1 := (by first | exact c_30 | exact Decidable.not_not.mp c_30)
      refine mg_aload_n d_Mo_size_33 rfl rfl ?_
      refine mg_getfield fl_Mo_143 d_Mo_size_34 (by first | assumption | exact mg_up_s _ _ _ | (rw [mg_up_n _ _ (by decide)]; first | assumption | exact mg_up_s _ _ _ | (rw [mg_up_n _ _ (by decide)]; first | assumption | exact mg_up_s _ _ _ | (rw [mg_up_n _ _ (by decide)]; first | assumption | exact mg_up_s _ _ _ | (rw [mg_up_n _ _ (by decide)]; first | assumption | exact mg_up_s _ _ _ | (rw [mg_up_n _ _ (by decide)]; first | assumption | exact mg_up_s _ _ _ | (rw [mg_up_n _ _ (by decide)]; first | assumption | exact mg_up_s _ _ _))))))) rfl ?_
      refine mg_goto (tgt := 65) d_Mo_size_37 (by decide) ?_
      refine mg_eqi (y := nI nu.length) e1 ?_
      exact mg_ireturn d_Mo_size_65 rfl rfl (Nat.le_of_ble_eq_true rfl) (Nat.le_of_ble_eq_true rfl) ⟨by rw [k1]; rfl, hz⟩
  · have k0 : i = 0 := (by first | exact c_6 | exact Decidable.not_not.mp c_6)
    have es := b1.sz b3
    first | refine mg_aload_n d_Mo_size_9 rfl rfl ?_ | refine mg_aload_nN d_Mo_size_9 rfl rfl ?_
    refine mg_getfield fl_Mo_55 d_Mo_size_10 (by first | assumption | exact mg_up_s _ _ _ | (rw [mg_up_n _ _ (by decide)]; first | assumption | exact mg_up_s _ _ _ | (rw [mg_up_n _ _ (by decide)]; first | assumption | exact mg_up_s _ _ _ | (rw [mg_up_n _ _ (by decide)]; first | assumption | exact mg_up_s _ _ _ | (rw [mg_up_n _ _ (by decide)]; first | assumption | exact mg_up_s _ _ _ | (rw [mg_up_n _ _ (by decide)]; first | assumption | exact mg_up_s _ _ _ | (rw [mg_up_n _ _ (by decide)]; first | assumption | exact mg_up_s _ _ _))))))) rfl ?_
    refine mg_iconst (v := -1) d_Mo_size_13 (by decide) ?_
    refine mg_icmp_ne (tgt := 21) d_Mo_size_14 (by decide) (fun c_14 => ?_) (fun c_14 => ?_)
    · rw [if_neg (show ¬ si 26 = -1 from c_14)] at es
      refine mg_aload_n d_Mo_size_21 rfl rfl ?_
      refine mg_getfield fl_Mo_55 d_Mo_size_22 (by first | assumption | exact mg_up_s _ _ _ | (rw [mg_up_n _ _ (by decide)]; first | assumption | exact mg_up_s _ _ _ | (rw [mg_up_n _ _ (by decide)]; first | assumption | exact mg_up_s _ _ _ | (rw [mg_up_n _ _ (by decide)]; first | assumption | exact mg_up_s _ _ _ | (rw [mg_up_n _ _ (by decide)]; first | assumption | exact mg_up_s _ _ _ | (rw [mg_up_n _ _ (by decide)]; first | assumption | exact mg_up_s _ _ _ | (rw [mg_up_n _ _ (by decide)]; first | assumption | exact mg_up_s _ _ _))))))) rfl ?_
      refine mg_goto (tgt := 65) d_Mo_size_25 (by decide) ?_
      refine mg_eqi (y := nI row.length) es ?_
      exact mg_ireturn d_Mo_size_65 rfl rfl (Nat.le_of_ble_eq_true rfl) (Nat.le_of_ble_eq_true rfl) ⟨by rw [k0]; simp only [sizF, if_true], hz⟩
    · rw [if_pos (show si 26 = -1 from (by first | exact c_14 | exact Decidable.not_not.mp c_14))] at es
      refine mg_iconst (v := 0) d_Mo_size_17 (by decide) ?_
      refine mg_goto (tgt := 65) d_Mo_size_18 (by decide) ?_
      exact mg_ireturn d_Mo_size_65 rfl rfl (Nat.le_of_ble_eq_true rfl) (Nat.le_of_ble_eq_true rfl) ⟨by rw [k0]; simp only [sizF, if_true]; rw [← es], hz⟩

set_option maxHeartbeats 4000000 in
set_option maxRecDepth 100000 in
theorem c_Mo_put {M : mg_M} {gs : List gN} {ps : List pN} {ks : List kN} {wa : Nat} {fo : fO} {le : Bool} {row nu pu : List Int32} {s : Int64} {i : Int32} (h : isMo M gs ps ks wa fo le row nu pu s)  : mg_Ct Y_Mo_put { frames := 0, cells := 0, slots := 0, locals := 0 } [.ref 1000, .int i] M (fun v M' => v = some (.int (bI (putB pu i))) ∧ isMo M' gs ps ks wa fo le row nu (if putB pu i = true then pu ++ [i] else pu) s ∧ sm 1000 1023 M M') := by
  obtain ⟨si, x, hO, hS, hWk, hI⟩ := id h
  obtain ⟨⟨a1, a2, a3, a4⟩, ⟨b1, ⟨ff, b2, b3, b4⟩⟩, ⟨c1, c2, c3⟩, d1, ⟨e1, ⟨tf, e2, e3, e4⟩⟩, f1, ⟨pf, f2, f3, f4⟩⟩ := id hS
  have hz := isMo.c0 (x := x) (s := s) hS hWk hI
  refine mg_met [some (.ref 1000), some (.int i)] (by decide +kernel) rfl (Nat.le_of_ble_eq_true rfl) ?_
  intro X hR _
  first | refine mg_aload_n d_Mo_put_0 rfl rfl ?_ | refine mg_aload_nN d_Mo_put_0 rfl rfl ?_
  refine mg_iconst (v := 0) d_Mo_put_1 (by decide) ?_
  refine mg_putfield (fw_Mo_80 _) d_Mo_put_2 (by first | assumption | exact mg_up_s _ _ _ | (rw [mg_up_n _ _ (by decide)]; first | assumption | exact mg_up_s _ _ _ | (rw [mg_up_n _ _ (by decide)]; first | assumption | exact mg_up_s _ _ _ | (rw [mg_up_n _ _ (by decide)]; first | assumption | exact mg_up_s _ _ _ | (rw [mg_up_n _ _ (by decide)]; first | assumption | exact mg_up_s _ _ _ | (rw [mg_up_n _ _ (by decide)]; first | assumption | exact mg_up_s _ _ _ | (rw [mg_up_n _ _ (by decide)]; first | assumption | exact mg_up_s _ _ _))))))) (Nat.le_of_ble_eq_true rfl) (fun _ => ⟨rfl, rfl⟩) ?_
  refine mg_eqM (M' := c0M M si x s) rfl ?_
  have hO1 : (c0M M si x s) 1000 = some (moE (upd si 0 0) x s) := mg_up_s _ _ _
  have hT1 : (c0M M si x s) 1021 = some (iaE 60 tf) := (mg_up_n _ _ (by decide)).trans e2
  have hF1 : (c0M M si x s) 1016 = some (iaE 60 ff) := (mg_up_n _ _ (by decide)).trans b2
  have hP1 : (c0M M si x s) 1022 = some (iaE 60 pf) := (mg_up_n _ _ (by decide)).trans f2
  refine mg_iload_n d_Mo_put_5 rfl rfl ?_
  refine mg_if_lt (tgt := 18) d_Mo_put_6 (by decide) (fun c_6 => ?_) (fun c_6 => ?_)
  · refine mg_iconst (v := 0) d_Mo_put_18 (by decide) ?_
    have hB : putB pu i = false := by unfold putB; rw [decide_eq_false (fun e => e c_6)]; rfl
    rw [hB]
    exact mg_ireturn d_Mo_put_19 rfl rfl (Nat.le_of_ble_eq_true rfl) (Nat.le_of_ble_eq_true rfl) ⟨rfl, hz⟩
  · first | refine mg_aload_n d_Mo_put_9 rfl rfl ?_ | refine mg_aload_nN d_Mo_put_9 rfl rfl ?_
    refine mg_getfield fl_Mo_196 d_Mo_put_10 (by first | assumption | exact mg_up_s _ _ _ | (rw [mg_up_n _ _ (by decide)]; first | assumption | exact mg_up_s _ _ _ | (rw [mg_up_n _ _ (by decide)]; first | assumption | exact mg_up_s _ _ _ | (rw [mg_up_n _ _ (by decide)]; first | assumption | exact mg_up_s _ _ _ | (rw [mg_up_n _ _ (by decide)]; first | assumption | exact mg_up_s _ _ _ | (rw [mg_up_n _ _ (by decide)]; first | assumption | exact mg_up_s _ _ _ | (rw [mg_up_n _ _ (by decide)]; first | assumption | exact mg_up_s _ _ _))))))) rfl ?_
    refine mg_bipush (v := 60) d_Mo_put_13 (by decide) ?_
    refine mg_icmp_ne (tgt := 20) d_Mo_put_15 (by decide) (fun c_15 => ?_) (fun c_15 => ?_)
    · have hc : pu.length < 60 := by
        rcases Nat.lt_or_ge pu.length 60 with q | q
        · exact q
        · exact absurd (show si 41 = 60 by rw [f1, show pu.length = 60 by omega]; rfl) c_15
      have hin : vp_in (si 41) 60 := by rw [f1]; exact nIw hc (Nat.le_refl _)
      first | refine mg_aload_n d_Mo_put_20 rfl rfl ?_ | refine mg_aload_nN d_Mo_put_20 rfl rfl ?_
      refine mg_getfield fl_Mo_77 d_Mo_put_21 (by first | assumption | exact mg_up_s _ _ _ | (rw [mg_up_n _ _ (by decide)]; first | assumption | exact mg_up_s _ _ _ | (rw [mg_up_n _ _ (by decide)]; first | assumption | exact mg_up_s _ _ _ | (rw [mg_up_n _ _ (by decide)]; first | assumption | exact mg_up_s _ _ _ | (rw [mg_up_n _ _ (by decide)]; first | assumption | exact mg_up_s _ _ _ | (rw [mg_up_n _ _ (by decide)]; first | assumption | exact mg_up_s _ _ _ | (rw [mg_up_n _ _ (by decide)]; first | assumption | exact mg_up_s _ _ _))))))) rfl ?_
      first | refine mg_aload_n d_Mo_put_24 rfl rfl ?_ | refine mg_aload_nN d_Mo_put_24 rfl rfl ?_
      refine mg_getfield fl_Mo_196 d_Mo_put_25 (by first | assumption | exact mg_up_s _ _ _ | (rw [mg_up_n _ _ (by decide)]; first | assumption | exact mg_up_s _ _ _ | (rw [mg_up_n _ _ (by decide)]; first | assumption | exact mg_up_s _ _ _ | (rw [mg_up_n _ _ (by decide)]; first | assumption | exact mg_up_s _ _ _ | (rw [mg_up_n _ _ (by decide)]; first | assumption | exact mg_up_s _ _ _ | (rw [mg_up_n _ _ (by decide)]; first | assumption | exact mg_up_s _ _ _ | (rw [mg_up_n _ _ (by decide)]; first | assumption | exact mg_up_s _ _ _))))))) rfl ?_
      refine mg_iload_n d_Mo_put_28 rfl rfl ?_
      refine mg_iastore rfl d_Mo_put_29 (by first | assumption | exact mg_up_s _ _ _ | (rw [mg_up_n _ _ (by decide)]; first | assumption | exact mg_up_s _ _ _ | (rw [mg_up_n _ _ (by decide)]; first | assumption | exact mg_up_s _ _ _ | (rw [mg_up_n _ _ (by decide)]; first | assumption | exact mg_up_s _ _ _ | (rw [mg_up_n _ _ (by decide)]; first | assumption | exact mg_up_s _ _ _ | (rw [mg_up_n _ _ (by decide)]; first | assumption | exact mg_up_s _ _ _ | (rw [mg_up_n _ _ (by decide)]; first | assumption | exact mg_up_s _ _ _))))))) hin ?_
      refine mg_eqM (M' := mg_up (c0M M si x s) 1022 (iaE 60 (upd pf pu.length i))) (by rw [show (upd si 0 0) 41 = nI pu.length from f1, nI_clampN (by omega)]) ?_
      first | refine mg_aload_n d_Mo_put_30 rfl rfl ?_ | refine mg_aload_nN d_Mo_put_30 rfl rfl ?_
      refine mg_dup d_Mo_put_31 rfl ?_
      refine mg_getfield fl_Mo_196 d_Mo_put_32 (by first | assumption | exact mg_up_s _ _ _ | (rw [mg_up_n _ _ (by decide)]; first | assumption | exact mg_up_s _ _ _ | (rw [mg_up_n _ _ (by decide)]; first | assumption | exact mg_up_s _ _ _ | (rw [mg_up_n _ _ (by decide)]; first | assumption | exact mg_up_s _ _ _ | (rw [mg_up_n _ _ (by decide)]; first | assumption | exact mg_up_s _ _ _ | (rw [mg_up_n _ _ (by decide)]; first | assumption | exact mg_up_s _ _ _ | (rw [mg_up_n _ _ (by decide)]; first | assumption | exact mg_up_s _ _ _))))))) rfl ?_
      refine mg_iconst (v := 1) d_Mo_put_35 (by decide) ?_
      refine mg_iadd d_Mo_put_36 ?_
      refine mg_eqi (y := nI (pu.length + 1)) (by rw [show (upd si 0 0) 41 = nI pu.length from f1, nI_1]) ?_
      refine mg_putfield (fw_Mo_196 _) d_Mo_put_37 (by first | assumption | exact mg_up_s _ _ _ | (rw [mg_up_n _ _ (by decide)]; first | assumption | exact mg_up_s _ _ _ | (rw [mg_up_n _ _ (by decide)]; first | assumption | exact mg_up_s _ _ _ | (rw [mg_up_n _ _ (by decide)]; first | assumption | exact mg_up_s _ _ _ | (rw [mg_up_n _ _ (by decide)]; first | assumption | exact mg_up_s _ _ _ | (rw [mg_up_n _ _ (by decide)]; first | assumption | exact mg_up_s _ _ _ | (rw [mg_up_n _ _ (by decide)]; first | assumption | exact mg_up_s _ _ _))))))) (Nat.le_of_ble_eq_true rfl) (fun _ => ⟨rfl, rfl⟩) ?_
      refine mg_eqM (M' := mg_up (mg_up (c0M M si x s) 1022 (iaE 60 (upd pf pu.length i))) 1000 (moE (upd (upd si 0 0) 41 (nI (pu.length + 1))) x s)) rfl ?_
      refine mg_iconst (v := 1) d_Mo_put_40 (by decide) ?_
      have hB : putB pu i = true := by unfold putB; rw [decide_eq_true c_6, decide_eq_true hc]; rfl
      rw [hB]
      have U : ∀ k, k ≠ 1000 → k ≠ 1022 → (mg_up (mg_up (c0M M si x s) 1022 (iaE 60 (upd pf pu.length i))) 1000 (moE (upd (upd si 0 0) 41 (nI (pu.length + 1))) x s)) k = M k := fun k h1 h2 => (mg_up_n _ _ h1).trans ((mg_up_n _ _ h2).trans (mg_up_n _ _ h1))
      refine mg_ireturn d_Mo_put_41 rfl rfl (Nat.le_of_ble_eq_true rfl) (Nat.le_of_ble_eq_true rfl) ⟨rfl, ⟨_, x, mg_up_s _ _ _, ⟨⟨a1, a2, a3.eq (fun k _ _ => U k (by omega) (by omega)), a4.eq (fun k _ _ => U k (by omega) (by omega))⟩, ⟨b1, ff, (U _ (by decide) (by decide)).trans b2, b3, b4⟩, ⟨c1, c2, c3.eq (fun k _ _ => U k (by omega) (by omega))⟩, d1, ⟨e1, tf, (U _ (by decide) (by decide)).trans e2, e3, e4⟩, ?_, ?_⟩, hWk.eq (fun k _ _ => U k (by omega) (by omega)), ?_⟩, fun k hk => U k (by omega) (by omega)⟩
      · rw [if_pos rfl, List.length_append]; exact pk_us
      · rw [if_pos rfl]; exact isA_push f4 hc ((mg_up_n _ _ (by decide)).trans (mg_up_s _ _ _))
      · obtain ⟨gv, hI, h5⟩ := hI
        exact ⟨gv, hI.eq (U _ (by decide) (by decide)), h5⟩
    · have hc : pu.length = 60 := by
        have e : si 41 = 60 := (by first | exact c_15 | exact Decidable.not_not.mp c_15)
        rw [f1] at e
        exact (nI_eq (b := 60) (by omega) (by decide)).mp e
      refine mg_iconst (v := 0) d_Mo_put_18 (by decide) ?_
      have hB : putB pu i = false := by unfold putB; rw [decide_eq_false (show ¬ pu.length < 60 by omega), Bool.and_false]
      rw [hB]
      exact mg_ireturn d_Mo_put_19 rfl rfl (Nat.le_of_ble_eq_true rfl) (Nat.le_of_ble_eq_true rfl) ⟨rfl, hz⟩

set_option maxHeartbeats 4000000 in
set_option maxRecDepth 100000 in
theorem c_Mo_property {M : mg_M} {gs : List gN} {ps : List pN} {ks : List kN} {wa : Nat} {fo : fO} {le : Bool} {row nu pu : List Int32} {s : Int64} {kd k c : Int32} (h : isMo M gs ps ks wa fo le row nu pu s) (hpl : ps.length ≤ 10) : mg_Ct Y_Mo_property { frames := 0, cells := 0, slots := 0, locals := 0 } [.ref 1000, .int kd, .int k, .int c] M (fun v M' => v = some (.int (prS ps kd k c).1) ∧ isMo M' gs (prS ps kd k c).2 ks wa fo le row nu pu s ∧ sm 1000 1023 M M') := by
  obtain ⟨si, x, hO, hS, hWk, hI⟩ := id h
  obtain ⟨⟨a1, a2, a3, a4⟩, ⟨b1, ⟨ff, b2, b3, b4⟩⟩, ⟨c1, c2, c3⟩, d1, ⟨e1, ⟨tf, e2, e3, e4⟩⟩, f1, ⟨pf, f2, f3, f4⟩⟩ := id hS
  have hz := isMo.c0 (x := x) (s := s) hS hWk hI
  refine mg_met [some (.ref 1000), some (.int kd), some (.int k), some (.int c)] (by decide +kernel) rfl (Nat.le_of_ble_eq_true rfl) ?_
  intro X hR _
  first | refine mg_aload_n d_Mo_property_0 rfl rfl ?_ | refine mg_aload_nN d_Mo_property_0 rfl rfl ?_
  refine mg_iconst (v := 0) d_Mo_property_1 (by decide) ?_
  refine mg_putfield (fw_Mo_80 _) d_Mo_property_2 (by first | assumption | exact mg_up_s _ _ _ | (rw [mg_up_n _ _ (by decide)]; first | assumption | exact mg_up_s _ _ _ | (rw [mg_up_n _ _ (by decide)]; first | assumption | exact mg_up_s _ _ _ | (rw [mg_up_n _ _ (by decide)]; first | assumption | exact mg_up_s _ _ _ | (rw [mg_up_n _ _ (by decide)]; first | assumption | exact mg_up_s _ _ _ | (rw [mg_up_n _ _ (by decide)]; first | assumption | exact mg_up_s _ _ _ | (rw [mg_up_n _ _ (by decide)]; first | assumption | exact mg_up_s _ _ _))))))) (Nat.le_of_ble_eq_true rfl) (fun _ => ⟨rfl, rfl⟩) ?_
  refine mg_eqM (M' := c0M M si x s) rfl ?_
  have hO1 : (c0M M si x s) 1000 = some (moE (upd si 0 0) x s) := mg_up_s _ _ _
  have hT1 : (c0M M si x s) 1021 = some (iaE 60 tf) := (mg_up_n _ _ (by decide)).trans e2
  have hF1 : (c0M M si x s) 1016 = some (iaE 60 ff) := (mg_up_n _ _ (by decide)).trans b2
  have hP1 : (c0M M si x s) 1022 = some (iaE 60 pf) := (mg_up_n _ _ (by decide)).trans f2
  first | refine mg_aload_n d_Mo_property_5 rfl rfl ?_ | refine mg_aload_nN d_Mo_property_5 rfl rfl ?_
  refine mg_getfield fl_Mo_94 d_Mo_property_6 (by first | assumption | exact mg_up_s _ _ _ | (rw [mg_up_n _ _ (by decide)]; first | assumption | exact mg_up_s _ _ _ | (rw [mg_up_n _ _ (by decide)]; first | assumption | exact mg_up_s _ _ _ | (rw [mg_up_n _ _ (by decide)]; first | assumption | exact mg_up_s _ _ _ | (rw [mg_up_n _ _ (by decide)]; first | assumption | exact mg_up_s _ _ _ | (rw [mg_up_n _ _ (by decide)]; first | assumption | exact mg_up_s _ _ _ | (rw [mg_up_n _ _ (by decide)]; first | assumption | exact mg_up_s _ _ _))))))) rfl ?_
  refine mg_bipush (v := 10) d_Mo_property_9 (by decide) ?_
  refine mg_icmp_eq (tgt := 33) d_Mo_property_11 (by decide) (fun c_11 => ?_) (fun c_11 => ?_)
  · refine mg_iconst (v := -1) d_Mo_property_33 (by decide) ?_
    rw [prS, if_pos (Or.inl (by have e : si 2 = 10 := c_11; rw [a2] at e; have := (nI_eq (b := 10) (by omega) (by decide)).mp e; omega))]
    exact mg_ireturn d_Mo_property_34 rfl rfl (Nat.le_of_ble_eq_true rfl) (Nat.le_of_ble_eq_true rfl) ⟨rfl, hz⟩
  · refine mg_iload_n d_Mo_property_14 rfl rfl ?_
    refine mg_if_lt (tgt := 33) d_Mo_property_15 (by decide) (fun c_15 => ?_) (fun c_15 => ?_)
    · refine mg_iconst (v := -1) d_Mo_property_33 (by decide) ?_
      rw [prS, if_pos (Or.inr (Or.inl c_15))]
      exact mg_ireturn d_Mo_property_34 rfl rfl (Nat.le_of_ble_eq_true rfl) (Nat.le_of_ble_eq_true rfl) ⟨rfl, hz⟩
    · refine mg_iload_n d_Mo_property_18 rfl rfl ?_
      refine mg_iconst (v := 4) d_Mo_property_19 (by decide) ?_
      refine mg_icmp_gt (tgt := 33) d_Mo_property_20 (by decide) (fun c_20 => ?_) (fun c_20 => ?_)
      · refine mg_iconst (v := -1) d_Mo_property_33 (by decide) ?_
        rw [prS, if_pos (Or.inr (Or.inr (Or.inl c_20)))]
        exact mg_ireturn d_Mo_property_34 rfl rfl (Nat.le_of_ble_eq_true rfl) (Nat.le_of_ble_eq_true rfl) ⟨rfl, hz⟩
      · refine mg_iload_n d_Mo_property_23 rfl rfl ?_
        refine mg_if_lt (tgt := 33) d_Mo_property_24 (by decide) (fun c_24 => ?_) (fun c_24 => ?_)
        · refine mg_iconst (v := -1) d_Mo_property_33 (by decide) ?_
          rw [prS, if_pos (Or.inr (Or.inr (Or.inr (Or.inl c_24))))]
          exact mg_ireturn d_Mo_property_34 rfl rfl (Nat.le_of_ble_eq_true rfl) (Nat.le_of_ble_eq_true rfl) ⟨rfl, hz⟩
        · refine mg_iload_n d_Mo_property_27 rfl rfl ?_
          refine mg_bipush (v := 10) d_Mo_property_28 (by decide) ?_
          refine mg_icmp_le (tgt := 35) d_Mo_property_30 (by decide) (fun c_30 => ?_) (fun c_30 => ?_)
          · have hc : ps.length < 10 := by
              rcases Nat.lt_or_ge ps.length 10 with q | q
              · exact q
              · exact absurd (show si 2 = 10 by rw [a2, show ps.length = 10 by omega]; rfl) c_11
            have hin : vp_in (si 2) 10 := by rw [a2]; exact vp_in_nI hc (by decide)
            obtain ⟨g1, g2, g3, q1, q2, q3, qe⟩ := id a4
            have r1 : (c0M M si x s) 1005 = some (iaE 10 g1) := (mg_up_n _ _ (by decide)).trans q1
            have r2 : (c0M M si x s) 1006 = some (iaE 10 g2) := (mg_up_n _ _ (by decide)).trans q2
            have r3 : (c0M M si x s) 1007 = some (iaE 10 g3) := (mg_up_n _ _ (by decide)).trans q3
            first | refine mg_aload_n d_Mo_property_35 rfl rfl ?_ | refine mg_aload_nN d_Mo_property_35 rfl rfl ?_
            refine mg_getfield fl_Mo_22 d_Mo_property_36 (by first | assumption | exact mg_up_s _ _ _ | (rw [mg_up_n _ _ (by decide)]; first | assumption | exact mg_up_s _ _ _ | (rw [mg_up_n _ _ (by decide)]; first | assumption | exact mg_up_s _ _ _ | (rw [mg_up_n _ _ (by decide)]; first | assumption | exact mg_up_s _ _ _ | (rw [mg_up_n _ _ (by decide)]; first | assumption | exact mg_up_s _ _ _ | (rw [mg_up_n _ _ (by decide)]; first | assumption | exact mg_up_s _ _ _ | (rw [mg_up_n _ _ (by decide)]; first | assumption | exact mg_up_s _ _ _))))))) rfl ?_
            first | refine mg_aload_n d_Mo_property_39 rfl rfl ?_ | refine mg_aload_nN d_Mo_property_39 rfl rfl ?_
            refine mg_getfield fl_Mo_94 d_Mo_property_40 (by first | assumption | exact mg_up_s _ _ _ | (rw [mg_up_n _ _ (by decide)]; first | assumption | exact mg_up_s _ _ _ | (rw [mg_up_n _ _ (by decide)]; first | assumption | exact mg_up_s _ _ _ | (rw [mg_up_n _ _ (by decide)]; first | assumption | exact mg_up_s _ _ _ | (rw [mg_up_n _ _ (by decide)]; first | assumption | exact mg_up_s _ _ _ | (rw [mg_up_n _ _ (by decide)]; first | assumption | exact mg_up_s _ _ _ | (rw [mg_up_n _ _ (by decide)]; first | assumption | exact mg_up_s _ _ _))))))) rfl ?_
            refine mg_iload_n d_Mo_property_43 rfl rfl ?_
            refine mg_iastore rfl d_Mo_property_44 (by first | assumption | exact mg_up_s _ _ _ | (rw [mg_up_n _ _ (by decide)]; first | assumption | exact mg_up_s _ _ _ | (rw [mg_up_n _ _ (by decide)]; first | assumption | exact mg_up_s _ _ _ | (rw [mg_up_n _ _ (by decide)]; first | assumption | exact mg_up_s _ _ _ | (rw [mg_up_n _ _ (by decide)]; first | assumption | exact mg_up_s _ _ _ | (rw [mg_up_n _ _ (by decide)]; first | assumption | exact mg_up_s _ _ _ | (rw [mg_up_n _ _ (by decide)]; first | assumption | exact mg_up_s _ _ _))))))) hin ?_
            refine mg_eqM (M' := mg_up (c0M M si x s) 1005 (iaE 10 (upd g1 ps.length kd))) (by rw [show (upd si 0 0) 2 = nI ps.length from a2, nI_clamp (by omega)]) ?_
            first | refine mg_aload_n d_Mo_property_45 rfl rfl ?_ | refine mg_aload_nN d_Mo_property_45 rfl rfl ?_
            refine mg_getfield fl_Mo_25 d_Mo_property_46 (by first | assumption | exact mg_up_s _ _ _ | (rw [mg_up_n _ _ (by decide)]; first | assumption | exact mg_up_s _ _ _ | (rw [mg_up_n _ _ (by decide)]; first | assumption | exact mg_up_s _ _ _ | (rw [mg_up_n _ _ (by decide)]; first | assumption | exact mg_up_s _ _ _ | (rw [mg_up_n _ _ (by decide)]; first | assumption | exact mg_up_s _ _ _ | (rw [mg_up_n _ _ (by decide)]; first | assumption | exact mg_up_s _ _ _ | (rw [mg_up_n _ _ (by decide)]; first | assumption | exact mg_up_s _ _ _))))))) rfl ?_
            first | refine mg_aload_n d_Mo_property_49 rfl rfl ?_ | refine mg_aload_nN d_Mo_property_49 rfl rfl ?_
            refine mg_getfield fl_Mo_94 d_Mo_property_50 (by first | assumption | exact mg_up_s _ _ _ | (rw [mg_up_n _ _ (by decide)]; first | assumption | exact mg_up_s _ _ _ | (rw [mg_up_n _ _ (by decide)]; first | assumption | exact mg_up_s _ _ _ | (rw [mg_up_n _ _ (by decide)]; first | assumption | exact mg_up_s _ _ _ | (rw [mg_up_n _ _ (by decide)]; first | assumption | exact mg_up_s _ _ _ | (rw [mg_up_n _ _ (by decide)]; first | assumption | exact mg_up_s _ _ _ | (rw [mg_up_n _ _ (by decide)]; first | assumption | exact mg_up_s _ _ _))))))) rfl ?_
            refine mg_iload_n d_Mo_property_53 rfl rfl ?_
            refine mg_iastore rfl d_Mo_property_54 (by first | assumption | exact mg_up_s _ _ _ | (rw [mg_up_n _ _ (by decide)]; first | assumption | exact mg_up_s _ _ _ | (rw [mg_up_n _ _ (by decide)]; first | assumption | exact mg_up_s _ _ _ | (rw [mg_up_n _ _ (by decide)]; first | assumption | exact mg_up_s _ _ _ | (rw [mg_up_n _ _ (by decide)]; first | assumption | exact mg_up_s _ _ _ | (rw [mg_up_n _ _ (by decide)]; first | assumption | exact mg_up_s _ _ _ | (rw [mg_up_n _ _ (by decide)]; first | assumption | exact mg_up_s _ _ _))))))) hin ?_
            refine mg_eqM (M' := mg_up (mg_up (c0M M si x s) 1005 (iaE 10 (upd g1 ps.length kd))) 1006 (iaE 10 (upd g2 ps.length k))) (by rw [show (upd si 0 0) 2 = nI ps.length from a2, nI_clamp (by omega)]) ?_
            first | refine mg_aload_n d_Mo_property_55 rfl rfl ?_ | refine mg_aload_nN d_Mo_property_55 rfl rfl ?_
            refine mg_getfield fl_Mo_28 d_Mo_property_56 (by first | assumption | exact mg_up_s _ _ _ | (rw [mg_up_n _ _ (by decide)]; first | assumption | exact mg_up_s _ _ _ | (rw [mg_up_n _ _ (by decide)]; first | assumption | exact mg_up_s _ _ _ | (rw [mg_up_n _ _ (by decide)]; first | assumption | exact mg_up_s _ _ _ | (rw [mg_up_n _ _ (by decide)]; first | assumption | exact mg_up_s _ _ _ | (rw [mg_up_n _ _ (by decide)]; first | assumption | exact mg_up_s _ _ _ | (rw [mg_up_n _ _ (by decide)]; first | assumption | exact mg_up_s _ _ _))))))) rfl ?_
            first | refine mg_aload_n d_Mo_property_59 rfl rfl ?_ | refine mg_aload_nN d_Mo_property_59 rfl rfl ?_
            refine mg_getfield fl_Mo_94 d_Mo_property_60 (by first | assumption | exact mg_up_s _ _ _ | (rw [mg_up_n _ _ (by decide)]; first | assumption | exact mg_up_s _ _ _ | (rw [mg_up_n _ _ (by decide)]; first | assumption | exact mg_up_s _ _ _ | (rw [mg_up_n _ _ (by decide)]; first | assumption | exact mg_up_s _ _ _ | (rw [mg_up_n _ _ (by decide)]; first | assumption | exact mg_up_s _ _ _ | (rw [mg_up_n _ _ (by decide)]; first | assumption | exact mg_up_s _ _ _ | (rw [mg_up_n _ _ (by decide)]; first | assumption | exact mg_up_s _ _ _))))))) rfl ?_
            refine mg_iload_n d_Mo_property_63 rfl rfl ?_
            refine mg_iastore rfl d_Mo_property_64 (by first | assumption | exact mg_up_s _ _ _ | (rw [mg_up_n _ _ (by decide)]; first | assumption | exact mg_up_s _ _ _ | (rw [mg_up_n _ _ (by decide)]; first | assumption | exact mg_up_s _ _ _ | (rw [mg_up_n _ _ (by decide)]; first | assumption | exact mg_up_s _ _ _ | (rw [mg_up_n _ _ (by decide)]; first | assumption | exact mg_up_s _ _ _ | (rw [mg_up_n _ _ (by decide)]; first | assumption | exact mg_up_s _ _ _ | (rw [mg_up_n _ _ (by decide)]; first | assumption | exact mg_up_s _ _ _))))))) hin ?_
            refine mg_eqM (M' := mg_up (mg_up (mg_up (c0M M si x s) 1005 (iaE 10 (upd g1 ps.length kd))) 1006 (iaE 10 (upd g2 ps.length k))) 1007 (iaE 10 (upd g3 ps.length c))) (by rw [show (upd si 0 0) 2 = nI ps.length from a2, nI_clamp (by omega)]) ?_
            first | refine mg_aload_n d_Mo_property_65 rfl rfl ?_ | refine mg_aload_nN d_Mo_property_65 rfl rfl ?_
            refine mg_dup d_Mo_property_66 rfl ?_
            refine mg_getfield fl_Mo_94 d_Mo_property_67 (by first | assumption | exact mg_up_s _ _ _ | (rw [mg_up_n _ _ (by decide)]; first | assumption | exact mg_up_s _ _ _ | (rw [mg_up_n _ _ (by decide)]; first | assumption | exact mg_up_s _ _ _ | (rw [mg_up_n _ _ (by decide)]; first | assumption | exact mg_up_s _ _ _ | (rw [mg_up_n _ _ (by decide)]; first | assumption | exact mg_up_s _ _ _ | (rw [mg_up_n _ _ (by decide)]; first | assumption | exact mg_up_s _ _ _ | (rw [mg_up_n _ _ (by decide)]; first | assumption | exact mg_up_s _ _ _))))))) rfl ?_
            refine mg_iconst (v := 1) d_Mo_property_70 (by decide) ?_
            refine mg_iadd d_Mo_property_71 ?_
            refine mg_eqi (y := nI (ps.length + 1)) (by rw [show (upd si 0 0) 2 = nI ps.length from a2, nI_1]) ?_
            refine mg_putfield (fw_Mo_94 _) d_Mo_property_72 (by first | assumption | exact mg_up_s _ _ _ | (rw [mg_up_n _ _ (by decide)]; first | assumption | exact mg_up_s _ _ _ | (rw [mg_up_n _ _ (by decide)]; first | assumption | exact mg_up_s _ _ _ | (rw [mg_up_n _ _ (by decide)]; first | assumption | exact mg_up_s _ _ _ | (rw [mg_up_n _ _ (by decide)]; first | assumption | exact mg_up_s _ _ _ | (rw [mg_up_n _ _ (by decide)]; first | assumption | exact mg_up_s _ _ _ | (rw [mg_up_n _ _ (by decide)]; first | assumption | exact mg_up_s _ _ _))))))) (Nat.le_of_ble_eq_true rfl) (fun _ => ⟨rfl, rfl⟩) ?_
            refine mg_eqM (M' := mg_up (mg_up (mg_up (mg_up (c0M M si x s) 1005 (iaE 10 (upd g1 ps.length kd))) 1006 (iaE 10 (upd g2 ps.length k))) 1007 (iaE 10 (upd g3 ps.length c))) 1000 (moE (upd (upd si 0 0) 2 (nI (ps.length + 1))) x s)) rfl ?_
            first | refine mg_aload_n d_Mo_property_75 rfl rfl ?_ | refine mg_aload_nN d_Mo_property_75 rfl rfl ?_
            refine mg_getfield fl_Mo_94 d_Mo_property_76 (by first | assumption | exact mg_up_s _ _ _ | (rw [mg_up_n _ _ (by decide)]; first | assumption | exact mg_up_s _ _ _ | (rw [mg_up_n _ _ (by decide)]; first | assumption | exact mg_up_s _ _ _ | (rw [mg_up_n _ _ (by decide)]; first | assumption | exact mg_up_s _ _ _ | (rw [mg_up_n _ _ (by decide)]; first | assumption | exact mg_up_s _ _ _ | (rw [mg_up_n _ _ (by decide)]; first | assumption | exact mg_up_s _ _ _ | (rw [mg_up_n _ _ (by decide)]; first | assumption | exact mg_up_s _ _ _))))))) rfl ?_
            refine mg_iconst (v := 1) d_Mo_property_79 (by decide) ?_
            refine mg_isub d_Mo_property_80 ?_
            refine mg_eqi (y := nI ps.length) (by show nI (ps.length + 1) - 1 = _; exact nI_pred _) ?_
            rw [prS, if_neg (by rintro (e | e | e | e | e); exact absurd e (by omega); exact c_15 e; exact c_20 e; exact c_24 e; exact absurd c_30 (Int32.not_le.mpr e))]
            have U : ∀ t : Nat, t ≠ 1000 → (t < 1005 ∨ 1008 ≤ t) → (mg_up (mg_up (mg_up (mg_up (c0M M si x s) 1005 (iaE 10 (upd g1 ps.length kd))) 1006 (iaE 10 (upd g2 ps.length k))) 1007 (iaE 10 (upd g3 ps.length c))) 1000 (moE (upd (upd si 0 0) 2 (nI (ps.length + 1))) x s)) t = M t := fun t h1 h2 => (mg_up_n _ _ h1).trans ((mg_up_n _ _ (by omega)).trans ((mg_up_n _ _ (by omega)).trans ((mg_up_n _ _ (by omega)).trans (mg_up_n _ _ h1))))
            refine mg_ireturn d_Mo_property_81 rfl rfl (Nat.le_of_ble_eq_true rfl) (Nat.le_of_ble_eq_true rfl) ⟨rfl, ⟨_, x, mg_up_s _ _ _, ⟨⟨a1, ?_, a3.eq (fun k _ _ => U k (by omega) (by omega)), ?_⟩, ⟨b1, ff, (U _ (by decide) (by decide)).trans b2, b3, b4⟩, ⟨c1, c2, c3.eq (fun k _ _ => U k (by omega) (by omega))⟩, d1, ⟨e1, tf, (U _ (by decide) (by decide)).trans e2, e3, e4⟩, f1, pf, (U _ (by decide) (by decide)).trans f2, f3, f4⟩, hWk.eq (fun k _ _ => U k (by omega) (by omega)), ?_⟩, fun k hk => U k (by omega) (by omega)⟩
            · rw [List.length_append]; exact pk_us
            · refine ⟨upd g1 ps.length kd, upd g2 ps.length k, upd g3 ps.length c, (mg_up_n _ _ (by decide)).trans ((mg_up_n _ _ (by decide)).trans ((mg_up_n _ _ (by decide)).trans (mg_up_s _ _ _))), (mg_up_n _ _ (by decide)).trans ((mg_up_n _ _ (by decide)).trans (mg_up_s _ _ _)), (mg_up_n _ _ (by decide)).trans (mg_up_s _ _ _), fun t p hp => ?_⟩
              rcases Nat.lt_or_ge t ps.length with q | q
              · rw [List.getElem?_append_left q] at hp
                rw [pk_un (by omega), pk_un (by omega), pk_un (by omega)]; exact qe t p hp
              · rw [List.getElem?_append_right q] at hp
                have hz1 : t - ps.length < 1 := (List.getElem?_eq_some_iff.mp hp).1
                have e : t = ps.length := by omega
                subst e
                rw [Nat.sub_self] at hp
                have hp2 := Option.some.inj hp
                subst hp2
                exact ⟨pk_us, pk_us, pk_us⟩
            · obtain ⟨gv, hI, h5⟩ := hI
              exact ⟨gv, hI.eq (U _ (by decide) (by decide)), h5⟩
          · refine mg_iconst (v := -1) d_Mo_property_33 (by decide) ?_
            rw [prS, if_pos (Or.inr (Or.inr (Or.inr (Or.inr (Int32.not_le.mp c_30)))))]
            exact mg_ireturn d_Mo_property_34 rfl rfl (Nat.le_of_ble_eq_true rfl) (Nat.le_of_ble_eq_true rfl) ⟨rfl, hz⟩

