/-! INTS: a list of at most sixty ints, at the handles h (the object) and h + 1 (its array) -/
theorem mg_eqi {X : mg_X} {Y : mg_Y} {Q : State → Prop} {M : mg_M} {k j pc : Nat} {lv : List (Option Value)} {rest : List Value} {x y : Int32} (e : x = y) (kk : mg_G X Y Q M k j pc lv (.int y :: rest)) : mg_G X Y Q M k j pc lv (.int x :: rest) := e ▸ kk
theorem mg_eql {X : mg_X} {Y : mg_Y} {Q : State → Prop} {M : mg_M} {k j pc : Nat} {lv lv' : List (Option Value)} {st : List Value} (e : lv = lv') (kk : mg_G X Y Q M k j pc lv' st) : mg_G X Y Q M k j pc lv st := e ▸ kk
theorem mg_eqM {X : mg_X} {Y : mg_Y} {Q : State → Prop} {M M' : mg_M} {k j pc : Nat} {lv : List (Option Value)} {st : List Value} (e : M = M') (kk : mg_G X Y Q M' k j pc lv st) : mg_G X Y Q M k j pc lv st := e ▸ kk
theorem mg_eqk {X : mg_X} {Y : mg_Y} {Q : State → Prop} {M : mg_M} {k j k' j' pc : Nat} {lv : List (Option Value)} {st : List Value} (e : k = k') (e' : j = j') (kk : mg_G X Y Q M k' j' pc lv st) : mg_G X Y Q M k j pc lv st := e ▸ e' ▸ kk
theorem mg_up_up (M : mg_M) (k : Nat) (e e' : va_E) : mg_up (mg_up M k e) k e' = mg_up M k e' := by
  funext q
  by_cases h : q = k
  · subst h; rw [mg_up_s, mg_up_s]
  · rw [mg_up_n _ _ h, mg_up_n _ _ h, mg_up_n _ _ h]
/-- outside lo .. hi nothing has changed -/
def sm (lo hi : Nat) (M M' : mg_M) : Prop := ∀ k, (k < lo ∨ hi ≤ k) → M' k = M k
theorem sm.rf {lo hi : Nat} {M : mg_M} : sm lo hi M M := fun _ _ => rfl
theorem sm.up {lo hi k : Nat} {M M' : mg_M} {e : va_E} (h : sm lo hi M M') (h1 : lo ≤ k) (h2 : k < hi) : sm lo hi M (mg_up M' k e) := fun q hq => by
  rw [mg_up_n _ _ (by omega)]; exact h q hq
theorem sm.tr {lo hi : Nat} {M M' M'' : mg_M} (h : sm lo hi M M') (h' : sm lo hi M' M'') : sm lo hi M M'' := fun q hq => (h' q hq).trans (h q hq)
theorem sm.wd {lo hi lo' hi' : Nat} {M M' : mg_M} (h : sm lo hi M M') (h1 : lo' ≤ lo) (h2 : hi ≤ hi') : sm lo' hi' M M' := fun q hq => h q (by omega)
def isI (M : mg_M) (h : Nat) (xs : List Int32) : Prop := ∃ f : Nat → Int32, M h = some (.inr (1, [.ref (h + 1), .int (nI xs.length)])) ∧ M (h + 1) = some (.inl (0, 60, .inl f)) ∧ xs.length ≤ 60 ∧ ∀ i, i < xs.length → f i = xs.getD i 0
theorem isI.sm {M M' : mg_M} {h : Nat} {xs : List Int32} {lo hi : Nat} (hI : isI M h xs) (hs : sm lo hi M M') (hd : h + 2 ≤ lo ∨ hi ≤ h) : isI M' h xs := by
  obtain ⟨f, h1, h2, h3, h4⟩ := hI
  exact ⟨f, by rw [hs h (by omega)]; exact h1, by rw [hs (h + 1) (by omega)]; exact h2, h3, h4⟩
theorem isI.up {M : mg_M} {h k : Nat} {xs : List Int32} {e : va_E} (hI : isI M h xs) (h0 : k ≠ h) (h1 : k ≠ h + 1) : isI (mg_up M k e) h xs := by
  obtain ⟨f, a1, a2, a3, a4⟩ := hI
  exact ⟨f, by rw [mg_up_n _ _ (Ne.symm h0)]; exact a1, by rw [mg_up_n _ _ (Ne.symm h1)]; exact a2, a3, a4⟩
theorem isI.le {M : mg_M} {h : Nat} {xs : List Int32} (hI : isI M h xs) : xs.length ≤ 60 := hI.choose_spec.2.2.1
theorem nI_clampN {n : Nat} (h : n ≤ 60) : (nI n).toNatClampNeg = n := nI_clamp (by omega)
def atI (xs : List Int32) (i d : Int32) : Int32 := if i < 0 then d else if nI xs.length ≤ i then d else xs.getD i.toNatClampNeg 0
theorem atI_lt {xs : List Int32} {i d : Int32} (h : i < 0) : atI xs i d = d := by simp [atI, h]
theorem atI_ge {xs : List Int32} {i d : Int32} (h : nI xs.length ≤ i) : atI xs i d = d := by simp [atI, h]
theorem atI_in {xs : List Int32} {j : Nat} {d : Int32} (hl : xs.length ≤ 60) (h : j < xs.length) : atI xs (nI j) d = xs.getD j 0 := by
  rw [atI, if_neg (nI_pos (by omega)), if_neg (nI_ge h (by omega)), nI_clampN (by omega)]
def setI (xs : List Int32) (i x : Int32) : List Int32 := if i < 0 then xs else if nI xs.length ≤ i then xs else xs.set i.toNatClampNeg x
theorem setI_lt {xs : List Int32} {i d : Int32} (h : i < 0) : setI xs i d = xs := by simp [setI, h]
theorem setI_ge {xs : List Int32} {i d : Int32} (h : nI xs.length ≤ i) : setI xs i d = xs := by simp [setI, h]
theorem setI_in {xs : List Int32} {j : Nat} {d : Int32} (hl : xs.length ≤ 60) (h : j < xs.length) : setI xs (nI j) d = xs.set j d := by
  rw [setI, if_neg (nI_pos (by omega)), if_neg (nI_ge h (by omega)), nI_clampN (by omega)]
theorem ix_of {xs : List Int32} {i : Int32} (hl : xs.length ≤ 60) (h0 : ¬ i < 0) (h1 : ¬ nI xs.length ≤ i) : ∃ j, j < xs.length ∧ i = nI j := by
  rcases pk_ix i (n := xs.length) (by omega) with h | h | h
  · exact absurd h h0
  · exact absurd h h1
  · exact h
theorem nIw {j n : Nat} (h : j < n) (hn : n ≤ 60) : vp_in (nI j) 60 := vp_in_nI (by omega) (by decide)

set_option maxHeartbeats 4000000 in
set_option maxRecDepth 100000 in
theorem c_In_length {M : mg_M} {h : Nat} {xs : List Int32} (hI : isI M h xs) : mg_Ct Y_In_length { frames := 0, cells := 0, slots := 0, locals := 0 } [.ref h] M (fun v M' => v = some (.int (nI xs.length)) ∧ M' = M) := by
  obtain ⟨f, h1, h2, h3, h4⟩ := hI
  refine mg_met [some (.ref h)] (by decide +kernel) rfl (Nat.le_of_ble_eq_true rfl) ?_
  intro X hR _
  first | refine mg_aload_n d_In_length_0 rfl rfl ?_ | refine mg_aload_nN d_In_length_0 rfl rfl ?_
  refine mg_getfield fl_In_15 d_In_length_1 (by first | assumption | exact mg_up_s _ _ _ | (rw [mg_up_n _ _ (by first | assumption | omega | decide)]; first | assumption | exact mg_up_s _ _ _ | (rw [mg_up_n _ _ (by first | assumption | omega | decide)]; first | assumption | exact mg_up_s _ _ _))) rfl ?_
  exact mg_ireturn d_In_length_4 rfl (by first | rfl | (split <;> rfl)) (Nat.le_of_ble_eq_true rfl) (Nat.le_of_ble_eq_true rfl) ⟨rfl, rfl⟩

set_option maxHeartbeats 4000000 in
set_option maxRecDepth 100000 in
theorem c_In_at {M : mg_M} {h : Nat} {xs : List Int32} {i d : Int32} (hI : isI M h xs) : mg_Ct Y_In_at { frames := 0, cells := 0, slots := 0, locals := 0 } [.ref h, .int i, .int d] M (fun v M' => v = some (.int (atI xs i d)) ∧ M' = M) := by
  obtain ⟨f, h1, h2, h3, h4⟩ := hI
  refine mg_met [some (.ref h), some (.int i), some (.int d)] (by decide +kernel) rfl (Nat.le_of_ble_eq_true rfl) ?_
  intro X hR _
  refine mg_iload_n d_In_at_0 rfl rfl ?_
  refine mg_if_lt (tgt := 30) d_In_at_1 (by decide) (fun c_1 => ?_) (fun c_1 => ?_)
  · refine mg_iload_n d_In_at_30 rfl rfl ?_
    exact mg_ireturn d_In_at_31 rfl rfl (Nat.le_of_ble_eq_true rfl) (Nat.le_of_ble_eq_true rfl) ⟨by rw [atI_lt c_1], rfl⟩
  · refine mg_iload_n d_In_at_4 rfl rfl ?_
    first | refine mg_aload_n d_In_at_5 rfl rfl ?_ | refine mg_aload_nN d_In_at_5 rfl rfl ?_
    refine mg_getfield fl_In_15 d_In_at_6 (by first | assumption | exact mg_up_s _ _ _ | (rw [mg_up_n _ _ (by first | assumption | omega | decide)]; first | assumption | exact mg_up_s _ _ _ | (rw [mg_up_n _ _ (by first | assumption | omega | decide)]; first | assumption | exact mg_up_s _ _ _))) rfl ?_
    refine mg_icmp_ge (tgt := 30) d_In_at_9 (by decide) (fun c_9 => ?_) (fun c_9 => ?_)
    · refine mg_iload_n d_In_at_30 rfl rfl ?_
      exact mg_ireturn d_In_at_31 rfl rfl (Nat.le_of_ble_eq_true rfl) (Nat.le_of_ble_eq_true rfl) ⟨by rw [atI_ge c_9], rfl⟩
    · refine mg_iload_n d_In_at_12 rfl rfl ?_
      first | refine mg_aload_n d_In_at_13 rfl rfl ?_ | refine mg_aload_nN d_In_at_13 rfl rfl ?_
      refine mg_getfield fl_In_9 d_In_at_14 (by first | assumption | exact mg_up_s _ _ _ | (rw [mg_up_n _ _ (by first | assumption | omega | decide)]; first | assumption | exact mg_up_s _ _ _ | (rw [mg_up_n _ _ (by first | assumption | omega | decide)]; first | assumption | exact mg_up_s _ _ _))) rfl ?_
      refine mg_arrlen (v := nI 60) rfl d_In_at_17 (by first | assumption | exact mg_up_s _ _ _ | (rw [mg_up_n _ _ (by first | assumption | omega | decide)]; first | assumption | exact mg_up_s _ _ _ | (rw [mg_up_n _ _ (by first | assumption | omega | decide)]; first | assumption | exact mg_up_s _ _ _))) rfl ?_
      refine mg_icmp_ge (tgt := 30) d_In_at_18 (by decide) (fun c_18 => ?_) (fun c_18 => ?_)
      · obtain ⟨j, hj, rfl⟩ := ix_of h3 c_1 c_9
        exact absurd c_18 (nI_ge (by omega) (by decide))
      · obtain ⟨j, hj, rfl⟩ := ix_of h3 c_1 c_9
        have hin := nIw hj h3
        first | refine mg_aload_n d_In_at_21 rfl rfl ?_ | refine mg_aload_nN d_In_at_21 rfl rfl ?_
        refine mg_getfield fl_In_9 d_In_at_22 (by first | assumption | exact mg_up_s _ _ _ | (rw [mg_up_n _ _ (by first | assumption | omega | decide)]; first | assumption | exact mg_up_s _ _ _ | (rw [mg_up_n _ _ (by first | assumption | omega | decide)]; first | assumption | exact mg_up_s _ _ _))) rfl ?_
        refine mg_iload_n d_In_at_25 rfl rfl ?_
        refine mg_iaload rfl d_In_at_26 (by first | assumption | exact mg_up_s _ _ _ | (rw [mg_up_n _ _ (by first | assumption | omega | decide)]; first | assumption | exact mg_up_s _ _ _ | (rw [mg_up_n _ _ (by first | assumption | omega | decide)]; first | assumption | exact mg_up_s _ _ _))) (by assumption) ?_
        refine mg_goto (tgt := 31) d_In_at_27 (by decide) ?_
        exact mg_ireturn d_In_at_31 rfl rfl (Nat.le_of_ble_eq_true rfl) (Nat.le_of_ble_eq_true rfl) ⟨by rw [atI_in h3 hj, nI_clampN (by omega), h4 j hj], rfl⟩

set_option maxHeartbeats 4000000 in
set_option maxRecDepth 100000 in
theorem c_In_set {M : mg_M} {h : Nat} {xs : List Int32} {i x : Int32} (hI : isI M h xs) : mg_Ct Y_In_set { frames := 0, cells := 0, slots := 0, locals := 0 } [.ref h, .int i, .int x] M (fun v M' => v = none ∧ isI M' h (setI xs i x) ∧ sm h (h + 2) M M') := by
  obtain ⟨f, h1, h2, h3, h4⟩ := hI
  refine mg_met [some (.ref h), some (.int i), some (.int x)] (by decide +kernel) rfl (Nat.le_of_ble_eq_true rfl) ?_
  intro X hR _
  refine mg_iload_n d_In_set_0 rfl rfl ?_
  refine mg_if_lt (tgt := 28) d_In_set_1 (by decide) (fun c_1 => ?_) (fun c_1 => ?_)
  · exact mg_return d_In_set_28 rfl (Nat.le_of_ble_eq_true rfl) (Nat.le_of_ble_eq_true rfl) ⟨rfl, by rw [setI_lt c_1]; exact ⟨f, h1, h2, h3, h4⟩, sm.rf⟩
  · refine mg_iload_n d_In_set_4 rfl rfl ?_
    first | refine mg_aload_n d_In_set_5 rfl rfl ?_ | refine mg_aload_nN d_In_set_5 rfl rfl ?_
    refine mg_getfield fl_In_15 d_In_set_6 (by first | assumption | exact mg_up_s _ _ _ | (rw [mg_up_n _ _ (by first | assumption | omega | decide)]; first | assumption | exact mg_up_s _ _ _ | (rw [mg_up_n _ _ (by first | assumption | omega | decide)]; first | assumption | exact mg_up_s _ _ _))) rfl ?_
    refine mg_icmp_ge (tgt := 28) d_In_set_9 (by decide) (fun c_9 => ?_) (fun c_9 => ?_)
    · exact mg_return d_In_set_28 rfl (Nat.le_of_ble_eq_true rfl) (Nat.le_of_ble_eq_true rfl) ⟨rfl, by rw [setI_ge c_9]; exact ⟨f, h1, h2, h3, h4⟩, sm.rf⟩
    · refine mg_iload_n d_In_set_12 rfl rfl ?_
      first | refine mg_aload_n d_In_set_13 rfl rfl ?_ | refine mg_aload_nN d_In_set_13 rfl rfl ?_
      refine mg_getfield fl_In_9 d_In_set_14 (by first | assumption | exact mg_up_s _ _ _ | (rw [mg_up_n _ _ (by first | assumption | omega | decide)]; first | assumption | exact mg_up_s _ _ _ | (rw [mg_up_n _ _ (by first | assumption | omega | decide)]; first | assumption | exact mg_up_s _ _ _))) rfl ?_
      refine mg_arrlen (v := nI 60) rfl d_In_set_17 (by first | assumption | exact mg_up_s _ _ _ | (rw [mg_up_n _ _ (by first | assumption | omega | decide)]; first | assumption | exact mg_up_s _ _ _ | (rw [mg_up_n _ _ (by first | assumption | omega | decide)]; first | assumption | exact mg_up_s _ _ _))) rfl ?_
      refine mg_icmp_ge (tgt := 28) d_In_set_18 (by decide) (fun c_18 => ?_) (fun c_18 => ?_)
      · obtain ⟨j, hj, rfl⟩ := ix_of h3 c_1 c_9
        exact absurd c_18 (nI_ge (by omega) (by decide))
      · obtain ⟨j, hj, rfl⟩ := ix_of h3 c_1 c_9
        have hin := nIw hj h3
        first | refine mg_aload_n d_In_set_21 rfl rfl ?_ | refine mg_aload_nN d_In_set_21 rfl rfl ?_
        refine mg_getfield fl_In_9 d_In_set_22 (by first | assumption | exact mg_up_s _ _ _ | (rw [mg_up_n _ _ (by first | assumption | omega | decide)]; first | assumption | exact mg_up_s _ _ _ | (rw [mg_up_n _ _ (by first | assumption | omega | decide)]; first | assumption | exact mg_up_s _ _ _))) rfl ?_
        refine mg_iload_n d_In_set_25 rfl rfl ?_
        refine mg_iload_n d_In_set_26 rfl rfl ?_
        refine mg_iastore rfl d_In_set_27 (by first | assumption | exact mg_up_s _ _ _ | (rw [mg_up_n _ _ (by first | assumption | omega | decide)]; first | assumption | exact mg_up_s _ _ _ | (rw [mg_up_n _ _ (by first | assumption | omega | decide)]; first | assumption | exact mg_up_s _ _ _))) (by assumption) ?_
        refine mg_return d_In_set_28 rfl (Nat.le_of_ble_eq_true rfl) (Nat.le_of_ble_eq_true rfl) ⟨rfl, ?_, sm.rf.up (by omega) (by omega)⟩
        rw [setI_in h3 hj, nI_clampN (by omega)]
        refine ⟨upd f j x, by rw [mg_up_n _ _ (by omega), List.length_set]; exact h1, mg_up_s _ _ _, by rw [List.length_set]; exact h3, fun q hq => ?_⟩
        rw [List.length_set] at hq
        by_cases hqj : q = j
        · subst hqj; rw [pk_us]; simp [List.getD_eq_getElem?_getD, hq]
        · rw [pk_un hqj, h4 q hq]; simp [List.getD_eq_getElem?_getD, List.getElem?_set_ne (Ne.symm hqj)]

set_option maxHeartbeats 4000000 in
set_option maxRecDepth 100000 in
theorem c_In_add {M : mg_M} {h : Nat} {xs : List Int32} {x : Int32} (hI : isI M h xs) : mg_Ct Y_In_add { frames := 0, cells := 0, slots := 0, locals := 0 } [.ref h, .int x] M (fun v M' => v = some (.int (if xs.length < 60 then 1 else 0)) ∧ isI M' h (if xs.length < 60 then xs ++ [x] else xs) ∧ sm h (h + 2) M M') := by
  obtain ⟨f, h1, h2, h3, h4⟩ := hI
  refine mg_met [some (.ref h), some (.int x)] (by decide +kernel) rfl (Nat.le_of_ble_eq_true rfl) ?_
  intro X hR _
  first | refine mg_aload_n d_In_add_0 rfl rfl ?_ | refine mg_aload_nN d_In_add_0 rfl rfl ?_
  refine mg_getfield fl_In_15 d_In_add_1 (by first | assumption | exact mg_up_s _ _ _ | (rw [mg_up_n _ _ (by first | assumption | omega | decide)]; first | assumption | exact mg_up_s _ _ _ | (rw [mg_up_n _ _ (by first | assumption | omega | decide)]; first | assumption | exact mg_up_s _ _ _))) rfl ?_
  refine mg_if_lt (tgt := 19) d_In_add_4 (by decide) (fun c_4 => ?_) (fun c_4 => ?_)
  · exact absurd c_4 (nI_pos (by omega))
  · first | refine mg_aload_n d_In_add_7 rfl rfl ?_ | refine mg_aload_nN d_In_add_7 rfl rfl ?_
    refine mg_getfield fl_In_15 d_In_add_8 (by first | assumption | exact mg_up_s _ _ _ | (rw [mg_up_n _ _ (by first | assumption | omega | decide)]; first | assumption | exact mg_up_s _ _ _ | (rw [mg_up_n _ _ (by first | assumption | omega | decide)]; first | assumption | exact mg_up_s _ _ _))) rfl ?_
    first | refine mg_aload_n d_In_add_11 rfl rfl ?_ | refine mg_aload_nN d_In_add_11 rfl rfl ?_
    refine mg_getfield fl_In_9 d_In_add_12 (by first | assumption | exact mg_up_s _ _ _ | (rw [mg_up_n _ _ (by first | assumption | omega | decide)]; first | assumption | exact mg_up_s _ _ _ | (rw [mg_up_n _ _ (by first | assumption | omega | decide)]; first | assumption | exact mg_up_s _ _ _))) rfl ?_
    refine mg_arrlen (v := nI 60) rfl d_In_add_15 (by first | assumption | exact mg_up_s _ _ _ | (rw [mg_up_n _ _ (by first | assumption | omega | decide)]; first | assumption | exact mg_up_s _ _ _ | (rw [mg_up_n _ _ (by first | assumption | omega | decide)]; first | assumption | exact mg_up_s _ _ _))) rfl ?_
    refine mg_icmp_lt (tgt := 21) d_In_add_16 (by decide) (fun c_16 => ?_) (fun c_16 => ?_)
    · have hlt : xs.length < 60 := by
        rcases Nat.lt_or_ge xs.length 60 with q | q
        · exact q
        · exact absurd c_16 (nI_nlt q (by omega))
      have hin := nIw (n := 60) hlt (by decide)
      first | refine mg_aload_n d_In_add_21 rfl rfl ?_ | refine mg_aload_nN d_In_add_21 rfl rfl ?_
      refine mg_getfield fl_In_9 d_In_add_22 (by first | assumption | exact mg_up_s _ _ _ | (rw [mg_up_n _ _ (by first | assumption | omega | decide)]; first | assumption | exact mg_up_s _ _ _ | (rw [mg_up_n _ _ (by first | assumption | omega | decide)]; first | assumption | exact mg_up_s _ _ _))) rfl ?_
      first | refine mg_aload_n d_In_add_25 rfl rfl ?_ | refine mg_aload_nN d_In_add_25 rfl rfl ?_
      refine mg_getfield fl_In_15 d_In_add_26 (by first | assumption | exact mg_up_s _ _ _ | (rw [mg_up_n _ _ (by first | assumption | omega | decide)]; first | assumption | exact mg_up_s _ _ _ | (rw [mg_up_n _ _ (by first | assumption | omega | decide)]; first | assumption | exact mg_up_s _ _ _))) rfl ?_
      refine mg_iload_n d_In_add_29 rfl rfl ?_
      refine mg_iastore rfl d_In_add_30 (by first | assumption | exact mg_up_s _ _ _ | (rw [mg_up_n _ _ (by first | assumption | omega | decide)]; first | assumption | exact mg_up_s _ _ _ | (rw [mg_up_n _ _ (by first | assumption | omega | decide)]; first | assumption | exact mg_up_s _ _ _))) (by assumption) ?_
      first | refine mg_aload_n d_In_add_31 rfl rfl ?_ | refine mg_aload_nN d_In_add_31 rfl rfl ?_
      refine mg_dup d_In_add_32 rfl ?_
      refine mg_getfield fl_In_15 d_In_add_33 (by first | assumption | exact mg_up_s _ _ _ | (rw [mg_up_n _ _ (by first | assumption | omega | decide)]; first | assumption | exact mg_up_s _ _ _ | (rw [mg_up_n _ _ (by first | assumption | omega | decide)]; first | assumption | exact mg_up_s _ _ _))) rfl ?_
      refine mg_iconst (v := 1) d_In_add_36 (by decide) ?_
      refine mg_iadd d_In_add_37 ?_
      refine mg_putfield (fw_In_15 _) d_In_add_38 (by first | assumption | exact mg_up_s _ _ _ | (rw [mg_up_n _ _ (by first | assumption | omega | decide)]; first | assumption | exact mg_up_s _ _ _ | (rw [mg_up_n _ _ (by first | assumption | omega | decide)]; first | assumption | exact mg_up_s _ _ _))) (Nat.le_of_ble_eq_true rfl) (fun _ => ⟨rfl, rfl⟩) ?_
      refine mg_iconst (v := 1) d_In_add_41 (by decide) ?_
      refine mg_ireturn d_In_add_42 rfl rfl (Nat.le_of_ble_eq_true rfl) (Nat.le_of_ble_eq_true rfl) ⟨by rw [if_pos hlt], ?_, (sm.rf.up (by omega) (by omega)).up (by omega) (by omega)⟩
      rw [if_pos hlt]
      refine ⟨upd f xs.length x, ?_, ?_, by simp; omega, fun q hq => ?_⟩
      · rw [mg_up_s, List.length_append, ← nI_add]; rfl
      · rw [mg_up_n _ _ (by omega), mg_up_s, nI_clampN (by omega)]
      · rw [List.length_append] at hq
        by_cases hqj : q = xs.length
        · subst hqj; rw [pk_us]; simp
        · rw [pk_un hqj, h4 q (by simp at hq; omega)]
          have hq2 : q < xs.length := by simp at hq; omega
          simp [List.getD_eq_getElem?_getD, List.getElem?_append_left hq2]
    · have hge : ¬ xs.length < 60 := fun hlt => c_16 (nI_lt hlt (by decide))
      refine mg_iconst (v := 0) d_In_add_19 (by decide) ?_
      exact mg_ireturn d_In_add_20 rfl rfl (Nat.le_of_ble_eq_true rfl) (Nat.le_of_ble_eq_true rfl) ⟨by rw [if_neg hge], by rw [if_neg hge]; exact ⟨f, h1, h2, h3, h4⟩, sm.rf⟩

