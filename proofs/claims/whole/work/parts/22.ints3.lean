/-! INTS: sums, raising, searching -/
def sumF (s : Int64) (l : List Int32) : Int64 := l.foldl (fun s x => s + x.toInt64) s
theorem drop_cons {xs : List Int32} {i : Nat} (h : i < xs.length) : xs.drop i = xs.getD i 0 :: xs.drop (i + 1) := by
  rw [List.drop_eq_getElem_cons h, List.getD_eq_getElem?_getD]
  simp [h]
def raiseL (zs : List Int32) (i : Nat) (by' : Int32) : List Int32 := zs.take i ++ (zs.drop i).map (fun x => x + by')
theorem raiseL_len (zs : List Int32) (i : Nat) (b : Int32) : (raiseL zs i b).length = zs.length := by simp [raiseL]; omega
theorem raiseL_end {zs : List Int32} {i : Nat} {b : Int32} (h : zs.length ≤ i) : raiseL zs i b = zs := by
  simp [raiseL, List.take_of_length_le h, List.drop_of_length_le h]
theorem raiseL_step {zs : List Int32} {i : Nat} {b : Int32} (h : i < zs.length) : raiseL (zs.set i (zs.getD i 0 + b)) (i + 1) b = raiseL zs i b := by
  unfold raiseL
  rw [drop_cons h, List.map_cons, List.drop_set_of_lt (by omega), List.take_set, List.take_add_one]
  have e : zs[i]?.toList = [zs.getD i 0] := by simp [List.getD_eq_getElem?_getD, h]
  rw [e]
  have hl : (zs.take i).length = i := by simp; omega
  rw [List.set_append_right _ _ (by omega), hl]
  simp
def hasL (l : List Int32) (k : Int32) : Bool := l.any (fun x => x == k)
def fallL : List Int32 → Bool
  | x :: y :: r => decide (y < x) || fallL (y :: r)
  | _ => false
def bI (b : Bool) : Int32 := if b = true then 1 else 0
theorem bI_nar (b : Bool) : narrow .boolean (.int (bI b)) = .int (bI b) := by cases b <;> rfl
theorem bI_fit (b : Bool) (ad : Nat → Nat) : narrow .boolean (mg_tr ad (.int (bI b))) = mg_tr ad (.int (bI b)) ∧ fits .boolean (mg_tr ad (.int (bI b))) = true := by cases b <;> exact ⟨rfl, rfl⟩

set_option maxHeartbeats 4000000 in
set_option maxRecDepth 100000 in
theorem lp_In_total {X : mg_X} {M : mg_M} {h : Nat} {xs : List Int32} {a : Int32} {r : Int64} (hR : mg_R X = { frames := 1, cells := 0, slots := 0, locals := 22 }) (hI : isI M h xs) : ∀ n : Nat, ∀ (i : Nat) (s : Int64), xs.length - i < n → i < 2 ^ 30 → sumF s (xs.drop i) = r → mg_G X Y_In_totalFrom (mg_Q X (fun v M' => v = some (.long r) ∧ M' = M) { frames := 1, cells := 0, slots := 0, locals := 22 }) M 0 0 5 [some (.ref h), some (.int a), some (.long s), none, some (.int (nI i))] [] := by
  intro n
  induction n with
  | zero =>
    intro i s hn hi hr
    exact absurd hn (by omega)
  | succ n ih =>
    intro i s hn hi hr
    refine mg_iload d_In_totalFrom_5 rfl ?_
    first | refine mg_aload_n d_In_totalFrom_7 rfl rfl ?_ | refine mg_aload_nN d_In_totalFrom_7 rfl rfl ?_
    refine mg_getfield fl_In_15 d_In_totalFrom_8 (by obtain ⟨_, e1, -⟩ := hI; exact e1) rfl ?_
    refine mg_icmp_ge (tgt := 31) d_In_totalFrom_11 (by decide) (fun c_11 => ?_) (fun c_11 => ?_)
    · have hge : xs.length ≤ i := by
        rcases Nat.lt_or_ge i xs.length with q | q
        · exact absurd c_11 (nI_ge q (by have := hI.le; omega))
        · exact q
      rw [List.drop_of_length_le hge] at hr
      refine mg_lload_n d_In_totalFrom_31 rfl rfl ?_
      exact mg_lreturn d_In_totalFrom_32 rfl (Nat.le_of_ble_eq_true rfl) (Nat.le_of_ble_eq_true rfl) ⟨by rw [← hr]; rfl, rfl⟩
    · have hi2 : i < xs.length := by
        rcases Nat.lt_or_ge i xs.length with q | q
        · exact q
        · exact absurd (nI_le q (by omega)) c_11
      refine mg_lload_n d_In_totalFrom_14 rfl rfl ?_
      first | refine mg_aload_n d_In_totalFrom_15 rfl rfl ?_ | refine mg_aload_nN d_In_totalFrom_15 rfl rfl ?_
      refine mg_iload d_In_totalFrom_16 rfl ?_
      refine mg_iconst (v := 0) d_In_totalFrom_18 (by decide) ?_
      refine mg_callV (vl_In_32 rfl) d_In_totalFrom_19 (by obtain ⟨_, e1, -⟩ := hI; exact e1) rfl rfl (c_In_at hI) rfl rfl (by rw [hR]; decide) (by rw [hR]; decide) (Nat.le_of_ble_eq_true rfl) ?_
      rintro v M1 ⟨rfl, rfl⟩
      refine mg_eqi (atI_in hI.le hi2) ?_
      refine mg_i2l d_In_totalFrom_22 ?_
      refine mg_ladd d_In_totalFrom_23 ?_
      refine mg_lstore_n d_In_totalFrom_24 rfl (Nat.le_of_ble_eq_true rfl) rfl ?_
      refine mg_iinc (v := nI (i + 1)) d_In_totalFrom_25 rfl (nI_1 _) (Nat.le_of_ble_eq_true rfl) rfl ?_
      refine mg_goto (tgt := 5) d_In_totalFrom_28 (by decide) ?_
      refine ih (i + 1) _ (by omega) (by have := hI.le; omega) ?_
      rw [drop_cons hi2] at hr
      exact hr

set_option maxHeartbeats 4000000 in
set_option maxRecDepth 100000 in
theorem c_In_totalFrom {M : mg_M} {h a : Nat} {xs : List Int32} (hI : isI M h xs) (ha : a < 2 ^ 30) : mg_Ct Y_In_totalFrom { frames := 1, cells := 0, slots := 0, locals := 22 } [.ref h, .int (nI a)] M (fun v M' => v = some (.long (sumF 0 (xs.drop a))) ∧ M' = M) := by
  refine mg_met [some (.ref h), some (.int (nI a)), none, none, none] (by decide +kernel) rfl (Nat.le_of_ble_eq_true rfl) ?_
  intro X hR _
  refine mg_lconst (v := 0) d_In_totalFrom_0 (by decide) ?_
  refine mg_lstore_n d_In_totalFrom_1 rfl (Nat.le_of_ble_eq_true rfl) rfl ?_
  refine mg_iload_n d_In_totalFrom_2 rfl rfl ?_
  refine mg_istore d_In_totalFrom_3 (Nat.le_of_ble_eq_true rfl) rfl ?_
  exact lp_In_total hR hI (xs.length + 1) a 0 (by omega) ha rfl

set_option maxHeartbeats 4000000 in
set_option maxRecDepth 100000 in
theorem lp_In_raise {X : mg_X} {M0 : mg_M} {h : Nat} {a b : Int32} {r : List Int32} (hR : mg_R X = { frames := 1, cells := 0, slots := 0, locals := 22 }) : ∀ n : Nat, ∀ (i : Nat) (M : mg_M) (xs : List Int32), xs.length - i < n → i < 2 ^ 30 → isI M h xs → sm h (h + 2) M0 M → raiseL xs i b = r → mg_G X Y_In_raiseFrom (mg_Q X (fun v M' => v = none ∧ isI M' h r ∧ sm h (h + 2) M0 M') { frames := 1, cells := 0, slots := 0, locals := 22 }) M 0 0 2 [some (.ref h), some (.int a), some (.int b), some (.int (nI i))] [] := by
  intro n
  induction n with
  | zero =>
    intro i M xs hn hi hI hs hr
    exact absurd hn (by omega)
  | succ n ih =>
    intro i M xs hn hi hI hs hr
    refine mg_iload_n d_In_raiseFrom_2 rfl rfl ?_
    first | refine mg_aload_n d_In_raiseFrom_3 rfl rfl ?_ | refine mg_aload_nN d_In_raiseFrom_3 rfl rfl ?_
    refine mg_getfield fl_In_15 d_In_raiseFrom_4 (by obtain ⟨_, e1, -⟩ := hI; exact e1) rfl ?_
    refine mg_icmp_ge (tgt := 29) d_In_raiseFrom_7 (by decide) (fun c_7 => ?_) (fun c_7 => ?_)
    · have hge : xs.length ≤ i := by
        rcases Nat.lt_or_ge i xs.length with q | q
        · exact absurd c_7 (nI_ge q (by have := hI.le; omega))
        · exact q
      rw [raiseL_end hge] at hr
      subst hr
      exact mg_return d_In_raiseFrom_29 rfl (Nat.le_of_ble_eq_true rfl) (Nat.le_of_ble_eq_true rfl) ⟨rfl, hI, hs⟩
    · have hi2 : i < xs.length := by
        rcases Nat.lt_or_ge i xs.length with q | q
        · exact q
        · exact absurd (nI_le q (by omega)) c_7
      first | refine mg_aload_n d_In_raiseFrom_10 rfl rfl ?_ | refine mg_aload_nN d_In_raiseFrom_10 rfl rfl ?_
      refine mg_iload_n d_In_raiseFrom_11 rfl rfl ?_
      first | refine mg_aload_n d_In_raiseFrom_12 rfl rfl ?_ | refine mg_aload_nN d_In_raiseFrom_12 rfl rfl ?_
      refine mg_iload_n d_In_raiseFrom_13 rfl rfl ?_
      refine mg_iconst (v := 0) d_In_raiseFrom_14 (by decide) ?_
      refine mg_callV (vl_In_32 rfl) d_In_raiseFrom_15 (by obtain ⟨_, e1, -⟩ := hI; exact e1) rfl rfl (c_In_at hI) rfl rfl (by rw [hR]; decide) (by rw [hR]; decide) (Nat.le_of_ble_eq_true rfl) ?_
      rintro v M1 ⟨rfl, rfl⟩
      refine mg_eqi (atI_in hI.le hi2) ?_
      refine mg_iload_n d_In_raiseFrom_18 rfl rfl ?_
      refine mg_iadd d_In_raiseFrom_19 ?_
      refine mg_callV (vl_In_39 rfl) d_In_raiseFrom_20 (by obtain ⟨_, e1, -⟩ := hI; exact e1) rfl rfl (c_In_set hI) rfl rfl (by rw [hR]; decide) (by rw [hR]; decide) (Nat.le_of_ble_eq_true rfl) ?_
      rintro v M2 ⟨rfl, hI2, hs2⟩
      rw [setI_in hI.le hi2] at hI2
      refine mg_iinc (v := nI (i + 1)) d_In_raiseFrom_23 rfl (nI_1 _) (Nat.le_of_ble_eq_true rfl) rfl ?_
      refine mg_goto (tgt := 2) d_In_raiseFrom_26 (by decide) ?_
      refine ih (i + 1) _ _ ?_ (by have := hI.le; omega) hI2 (hs.tr hs2) ?_
      · rw [List.length_set]; omega
      · rw [raiseL_step hi2]; exact hr

set_option maxHeartbeats 4000000 in
set_option maxRecDepth 100000 in
theorem c_In_raiseFrom {M : mg_M} {h a : Nat} {b : Int32} {xs : List Int32} (hI : isI M h xs) (ha : a < 2 ^ 30) : mg_Ct Y_In_raiseFrom { frames := 1, cells := 0, slots := 0, locals := 22 } [.ref h, .int (nI a), .int b] M (fun v M' => v = none ∧ isI M' h (raiseL xs a b) ∧ sm h (h + 2) M M') := by
  refine mg_met [some (.ref h), some (.int (nI a)), some (.int b), none] (by decide +kernel) rfl (Nat.le_of_ble_eq_true rfl) ?_
  intro X hR _
  refine mg_iload_n d_In_raiseFrom_0 rfl rfl ?_
  refine mg_istore_n d_In_raiseFrom_1 rfl (Nat.le_of_ble_eq_true rfl) rfl ?_
  exact lp_In_raise (M0 := M) hR (xs.length + 1) a _ xs (by omega) ha hI sm.rf rfl

set_option maxHeartbeats 4000000 in
set_option maxRecDepth 100000 in
theorem lp_In_has {X : mg_X} {M : mg_M} {h : Nat} {xs : List Int32} {k : Int32} {r : Bool} (hR : mg_R X = { frames := 1, cells := 0, slots := 0, locals := 22 }) (hI : isI M h xs) : ∀ n : Nat, ∀ (i : Nat), xs.length - i < n → i < 2 ^ 30 → hasL (xs.drop i) k = r → mg_G X Y_In_has (mg_Q X (fun v M' => v = some (.int (bI r)) ∧ M' = M) { frames := 1, cells := 0, slots := 0, locals := 22 }) M 0 0 2 [some (.ref h), some (.int k), some (.int (nI i))] [] := by
  intro n
  induction n with
  | zero =>
    intro i hn hi hr
    exact absurd hn (by omega)
  | succ n ih =>
    intro i hn hi hr
    refine mg_iload_n d_In_has_2 rfl rfl ?_
    first | refine mg_aload_n d_In_has_3 rfl rfl ?_ | refine mg_aload_nN d_In_has_3 rfl rfl ?_
    refine mg_getfield fl_In_15 d_In_has_4 (by obtain ⟨_, e1, -⟩ := hI; exact e1) rfl ?_
    refine mg_icmp_ge (tgt := 28) d_In_has_7 (by decide) (fun c_7 => ?_) (fun c_7 => ?_)
    · have hge : xs.length ≤ i := by
        rcases Nat.lt_or_ge i xs.length with q | q
        · exact absurd c_7 (nI_ge q (by have := hI.le; omega))
        · exact q
      rw [List.drop_of_length_le hge] at hr
      subst hr
      refine mg_iconst (v := 0) d_In_has_28 (by decide) ?_
      exact mg_ireturn d_In_has_29 rfl rfl (Nat.le_of_ble_eq_true rfl) (Nat.le_of_ble_eq_true rfl) ⟨rfl, rfl⟩
    · have hi2 : i < xs.length := by
        rcases Nat.lt_or_ge i xs.length with q | q
        · exact q
        · exact absurd (nI_le q (by omega)) c_7
      first | refine mg_aload_n d_In_has_10 rfl rfl ?_ | refine mg_aload_nN d_In_has_10 rfl rfl ?_
      refine mg_iload_n d_In_has_11 rfl rfl ?_
      refine mg_iconst (v := 0) d_In_has_12 (by decide) ?_
      refine mg_callV (vl_In_32 rfl) d_In_has_13 (by obtain ⟨_, e1, -⟩ := hI; exact e1) rfl rfl (c_In_at hI) rfl rfl (by rw [hR]; decide) (by rw [hR]; decide) (Nat.le_of_ble_eq_true rfl) ?_
      rintro v M1 ⟨rfl, rfl⟩
      refine mg_eqi (atI_in hI.le hi2) ?_
      rw [drop_cons hi2] at hr
      refine mg_iload_n d_In_has_16 rfl rfl ?_
      refine mg_icmp_ne (tgt := 22) d_In_has_17 (by decide) (fun c_17 => ?_) (fun c_17 => ?_)
      · refine mg_iinc (v := nI (i + 1)) d_In_has_22 rfl (nI_1 _) (Nat.le_of_ble_eq_true rfl) rfl ?_
        refine mg_goto (tgt := 2) d_In_has_25 (by decide) ?_
        refine ih (i + 1) (by omega) (by have := hI.le; omega) ?_
        rw [← hr]
        simp only [hasL, List.any_cons]
        rw [beq_eq_false_iff_ne.mpr c_17, Bool.false_or]
      · refine mg_iconst (v := 1) d_In_has_20 (by decide) ?_
        have : r = true := by rw [← hr]; simp only [hasL, List.any_cons]; rw [beq_iff_eq.mpr c_17, Bool.true_or]
        subst this
        exact mg_ireturn d_In_has_21 rfl rfl (Nat.le_of_ble_eq_true rfl) (Nat.le_of_ble_eq_true rfl) ⟨rfl, rfl⟩

set_option maxHeartbeats 4000000 in
set_option maxRecDepth 100000 in
theorem c_In_has {M : mg_M} {h : Nat} {k : Int32} {xs : List Int32} (hI : isI M h xs) : mg_Ct Y_In_has { frames := 1, cells := 0, slots := 0, locals := 22 } [.ref h, .int k] M (fun v M' => v = some (.int (bI (hasL xs k))) ∧ M' = M) := by
  refine mg_met [some (.ref h), some (.int k), none] (by decide +kernel) rfl (Nat.le_of_ble_eq_true rfl) ?_
  intro X hR _
  refine mg_iconst (v := 0) d_In_has_0 (by decide) ?_
  refine mg_istore_n d_In_has_1 rfl (Nat.le_of_ble_eq_true rfl) rfl ?_
  exact lp_In_has hR hI (xs.length + 1) 0 (by omega) (by decide) rfl

set_option maxHeartbeats 4000000 in
set_option maxRecDepth 100000 in
theorem lp_In_falls {X : mg_X} {M : mg_M} {h : Nat} {xs : List Int32} {r : Bool} (hR : mg_R X = { frames := 1, cells := 0, slots := 0, locals := 22 }) (hI : isI M h xs) : ∀ n : Nat, ∀ (i : Nat), xs.length - i < n → i < 2 ^ 30 → fallL (xs.drop i) = r → mg_G X Y_In_falls (mg_Q X (fun v M' => v = some (.int (bI r)) ∧ M' = M) { frames := 1, cells := 0, slots := 0, locals := 22 }) M 0 0 2 [some (.ref h), some (.int (nI (i + 1)))] [] := by
  intro n
  induction n with
  | zero =>
    intro i hn hi hr
    exact absurd hn (by omega)
  | succ n ih =>
    intro i hn hi hr
    refine mg_iload_n d_In_falls_2 rfl rfl ?_
    first | refine mg_aload_n d_In_falls_3 rfl rfl ?_ | refine mg_aload_nN d_In_falls_3 rfl rfl ?_
    refine mg_getfield fl_In_15 d_In_falls_4 (by obtain ⟨_, e1, -⟩ := hI; exact e1) rfl ?_
    refine mg_icmp_ge (tgt := 35) d_In_falls_7 (by decide) (fun c_7 => ?_) (fun c_7 => ?_)
    · have hge : xs.length ≤ i + 1 := by
        rcases Nat.lt_or_ge (i + 1) xs.length with q | q
        · exact absurd c_7 (nI_ge q (by have := hI.le; omega))
        · exact q
      have hr2 : r = false := by
        rw [← hr]
        rcases Nat.lt_or_ge i xs.length with q | q
        · rw [drop_cons q, List.drop_of_length_le hge]; rfl
        · rw [List.drop_of_length_le q]; rfl
      subst hr2
      refine mg_iconst (v := 0) d_In_falls_35 (by decide) ?_
      exact mg_ireturn d_In_falls_36 rfl rfl (Nat.le_of_ble_eq_true rfl) (Nat.le_of_ble_eq_true rfl) ⟨rfl, rfl⟩
    · have hi2 : i + 1 < xs.length := by
        rcases Nat.lt_or_ge (i + 1) xs.length with q | q
        · exact q
        · exact absurd (nI_le q (by omega)) c_7
      rw [drop_cons (by omega), drop_cons hi2] at hr
      first | refine mg_aload_n d_In_falls_10 rfl rfl ?_ | refine mg_aload_nN d_In_falls_10 rfl rfl ?_
      refine mg_iload_n d_In_falls_11 rfl rfl ?_
      refine mg_iconst (v := 0) d_In_falls_12 (by decide) ?_
      refine mg_callV (vl_In_32 rfl) d_In_falls_13 (by obtain ⟨_, e1, -⟩ := hI; exact e1) rfl rfl (c_In_at hI) rfl rfl (by rw [hR]; decide) (by rw [hR]; decide) (Nat.le_of_ble_eq_true rfl) ?_
      rintro v M1 ⟨rfl, rfl⟩
      refine mg_eqi (atI_in hI.le hi2) ?_
      first | refine mg_aload_n d_In_falls_16 rfl rfl ?_ | refine mg_aload_nN d_In_falls_16 rfl rfl ?_
      refine mg_iload_n d_In_falls_17 rfl rfl ?_
      refine mg_iconst (v := 1) d_In_falls_18 (by decide) ?_
      refine mg_isub d_In_falls_19 ?_
      refine mg_iconst (v := 0) d_In_falls_20 (by decide) ?_
      refine mg_callV (vl_In_32 rfl) d_In_falls_21 (by obtain ⟨_, e1, -⟩ := hI; exact e1) rfl rfl (c_In_at hI) rfl rfl (by rw [hR]; decide) (by rw [hR]; decide) (Nat.le_of_ble_eq_true rfl) ?_
      rintro v M1 ⟨rfl, rfl⟩
      refine mg_eqi (by rw [nI_pred, atI_in hI.le (by omega)]) ?_
      refine mg_icmp_ge (tgt := 29) d_In_falls_24 (by decide) (fun c_24 => ?_) (fun c_24 => ?_)
      · refine mg_iinc (v := nI (i + 1 + 1)) d_In_falls_29 rfl (nI_1 _) (Nat.le_of_ble_eq_true rfl) rfl ?_
        refine mg_goto (tgt := 2) d_In_falls_32 (by decide) ?_
        refine ih (i + 1) (by omega) (by have := hI.le; omega) ?_
        rw [← hr, drop_cons hi2]
        have hlt : ¬ xs.getD (i + 1) 0 < xs.getD i 0 := Int32.not_lt.mpr c_24
        simp only [fallL, hlt, decide_false, Bool.false_or]
      · refine mg_iconst (v := 1) d_In_falls_27 (by decide) ?_
        have hlt : xs.getD (i + 1) 0 < xs.getD i 0 := Int32.not_le.mp c_24
        have : r = true := by rw [← hr]; simp only [fallL, hlt, decide_true, Bool.true_or]
        subst this
        exact mg_ireturn d_In_falls_28 rfl rfl (Nat.le_of_ble_eq_true rfl) (Nat.le_of_ble_eq_true rfl) ⟨rfl, rfl⟩

set_option maxHeartbeats 4000000 in
set_option maxRecDepth 100000 in
theorem c_In_falls {M : mg_M} {h : Nat} {xs : List Int32} (hI : isI M h xs) : mg_Ct Y_In_falls { frames := 1, cells := 0, slots := 0, locals := 22 } [.ref h] M (fun v M' => v = some (.int (bI (fallL xs))) ∧ M' = M) := by
  refine mg_met [some (.ref h), none] (by decide +kernel) rfl (Nat.le_of_ble_eq_true rfl) ?_
  intro X hR _
  refine mg_iconst (v := 1) d_In_falls_0 (by decide) ?_
  refine mg_istore_n d_In_falls_1 rfl (Nat.le_of_ble_eq_true rfl) rfl ?_
  exact lp_In_falls hR hI (xs.length + 1) 0 (by omega) (by decide) rfl

