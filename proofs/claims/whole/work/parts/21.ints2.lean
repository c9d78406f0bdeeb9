/-! INTS, loops -/
theorem cut_eq {l : Nat} (n : Int32) (hl : l ≤ 60) : (if 0 < (if n < nI l then n else nI l) then (if n < nI l then n else nI l) else (0 : Int32)) = nI (min n.toNatClampNeg l) := by
  by_cases h0 : n < 0
  · have h1 : n.toNatClampNeg = 0 := by
      have := Int32.lt_iff_toInt_lt.mp h0
      simp at this
      show n.toInt.toNat = 0
      omega
    have h2 : n < nI l := by
      have a := Int32.lt_iff_toInt_lt.mp h0
      rw [Int32.lt_iff_toInt_lt, nI_toInt (by omega)]
      simp at a; omega
    rw [if_pos h2, h1, Nat.zero_min, if_neg (fun h => by
      have a := Int32.lt_iff_toInt_lt.mp h0
      have b := Int32.lt_iff_toInt_lt.mp h
      omega)]
    exact nI_0.symm
  · obtain ⟨j, hj, rfl⟩ := nI_of h0
    rw [nI_clamp hj]
    by_cases hjl : j < l
    · rw [if_pos (nI_lt hjl (by omega)), Nat.min_eq_left (by omega)]
      by_cases hz : 0 < j
      · rw [if_pos (by rw [← nI_0]; exact nI_lt hz hj)]
      · rw [if_neg (by rw [← nI_0]; exact nI_nlt (by omega) (by decide))]
        rw [show j = 0 by omega]; exact nI_0.symm
    · rw [if_neg (nI_nlt (by omega) (by omega)), Nat.min_eq_right (by omega)]
      by_cases hz : 0 < l
      · rw [if_pos (by rw [← nI_0]; exact nI_lt hz (by omega))]
      · rw [if_neg (by rw [← nI_0]; exact nI_nlt (by omega) (by decide))]
        rw [show l = 0 by omega]; exact nI_0.symm

set_option maxHeartbeats 4000000 in
set_option maxRecDepth 100000 in
theorem c_In_init {M : mg_M} {h : Nat} (h1 : M h = some (.inr (1, [.null, .int 0]))) (h2 : M (h + 1) = none) : mg_Ct Y_In_init { frames := 1, cells := 1, slots := 60, locals := 12 } [.ref h] M (fun v M' => v = none ∧ isI M' h [] ∧ sm h (h + 2) M M') := by
  refine mg_met [some (.ref h)] (by decide +kernel) rfl (Nat.le_of_ble_eq_true rfl) ?_
  intro X hR _
  first | refine mg_aload_n d_In_init_0 rfl rfl ?_ | refine mg_aload_nN d_In_init_0 rfl rfl ?_
  refine mg_objInit ol_In_3 oi_inst oi_code d_In_init_1 (by rw [hR]; decide) (by rw [hR]; exact Nat.le_of_ble_eq_true rfl) ?_
  first | refine mg_aload_n d_In_init_4 rfl rfl ?_ | refine mg_aload_nN d_In_init_4 rfl rfl ?_
  refine mg_bipush (v := 60) d_In_init_5 (by decide) ?_
  refine mg_newarr (t := 0) (nn := 60) (h := h + 1) rfl ac_int d_In_init_7 (by omega) h2 (by decide) (by decide) (by decide) (by rw [hR]; decide) (by rw [hR]; decide) ?_
  refine mg_putfield fw_In_9 d_In_init_9 (by first | assumption | exact mg_up_s _ _ _ | (rw [mg_up_n _ _ (by first | assumption | omega | decide)]; first | assumption | exact mg_up_s _ _ _ | (rw [mg_up_n _ _ (by first | assumption | omega | decide)]; first | assumption | exact mg_up_s _ _ _))) (Nat.le_of_ble_eq_true rfl) (fun _ => ⟨rfl, rfl⟩) ?_
  refine mg_return d_In_init_12 rfl (Nat.le_of_ble_eq_true rfl) (Nat.le_of_ble_eq_true rfl) ⟨rfl, ?_, (sm.rf.up (by omega) (by omega)).up (by omega) (by omega)⟩
  refine ⟨fun _ => 0, ?_, ?_, by simp, fun q hq => by simp at hq⟩
  · rw [mg_up_s]; simp [nI_0]
  · rw [mg_up_n _ _ (by omega), mg_up_s]

set_option maxHeartbeats 4000000 in
set_option maxRecDepth 100000 in
theorem c_In_cutTo {M : mg_M} {h : Nat} {xs : List Int32} {n : Int32} (hI : isI M h xs) : mg_Ct Y_In_cutTo { frames := 1, cells := 0, slots := 0, locals := 20 } [.ref h, .int n] M (fun v M' => v = none ∧ isI M' h (xs.take n.toNatClampNeg) ∧ sm h (h + 2) M M') := by
  obtain ⟨f, h1, h2, h3, h4⟩ := hI
  refine mg_met [some (.ref h), some (.int n)] (by decide +kernel) rfl (Nat.le_of_ble_eq_true rfl) ?_
  intro X hR _
  first | refine mg_aload_n d_In_cutTo_0 rfl rfl ?_ | refine mg_aload_nN d_In_cutTo_0 rfl rfl ?_
  refine mg_iconst (v := 0) d_In_cutTo_1 (by decide) ?_
  first | refine mg_aload_n d_In_cutTo_2 rfl rfl ?_ | refine mg_aload_nN d_In_cutTo_2 rfl rfl ?_
  refine mg_getfield fl_In_15 d_In_cutTo_3 (by first | assumption | exact mg_up_s _ _ _ | (rw [mg_up_n _ _ (by first | assumption | omega | decide)]; first | assumption | exact mg_up_s _ _ _ | (rw [mg_up_n _ _ (by first | assumption | omega | decide)]; first | assumption | exact mg_up_s _ _ _))) rfl ?_
  refine mg_iload_n d_In_cutTo_6 rfl rfl ?_
  refine mg_min ml_In_19 mt_min_s mt_init mt_min_c d_In_cutTo_7 (by rw [hR]; decide) (by rw [hR]; exact Nat.le_of_ble_eq_true rfl) (by rw [hR]; exact Nat.le_of_ble_eq_true rfl) (by rw [hR]; exact Nat.le_of_ble_eq_true rfl) ?_
  refine mg_max ml_In_25 mt_max_s mt_init mt_max_c d_In_cutTo_10 (by rw [hR]; decide) (by rw [hR]; exact Nat.le_of_ble_eq_true rfl) (by rw [hR]; exact Nat.le_of_ble_eq_true rfl) (by rw [hR]; exact Nat.le_of_ble_eq_true rfl) ?_
  refine mg_eqi (cut_eq n h3) ?_
  refine mg_putfield (fw_In_15 _) d_In_cutTo_13 (by first | assumption | exact mg_up_s _ _ _ | (rw [mg_up_n _ _ (by first | assumption | omega | decide)]; first | assumption | exact mg_up_s _ _ _ | (rw [mg_up_n _ _ (by first | assumption | omega | decide)]; first | assumption | exact mg_up_s _ _ _))) (Nat.le_of_ble_eq_true rfl) (fun _ => ⟨rfl, rfl⟩) ?_
  refine mg_return d_In_cutTo_16 rfl (Nat.le_of_ble_eq_true rfl) (Nat.le_of_ble_eq_true rfl) ⟨rfl, ?_, sm.rf.up (by omega) (by omega)⟩
  refine ⟨f, ?_, ?_, by simp; omega, fun q hq => ?_⟩
  · rw [mg_up_s, List.length_take]; rfl
  · rw [mg_up_n _ _ (by omega)]; exact h2
  · simp at hq
    rw [h4 q (by omega)]
    have hq1 : q < n.toNatClampNeg := by omega
    simp [List.getD_eq_getElem?_getD, List.getElem?_take, hq1]

def cutL (ys : List Int32) (a b : Nat) : List Int32 := ys.take a ++ ys.drop (a + b)
theorem cutL_00 (ys : List Int32) : cutL ys 0 0 = ys := by simp [cutL]
theorem cutL_in {ys : List Int32} {a b i : Nat} (hi : i < ys.length) (h : i < a ∨ a + b ≤ i) : cutL (ys.take (i + 1)) a b = cutL (ys.take i) a b ++ [ys.getD i 0] := by
  have e : ys.take (i + 1) = ys.take i ++ [ys.getD i 0] := by
    rw [List.take_add_one, List.getD_eq_getElem?_getD]
    simp [hi]
  have hl : (ys.take i).length = i := by simp; omega
  unfold cutL
  rw [e]
  rcases h with h | h
  · rw [List.take_of_length_le (l := ys.take i ++ _) (by simp; omega), List.take_of_length_le (l := ys.take i) (by omega), List.drop_of_length_le (l := ys.take i ++ _) (by simp; omega), List.drop_of_length_le (l := ys.take i) (by omega)]
    simp
  · rw [List.take_append_of_le_length (by omega), List.drop_append_of_le_length (by omega), List.append_assoc]
theorem cutL_out {ys : List Int32} {a b i : Nat} (hi : i < ys.length) (h : ¬ (i < a ∨ a + b ≤ i)) : cutL (ys.take (i + 1)) a b = cutL (ys.take i) a b := by
  have e : ys.take (i + 1) = ys.take i ++ [ys.getD i 0] := by
    rw [List.take_add_one, List.getD_eq_getElem?_getD]
    simp [hi]
  have hl : (ys.take i).length = i := by simp; omega
  unfold cutL
  rw [e, List.take_append_of_le_length (by omega), List.drop_of_length_le (l := ys.take i ++ _) (by simp; omega), List.drop_of_length_le (l := ys.take i) (by omega)]
theorem cutL_len (ys : List Int32) (a b : Nat) : (cutL ys a b).length ≤ ys.length := by simp [cutL]; omega

set_option maxHeartbeats 4000000 in
set_option maxRecDepth 100000 in
theorem lp_In_cw {X : mg_X} {M0 : mg_M} {h h2 a b : Nat} {ys : List Int32} (hR : mg_R X = { frames := 1, cells := 0, slots := 0, locals := 22 }) (hd : h + 2 ≤ h2 ∨ h2 + 2 ≤ h) (hab : a + b < 2 ^ 30) : ∀ n : Nat, ∀ (i : Nat) (M : mg_M), ys.length - i < n → i ≤ ys.length → isI M h (cutL (ys.take i) a b) → isI M h2 ys → sm h (h + 2) M0 M → mg_G X Y_In_copyWithout (mg_Q X (fun v M' => v = none ∧ isI M' h (cutL ys a b) ∧ sm h (h + 2) M0 M') { frames := 1, cells := 0, slots := 0, locals := 22 }) M 0 0 8 [some (.ref h), some (.ref h2), some (.int (nI a)), some (.int (nI b)), some (.int (nI i))] [] := by
  intro n
  induction n with
  | zero =>
    intro i M hn hi hI hY hs
    exact absurd hn (by omega)
  | succ n ih =>
    intro i M hn hi hI hY hs
    refine mg_iload d_In_copyWithout_8 rfl ?_
    first | refine mg_aload_n d_In_copyWithout_10 rfl rfl ?_ | refine mg_aload_nN d_In_copyWithout_10 rfl rfl ?_
    refine mg_getfield fl_In_15 d_In_copyWithout_11 (by first | (obtain ⟨_, e1, -⟩ := hY; exact e1) | (obtain ⟨_, e1, -⟩ := hI; exact e1)) rfl ?_
    refine mg_icmp_ge (tgt := 49) d_In_copyWithout_14 (by decide) (fun c_14 => ?_) (fun c_14 => ?_)
    · have hge : ys.length ≤ i := by
        rcases Nat.lt_or_ge i ys.length with q | q
        · exact absurd c_14 (nI_ge q (by have := hY.le; omega))
        · exact q
      rw [List.take_of_length_le hge] at hI
      exact mg_return d_In_copyWithout_49 rfl (Nat.le_of_ble_eq_true rfl) (Nat.le_of_ble_eq_true rfl) ⟨rfl, hI, hs⟩
    · have hi2 : i < ys.length := by
        rcases Nat.lt_or_ge i ys.length with q | q
        · exact q
        · exact absurd (nI_le q (by have := hY.le; omega)) c_14
      have hlt60 : (cutL (ys.take i) a b).length < 60 := by
        have h1 := cutL_len (ys.take i) a b
        have h2 := hY.le
        simp at h1; omega
      refine mg_iload d_In_copyWithout_17 rfl ?_
      refine mg_iload_n d_In_copyWithout_19 rfl rfl ?_
      refine mg_icmp_lt (tgt := 31) d_In_copyWithout_20 (by decide) (fun c_20 => ?_) (fun c_20 => ?_)
      · have hcond : i < a ∨ a + b ≤ i := Or.inl (by
          rcases Nat.lt_or_ge i a with q | q
          · exact q
          · exact absurd c_20 (nI_nlt q (by have := hY.le; omega)))
        first | refine mg_aload_n d_In_copyWithout_31 rfl rfl ?_ | refine mg_aload_nN d_In_copyWithout_31 rfl rfl ?_
        first | refine mg_aload_n d_In_copyWithout_32 rfl rfl ?_ | refine mg_aload_nN d_In_copyWithout_32 rfl rfl ?_
        refine mg_iload d_In_copyWithout_33 rfl ?_
        refine mg_iconst (v := 0) d_In_copyWithout_35 (by decide) ?_
        refine mg_callV (vl_In_32 rfl) d_In_copyWithout_36 (by obtain ⟨_, e1, -⟩ := hY; exact e1) rfl rfl (c_In_at hY) rfl rfl (by rw [hR]; decide) (by rw [hR]; decide) (Nat.le_of_ble_eq_true rfl) ?_
        rintro v M1 ⟨rfl, rfl⟩
        refine mg_callV (vl_In_35 rfl) d_In_copyWithout_39 (by obtain ⟨_, e1, -⟩ := hI; exact e1) rfl rfl (c_In_add hI) rfl rfl (by rw [hR]; decide) (by rw [hR]; decide) (Nat.le_of_ble_eq_true rfl) ?_
        rintro v M2 ⟨rfl, hI2, hs2⟩
        rw [if_pos hlt60, atI_in hY.le hi2, ← cutL_in hi2 hcond] at hI2
        have hY := hY.sm hs2 (by omega)
        have hs := hs.tr hs2
        have hI := hI2
        clear hI2 hs2
        refine mg_pop d_In_copyWithout_42 rfl ?_
        refine mg_iinc (v := nI (i + 1)) d_In_copyWithout_43 rfl (by rw [← nI_1]; rfl) (Nat.le_of_ble_eq_true rfl) rfl ?_
        refine mg_goto (tgt := 8) d_In_copyWithout_46 (by decide) ?_
        exact ih (i + 1) _ (by omega) (by omega) hI hY hs
      · refine mg_iload d_In_copyWithout_23 rfl ?_
        refine mg_iload_n d_In_copyWithout_25 rfl rfl ?_
        refine mg_iload_n d_In_copyWithout_26 rfl rfl ?_
        refine mg_iadd d_In_copyWithout_27 ?_
        refine mg_icmp_lt (tgt := 43) d_In_copyWithout_28 (by decide) (fun c_28 => ?_) (fun c_28 => ?_)
        · have hcond : ¬ (i < a ∨ a + b ≤ i) := by
            rintro (q | q)
            · exact c_20 (nI_lt q (by omega))
            · rw [nI_add] at c_28
              exact absurd c_28 (nI_nlt q (by have := hY.le; omega))
          rw [← cutL_out hi2 hcond] at hI
          refine mg_iinc (v := nI (i + 1)) d_In_copyWithout_43 rfl (by rw [← nI_1]; rfl) (Nat.le_of_ble_eq_true rfl) rfl ?_
          refine mg_goto (tgt := 8) d_In_copyWithout_46 (by decide) ?_
          exact ih (i + 1) _ (by omega) (by omega) hI hY hs
        · have hcond : i < a ∨ a + b ≤ i := Or.inr (by
            rcases Nat.lt_or_ge i (a + b) with q | q
            · exact absurd (by rw [nI_add]; exact nI_lt q (by omega)) c_28
            · exact q)
          first | refine mg_aload_n d_In_copyWithout_31 rfl rfl ?_ | refine mg_aload_nN d_In_copyWithout_31 rfl rfl ?_
          first | refine mg_aload_n d_In_copyWithout_32 rfl rfl ?_ | refine mg_aload_nN d_In_copyWithout_32 rfl rfl ?_
          refine mg_iload d_In_copyWithout_33 rfl ?_
          refine mg_iconst (v := 0) d_In_copyWithout_35 (by decide) ?_
          refine mg_callV (vl_In_32 rfl) d_In_copyWithout_36 (by obtain ⟨_, e1, -⟩ := hY; exact e1) rfl rfl (c_In_at hY) rfl rfl (by rw [hR]; decide) (by rw [hR]; decide) (Nat.le_of_ble_eq_true rfl) ?_
          rintro v M1 ⟨rfl, rfl⟩
          refine mg_callV (vl_In_35 rfl) d_In_copyWithout_39 (by obtain ⟨_, e1, -⟩ := hI; exact e1) rfl rfl (c_In_add hI) rfl rfl (by rw [hR]; decide) (by rw [hR]; decide) (Nat.le_of_ble_eq_true rfl) ?_
          rintro v M2 ⟨rfl, hI2, hs2⟩
          rw [if_pos hlt60, atI_in hY.le hi2, ← cutL_in hi2 hcond] at hI2
          have hY := hY.sm hs2 (by omega)
          have hs := hs.tr hs2
          have hI := hI2
          clear hI2 hs2
          refine mg_pop d_In_copyWithout_42 rfl ?_
          refine mg_iinc (v := nI (i + 1)) d_In_copyWithout_43 rfl (by rw [← nI_1]; rfl) (Nat.le_of_ble_eq_true rfl) rfl ?_
          refine mg_goto (tgt := 8) d_In_copyWithout_46 (by decide) ?_
          exact ih (i + 1) _ (by omega) (by omega) hI hY hs

set_option maxHeartbeats 4000000 in
set_option maxRecDepth 100000 in
theorem c_In_copyWithout {M : mg_M} {h h2 a b : Nat} {xs ys : List Int32} (hI : isI M h xs) (hY : isI M h2 ys) (hd : h + 2 ≤ h2 ∨ h2 + 2 ≤ h) (hab : a + b < 2 ^ 30) : mg_Ct Y_In_copyWithout { frames := 1, cells := 0, slots := 0, locals := 22 } [.ref h, .ref h2, .int (nI a), .int (nI b)] M (fun v M' => v = none ∧ isI M' h (cutL ys a b) ∧ sm h (h + 2) M M') := by
  refine mg_met [some (.ref h), some (.ref h2), some (.int (nI a)), some (.int (nI b)), none] (by decide +kernel) rfl (Nat.le_of_ble_eq_true rfl) ?_
  intro X hR _
  first | refine mg_aload_n d_In_copyWithout_0 rfl rfl ?_ | refine mg_aload_nN d_In_copyWithout_0 rfl rfl ?_
  refine mg_iconst (v := 0) d_In_copyWithout_1 (by decide) ?_
  refine mg_putfield (fw_In_15 _) d_In_copyWithout_2 (by obtain ⟨_, e1, -⟩ := hI; exact e1) (Nat.le_of_ble_eq_true rfl) (fun _ => ⟨rfl, rfl⟩) ?_
  refine mg_iconst (v := 0) d_In_copyWithout_5 (by decide) ?_
  refine mg_istore d_In_copyWithout_6 (Nat.le_of_ble_eq_true rfl) rfl ?_
  refine lp_In_cw (M0 := M) hR hd hab (ys.length + 1) 0 _ (by omega) (by omega) ?_ (hY.up (by omega) (by omega)) (sm.rf.up (by omega) (by omega))
  obtain ⟨f, h1, h2, h3, h4⟩ := hI
  refine ⟨f, ?_, ?_, by simp [cutL], fun q hq => by simp [cutL] at hq⟩
  · rw [mg_up_s]; simp [cutL, nI_0]
  · rw [mg_up_n _ _ (by omega)]; exact h2

set_option maxHeartbeats 4000000 in
set_option maxRecDepth 100000 in
theorem c_In_copyFrom {M : mg_M} {h h2 : Nat} {xs ys : List Int32} (hI : isI M h xs) (hY : isI M h2 ys) (hd : h + 2 ≤ h2 ∨ h2 + 2 ≤ h) : mg_Ct Y_In_copyFrom { frames := 2, cells := 0, slots := 0, locals := 46 } [.ref h, .ref h2] M (fun v M' => v = none ∧ isI M' h ys ∧ sm h (h + 2) M M') := by
  refine mg_met [some (.ref h), some (.ref h2)] (by decide +kernel) rfl (Nat.le_of_ble_eq_true rfl) ?_
  intro X hR _
  first | refine mg_aload_n d_In_copyFrom_0 rfl rfl ?_ | refine mg_aload_nN d_In_copyFrom_0 rfl rfl ?_
  first | refine mg_aload_n d_In_copyFrom_1 rfl rfl ?_ | refine mg_aload_nN d_In_copyFrom_1 rfl rfl ?_
  refine mg_iconst (v := 0) d_In_copyFrom_2 (by decide) ?_
  refine mg_iconst (v := 0) d_In_copyFrom_3 (by decide) ?_
  refine mg_callV (vl_In_28 rfl) d_In_copyFrom_4 (by obtain ⟨_, e1, -⟩ := hI; exact e1) rfl rfl (c_In_copyWithout (a := 0) (b := 0) hI hY hd (by decide)) rfl rfl (by rw [hR]; decide) (by rw [hR]; decide) (Nat.le_of_ble_eq_true rfl) ?_
  rintro v M1 ⟨rfl, h1, h2⟩
  rw [cutL_00] at h1
  exact mg_return d_In_copyFrom_7 rfl (Nat.le_of_ble_eq_true rfl) (Nat.le_of_ble_eq_true rfl) ⟨rfl, h1, h2⟩

