/-! THE REFERENCE: copy, drop, make -/
theorem cutL_len' {l : List Int32} {a b : Nat} (h : a + b ≤ l.length) : (cutL l a b).length = l.length - b := by
  simp [cutL]; omega
theorem cutL_get {l : List Int32} {a b i : Nat} (h : a + b ≤ l.length) (hi : i < l.length - b) : (cutL l a b).getD i 0 = if i < a then l.getD i 0 else l.getD (i + b) 0 := by
  unfold cutL
  rw [List.getD_eq_getElem?_getD]
  by_cases h1 : i < a
  · rw [if_pos h1, List.getElem?_append_left (by rw [List.length_take]; omega), List.getElem?_take_of_lt h1, ← List.getD_eq_getElem?_getD]
  · rw [if_neg h1, List.getElem?_append_right (by rw [List.length_take]; omega), List.getElem?_drop, List.length_take, Nat.min_eq_left (by omega), show a + b + (i - a) = i + b by omega, ← List.getD_eq_getElem?_getD]

set_option maxHeartbeats 4000000 in
set_option maxRecDepth 100000 in
theorem cp_copy {X : mg_X} {M : mg_M} {si : Nat → Int32} {x s : Int64} {L : List Int32} {sf : Nat → Int32} {Q : State → Prop}  (hO : M 1000 = some (moE si x s)) (hb : si 26 = nI L.length) (hL : L.length ≤ 60) (hsrc : M 1016 = some (iaE 60 sf)) (hsf : ∀ j, j < L.length → sf j = L.getD j 0) (kk : ∀ (M' : mg_M) (f : Nat → Int32), M' 1008 = some (iaE 60 f) → (∀ j, j < L.length → f j = L.getD j 0) → (∀ k, k ≠ 1008 → M' k = M k) → mg_G X Y_Mo_copy Q M' 0 0 36 [some (.ref 1000), some (.int (nI L.length))] []) : ∀ n : Nat, ∀ (i : Nat) (M' : mg_M) (f : Nat → Int32), L.length - i < n → i ≤ L.length → M' 1008 = some (iaE 60 f) → (∀ j, j < i → f j = L.getD j 0) → (∀ k, k ≠ 1008 → M' k = M k) → mg_G X Y_Mo_copy Q M' 0 0 10 [some (.ref 1000), some (.int (nI i))] [] := by
  intro n
  induction n with
  | zero =>
    intro i M' f hn hi hM hf hfr
    exact absurd hn (by omega)
  | succ n ih =>
    intro i M' f hn hi hM hf hfr
    have hO2 : M' 1000 = some (moE si x s) := (hfr _ (by decide)).trans hO
    have hsrc2 : M' 1016 = some (iaE 60 sf) := (hfr _ (by decide)).trans hsrc
    refine mg_iload_n d_Mo_copy_10 rfl rfl ?_
    first | refine mg_aload_n d_Mo_copy_11 rfl rfl ?_ | refine mg_aload_nN d_Mo_copy_11 rfl rfl ?_
    refine mg_getfield fl_Mo_55 d_Mo_copy_12 (by first | assumption | exact mg_up_s _ _ _ | (rw [mg_up_n _ _ (by decide)]; first | assumption | exact mg_up_s _ _ _ | (rw [mg_up_n _ _ (by decide)]; first | assumption | exact mg_up_s _ _ _ | (rw [mg_up_n _ _ (by decide)]; first | assumption | exact mg_up_s _ _ _ | (rw [mg_up_n _ _ (by decide)]; first | assumption | exact mg_up_s _ _ _ | (rw [mg_up_n _ _ (by decide)]; first | assumption | exact mg_up_s _ _ _ | (rw [mg_up_n _ _ (by decide)]; first | assumption | exact mg_up_s _ _ _))))))) rfl ?_
    refine mg_icmp_ge (tgt := 36) d_Mo_copy_15 (by decide) (fun c_15 => ?_) (fun c_15 => ?_)
    · have e : i = L.length := by
        rw [hb] at c_15
        have := (nI_leI (by omega) (by omega)).mp c_15
        omega
      subst e
      exact kk M' f hM hf hfr
    · have hi2 : i < L.length := by
        rw [hb] at c_15
        exact Nat.lt_of_not_le (fun q => c_15 (nI_le q (by omega)))
      have hin : vp_in (nI i) 60 := vp_in_nI (by omega) (by decide)
      have hin2 : vp_in (nI i) 60 := vp_in_nI (by omega) (by decide)
      first | refine mg_aload_n d_Mo_copy_18 rfl rfl ?_ | refine mg_aload_nN d_Mo_copy_18 rfl rfl ?_
      refine mg_getfield fl_Mo_31 d_Mo_copy_19 (by first | assumption | exact mg_up_s _ _ _ | (rw [mg_up_n _ _ (by decide)]; first | assumption | exact mg_up_s _ _ _ | (rw [mg_up_n _ _ (by decide)]; first | assumption | exact mg_up_s _ _ _ | (rw [mg_up_n _ _ (by decide)]; first | assumption | exact mg_up_s _ _ _ | (rw [mg_up_n _ _ (by decide)]; first | assumption | exact mg_up_s _ _ _ | (rw [mg_up_n _ _ (by decide)]; first | assumption | exact mg_up_s _ _ _ | (rw [mg_up_n _ _ (by decide)]; first | assumption | exact mg_up_s _ _ _))))))) rfl ?_
      refine mg_iload_n d_Mo_copy_22 rfl rfl ?_
      first | refine mg_aload_n d_Mo_copy_23 rfl rfl ?_ | refine mg_aload_nN d_Mo_copy_23 rfl rfl ?_
      refine mg_getfield fl_Mo_59 d_Mo_copy_24 (by first | assumption | exact mg_up_s _ _ _ | (rw [mg_up_n _ _ (by decide)]; first | assumption | exact mg_up_s _ _ _ | (rw [mg_up_n _ _ (by decide)]; first | assumption | exact mg_up_s _ _ _ | (rw [mg_up_n _ _ (by decide)]; first | assumption | exact mg_up_s _ _ _ | (rw [mg_up_n _ _ (by decide)]; first | assumption | exact mg_up_s _ _ _ | (rw [mg_up_n _ _ (by decide)]; first | assumption | exact mg_up_s _ _ _ | (rw [mg_up_n _ _ (by decide)]; first | assumption | exact mg_up_s _ _ _))))))) rfl ?_
      refine mg_iload_n d_Mo_copy_27 rfl rfl ?_
      skip
      refine mg_iaload rfl d_Mo_copy_28 (by first | assumption | exact mg_up_s _ _ _ | (rw [mg_up_n _ _ (by decide)]; first | assumption | exact mg_up_s _ _ _ | (rw [mg_up_n _ _ (by decide)]; first | assumption | exact mg_up_s _ _ _ | (rw [mg_up_n _ _ (by decide)]; first | assumption | exact mg_up_s _ _ _ | (rw [mg_up_n _ _ (by decide)]; first | assumption | exact mg_up_s _ _ _ | (rw [mg_up_n _ _ (by decide)]; first | assumption | exact mg_up_s _ _ _ | (rw [mg_up_n _ _ (by decide)]; first | assumption | exact mg_up_s _ _ _))))))) hin2 ?_
      refine mg_eqi (y := L.getD i 0) (by rw [nI_clamp (by omega)]; exact hsf i hi2) ?_
      refine mg_iastore rfl d_Mo_copy_29 (by first | assumption | exact mg_up_s _ _ _ | (rw [mg_up_n _ _ (by decide)]; first | assumption | exact mg_up_s _ _ _ | (rw [mg_up_n _ _ (by decide)]; first | assumption | exact mg_up_s _ _ _ | (rw [mg_up_n _ _ (by decide)]; first | assumption | exact mg_up_s _ _ _ | (rw [mg_up_n _ _ (by decide)]; first | assumption | exact mg_up_s _ _ _ | (rw [mg_up_n _ _ (by decide)]; first | assumption | exact mg_up_s _ _ _ | (rw [mg_up_n _ _ (by decide)]; first | assumption | exact mg_up_s _ _ _))))))) hin ?_
      refine mg_eqM (M' := mg_up M' 1008 (iaE 60 (upd f i (L.getD i 0)))) (by rw [nI_clamp (by omega)]) ?_
      refine mg_iinc (v := nI (i + 1)) d_Mo_copy_30 rfl (nI_1 _) (Nat.le_of_ble_eq_true rfl) rfl ?_
      refine mg_goto (tgt := 10) d_Mo_copy_33 (by decide) ?_
      refine ih (i + 1) _ _ (by omega) (by omega) (mg_up_s _ _ _) (fun j hj => ?_) (fun k hk => (mg_up_n _ _ hk).trans (hfr k hk))
      by_cases e : j = i
      · subst e; rw [pk_us]
      · rw [pk_un e]; exact hf j (by omega)

set_option maxHeartbeats 4000000 in
set_option maxRecDepth 100000 in
theorem c_Mo_copy {M : mg_M} {si : Nat → Int32} {x s : Int64} {row : List Int32} (hO : M 1000 = some (moE si x s)) (h26 : si 26 = nI row.length) (hF : isA M 1016 60 row) (hI : ∃ f, M 1008 = some (iaE 60 f)) : mg_Ct Y_Mo_copy { frames := 0, cells := 0, slots := 0, locals := 0 } [.ref 1000] M (cpP M si x s row none) := by
  obtain ⟨ff, f1, f2, f3⟩ := hF
  obtain ⟨fi, hi1⟩ := hI
  refine mg_met [some (.ref 1000), none] (by decide +kernel) rfl (Nat.le_of_ble_eq_true rfl) ?_
  intro X hR _
  first | refine mg_aload_n d_Mo_copy_0 rfl rfl ?_ | refine mg_aload_nN d_Mo_copy_0 rfl rfl ?_
  first | refine mg_aload_n d_Mo_copy_1 rfl rfl ?_ | refine mg_aload_nN d_Mo_copy_1 rfl rfl ?_
  refine mg_getfield fl_Mo_55 d_Mo_copy_2 (by first | assumption | exact mg_up_s _ _ _ | (rw [mg_up_n _ _ (by decide)]; first | assumption | exact mg_up_s _ _ _ | (rw [mg_up_n _ _ (by decide)]; first | assumption | exact mg_up_s _ _ _ | (rw [mg_up_n _ _ (by decide)]; first | assumption | exact mg_up_s _ _ _ | (rw [mg_up_n _ _ (by decide)]; first | assumption | exact mg_up_s _ _ _ | (rw [mg_up_n _ _ (by decide)]; first | assumption | exact mg_up_s _ _ _ | (rw [mg_up_n _ _ (by decide)]; first | assumption | exact mg_up_s _ _ _))))))) rfl ?_
  refine mg_eqi h26 ?_
  refine mg_putfield (fw_Mo_111 _) d_Mo_copy_5 (by first | assumption | exact mg_up_s _ _ _ | (rw [mg_up_n _ _ (by decide)]; first | assumption | exact mg_up_s _ _ _ | (rw [mg_up_n _ _ (by decide)]; first | assumption | exact mg_up_s _ _ _ | (rw [mg_up_n _ _ (by decide)]; first | assumption | exact mg_up_s _ _ _ | (rw [mg_up_n _ _ (by decide)]; first | assumption | exact mg_up_s _ _ _ | (rw [mg_up_n _ _ (by decide)]; first | assumption | exact mg_up_s _ _ _ | (rw [mg_up_n _ _ (by decide)]; first | assumption | exact mg_up_s _ _ _))))))) (Nat.le_of_ble_eq_true rfl) (fun _ => ⟨rfl, rfl⟩) ?_
  refine mg_eqM (M' := mg_up M 1000 (moE (upd si 20 (nI row.length)) x s)) rfl ?_
  refine mg_iconst (v := 0) d_Mo_copy_8 (by decide) ?_
  refine mg_istore_n d_Mo_copy_9 rfl (Nat.le_of_ble_eq_true rfl) rfl ?_
  refine cp_copy (si := upd si 20 (nI row.length)) (L := row) (sf := ff) (mg_up_s _ _ _) h26 f2 ((mg_up_n _ _ (by decide)).trans f1) f3 (fun M' f hM hf hfr => ?_) (row.length + 1) 0 _ fi (by omega) (by omega) ((mg_up_n _ _ (by decide)).trans hi1) (fun j hj => absurd hj (Nat.not_lt_zero _)) (fun _ _ => rfl)
  exact mg_return d_Mo_copy_36 rfl (Nat.le_of_ble_eq_true rfl) (Nat.le_of_ble_eq_true rfl) ⟨rfl, (hfr _ (by decide)).trans (mg_up_s _ _ _), ⟨f, hM, f2, hf⟩, fun k h0 h1 => (hfr k h1).trans (mg_up_n _ _ h0)⟩

set_option maxHeartbeats 4000000 in
set_option maxRecDepth 100000 in
theorem cp_drop {X : mg_X} {M : mg_M} {si : Nat → Int32} {x s : Int64} {L : List Int32} {sf : Nat → Int32} {Q : State → Prop} {row : List Int32} {N q : Nat} (hN : N ≤ 60) (hrl : row.length ≤ 60) (hql : q + N ≤ row.length) (hLe : L = cutL row q N) (hrow : ∀ j, j < row.length → sf j = row.getD j 0) (hO : M 1000 = some (moE si x s)) (hb : si 20 = nI L.length) (hL : L.length ≤ 60) (hsrc : M 1016 = some (iaE 60 sf)) (kk : ∀ (M' : mg_M) (f : Nat → Int32), M' 1008 = some (iaE 60 f) → (∀ j, j < L.length → f j = L.getD j 0) → (∀ k, k ≠ 1008 → M' k = M k) → mg_G X Y_Mo_drop Q M' 0 0 49 [some (.ref 1000), some (.int (nI N)), some (.int (nI q)), some (.int (nI L.length))] []) : ∀ n : Nat, ∀ (i : Nat) (M' : mg_M) (f : Nat → Int32), L.length - i < n → i ≤ L.length → M' 1008 = some (iaE 60 f) → (∀ j, j < i → f j = L.getD j 0) → (∀ k, k ≠ 1008 → M' k = M k) → mg_G X Y_Mo_drop Q M' 0 0 12 [some (.ref 1000), some (.int (nI N)), some (.int (nI q)), some (.int (nI i))] [] := by
  intro n
  induction n with
  | zero =>
    intro i M' f hn hi hM hf hfr
    exact absurd hn (by omega)
  | succ n ih =>
    intro i M' f hn hi hM hf hfr
    have hO2 : M' 1000 = some (moE si x s) := (hfr _ (by decide)).trans hO
    have hsrc2 : M' 1016 = some (iaE 60 sf) := (hfr _ (by decide)).trans hsrc
    refine mg_iload_n d_Mo_drop_12 rfl rfl ?_
    first | refine mg_aload_n d_Mo_drop_13 rfl rfl ?_ | refine mg_aload_nN d_Mo_drop_13 rfl rfl ?_
    refine mg_getfield fl_Mo_111 d_Mo_drop_14 (by first | assumption | exact mg_up_s _ _ _ | (rw [mg_up_n _ _ (by decide)]; first | assumption | exact mg_up_s _ _ _ | (rw [mg_up_n _ _ (by decide)]; first | assumption | exact mg_up_s _ _ _ | (rw [mg_up_n _ _ (by decide)]; first | assumption | exact mg_up_s _ _ _ | (rw [mg_up_n _ _ (by decide)]; first | assumption | exact mg_up_s _ _ _ | (rw [mg_up_n _ _ (by decide)]; first | assumption | exact mg_up_s _ _ _ | (rw [mg_up_n _ _ (by decide)]; first | assumption | exact mg_up_s _ _ _))))))) rfl ?_
    refine mg_icmp_ge (tgt := 49) d_Mo_drop_17 (by decide) (fun c_17 => ?_) (fun c_17 => ?_)
    · have e : i = L.length := by
        rw [hb] at c_17
        have := (nI_leI (by omega) (by omega)).mp c_17
        omega
      subst e
      exact kk M' f hM hf hfr
    · have hi2 : i < L.length := by
        rw [hb] at c_17
        exact Nat.lt_of_not_le (fun q => c_17 (nI_le q (by omega)))
      have hin : vp_in (nI i) 60 := vp_in_nI (by omega) (by decide)
      have hin2 : vp_in (nI i) 60 := vp_in_nI (by omega) (by decide)
      first | refine mg_aload_n d_Mo_drop_20 rfl rfl ?_ | refine mg_aload_nN d_Mo_drop_20 rfl rfl ?_
      refine mg_getfield fl_Mo_31 d_Mo_drop_21 (by first | assumption | exact mg_up_s _ _ _ | (rw [mg_up_n _ _ (by decide)]; first | assumption | exact mg_up_s _ _ _ | (rw [mg_up_n _ _ (by decide)]; first | assumption | exact mg_up_s _ _ _ | (rw [mg_up_n _ _ (by decide)]; first | assumption | exact mg_up_s _ _ _ | (rw [mg_up_n _ _ (by decide)]; first | assumption | exact mg_up_s _ _ _ | (rw [mg_up_n _ _ (by decide)]; first | assumption | exact mg_up_s _ _ _ | (rw [mg_up_n _ _ (by decide)]; first | assumption | exact mg_up_s _ _ _))))))) rfl ?_
      refine mg_iload_n d_Mo_drop_24 rfl rfl ?_
      first | refine mg_aload_n d_Mo_drop_25 rfl rfl ?_ | refine mg_aload_nN d_Mo_drop_25 rfl rfl ?_
      refine mg_getfield fl_Mo_59 d_Mo_drop_26 (by first | assumption | exact mg_up_s _ _ _ | (rw [mg_up_n _ _ (by decide)]; first | assumption | exact mg_up_s _ _ _ | (rw [mg_up_n _ _ (by decide)]; first | assumption | exact mg_up_s _ _ _ | (rw [mg_up_n _ _ (by decide)]; first | assumption | exact mg_up_s _ _ _ | (rw [mg_up_n _ _ (by decide)]; first | assumption | exact mg_up_s _ _ _ | (rw [mg_up_n _ _ (by decide)]; first | assumption | exact mg_up_s _ _ _ | (rw [mg_up_n _ _ (by decide)]; first | assumption | exact mg_up_s _ _ _))))))) rfl ?_
      refine mg_iload_n d_Mo_drop_29 rfl rfl ?_
      refine mg_iload_n d_Mo_drop_30 rfl rfl ?_
      refine mg_icmp_ge (tgt := 38) d_Mo_drop_31 (by decide) (fun c_31 => ?_) (fun c_31 => ?_)
      · have hqi : q ≤ i := (nI_leI (by omega) (by omega)).mp c_31
        have hll := cutL_len' hql
        rw [← hLe] at hll
        have hin2 : vp_in (nI i + nI N) 60 := by rw [nI_add]; exact vp_in_nI (by omega) (by decide)
        have hval : sf (nI i + nI N).toNatClampNeg = L.getD i 0 := by rw [nI_add, nI_clamp (by omega), hLe, cutL_get hql (by omega), if_neg (by omega)]; exact hrow _ (by omega)
        refine mg_iload_n d_Mo_drop_38 rfl rfl ?_
        refine mg_iload_n d_Mo_drop_39 rfl rfl ?_
        refine mg_iadd d_Mo_drop_40 ?_
        skip
        refine mg_iaload rfl d_Mo_drop_41 (by first | assumption | exact mg_up_s _ _ _ | (rw [mg_up_n _ _ (by decide)]; first | assumption | exact mg_up_s _ _ _ | (rw [mg_up_n _ _ (by decide)]; first | assumption | exact mg_up_s _ _ _ | (rw [mg_up_n _ _ (by decide)]; first | assumption | exact mg_up_s _ _ _ | (rw [mg_up_n _ _ (by decide)]; first | assumption | exact mg_up_s _ _ _ | (rw [mg_up_n _ _ (by decide)]; first | assumption | exact mg_up_s _ _ _ | (rw [mg_up_n _ _ (by decide)]; first | assumption | exact mg_up_s _ _ _))))))) hin2 ?_
        refine mg_eqi (y := L.getD i 0) (by exact hval) ?_
        refine mg_iastore rfl d_Mo_drop_42 (by first | assumption | exact mg_up_s _ _ _ | (rw [mg_up_n _ _ (by decide)]; first | assumption | exact mg_up_s _ _ _ | (rw [mg_up_n _ _ (by decide)]; first | assumption | exact mg_up_s _ _ _ | (rw [mg_up_n _ _ (by decide)]; first | assumption | exact mg_up_s _ _ _ | (rw [mg_up_n _ _ (by decide)]; first | assumption | exact mg_up_s _ _ _ | (rw [mg_up_n _ _ (by decide)]; first | assumption | exact mg_up_s _ _ _ | (rw [mg_up_n _ _ (by decide)]; first | assumption | exact mg_up_s _ _ _))))))) hin ?_
        refine mg_eqM (M' := mg_up M' 1008 (iaE 60 (upd f i (L.getD i 0)))) (by rw [nI_clamp (by omega)]) ?_
        refine mg_iinc (v := nI (i + 1)) d_Mo_drop_43 rfl (nI_1 _) (Nat.le_of_ble_eq_true rfl) rfl ?_
        refine mg_goto (tgt := 12) d_Mo_drop_46 (by decide) ?_
        refine ih (i + 1) _ _ (by omega) (by omega) (mg_up_s _ _ _) (fun j hj => ?_) (fun k hk => (mg_up_n _ _ hk).trans (hfr k hk))
        by_cases e : j = i
        · subst e; rw [pk_us]
        · rw [pk_un e]; exact hf j (by omega)
      · have hqi : i < q := Nat.lt_of_not_le (fun e => c_31 (nI_le e (by omega)))
        have hll := cutL_len' hql
        rw [← hLe] at hll
        have hval : sf (nI i).toNatClampNeg = L.getD i 0 := by rw [nI_clamp (by omega), hLe, cutL_get hql (by omega), if_pos hqi]; exact hrow _ (by omega)
        refine mg_iload_n d_Mo_drop_34 rfl rfl ?_
        refine mg_goto (tgt := 41) d_Mo_drop_35 (by decide) ?_
        skip
        refine mg_iaload rfl d_Mo_drop_41 (by first | assumption | exact mg_up_s _ _ _ | (rw [mg_up_n _ _ (by decide)]; first | assumption | exact mg_up_s _ _ _ | (rw [mg_up_n _ _ (by decide)]; first | assumption | exact mg_up_s _ _ _ | (rw [mg_up_n _ _ (by decide)]; first | assumption | exact mg_up_s _ _ _ | (rw [mg_up_n _ _ (by decide)]; first | assumption | exact mg_up_s _ _ _ | (rw [mg_up_n _ _ (by decide)]; first | assumption | exact mg_up_s _ _ _ | (rw [mg_up_n _ _ (by decide)]; first | assumption | exact mg_up_s _ _ _))))))) hin2 ?_
        refine mg_eqi (y := L.getD i 0) (by exact hval) ?_
        refine mg_iastore rfl d_Mo_drop_42 (by first | assumption | exact mg_up_s _ _ _ | (rw [mg_up_n _ _ (by decide)]; first | assumption | exact mg_up_s _ _ _ | (rw [mg_up_n _ _ (by decide)]; first | assumption | exact mg_up_s _ _ _ | (rw [mg_up_n _ _ (by decide)]; first | assumption | exact mg_up_s _ _ _ | (rw [mg_up_n _ _ (by decide)]; first | assumption | exact mg_up_s _ _ _ | (rw [mg_up_n _ _ (by decide)]; first | assumption | exact mg_up_s _ _ _ | (rw [mg_up_n _ _ (by decide)]; first | assumption | exact mg_up_s _ _ _))))))) hin ?_
        refine mg_eqM (M' := mg_up M' 1008 (iaE 60 (upd f i (L.getD i 0)))) (by rw [nI_clamp (by omega)]) ?_
        refine mg_iinc (v := nI (i + 1)) d_Mo_drop_43 rfl (nI_1 _) (Nat.le_of_ble_eq_true rfl) rfl ?_
        refine mg_goto (tgt := 12) d_Mo_drop_46 (by decide) ?_
        refine ih (i + 1) _ _ (by omega) (by omega) (mg_up_s _ _ _) (fun j hj => ?_) (fun k hk => (mg_up_n _ _ hk).trans (hfr k hk))
        by_cases e : j = i
        · subst e; rw [pk_us]
        · rw [pk_un e]; exact hf j (by omega)

set_option maxHeartbeats 4000000 in
set_option maxRecDepth 100000 in
theorem c_Mo_drop {M : mg_M} {si : Nat → Int32} {x s : Int64} {row : List Int32} {N q : Nat} (hO : M 1000 = some (moE si x s)) (h26 : si 26 = nI row.length) (hF : isA M 1016 60 row) (hI : ∃ f, M 1008 = some (iaE 60 f)) (hql : q + N ≤ row.length) : mg_Ct Y_Mo_drop { frames := 0, cells := 0, slots := 0, locals := 0 } [.ref 1000, .int (nI N), .int (nI q)] M (cpP M si x s (cutL row q N) (some (.int 1))) := by
  obtain ⟨ff, f1, f2, f3⟩ := hF
  obtain ⟨fi, hi1⟩ := hI
  refine mg_met [some (.ref 1000), some (.int (nI N)), some (.int (nI q)), none] (by decide +kernel) rfl (Nat.le_of_ble_eq_true rfl) ?_
  intro X hR _
  first | refine mg_aload_n d_Mo_drop_0 rfl rfl ?_ | refine mg_aload_nN d_Mo_drop_0 rfl rfl ?_
  first | refine mg_aload_n d_Mo_drop_1 rfl rfl ?_ | refine mg_aload_nN d_Mo_drop_1 rfl rfl ?_
  refine mg_getfield fl_Mo_55 d_Mo_drop_2 (by first | assumption | exact mg_up_s _ _ _ | (rw [mg_up_n _ _ (by decide)]; first | assumption | exact mg_up_s _ _ _ | (rw [mg_up_n _ _ (by decide)]; first | assumption | exact mg_up_s _ _ _ | (rw [mg_up_n _ _ (by decide)]; first | assumption | exact mg_up_s _ _ _ | (rw [mg_up_n _ _ (by decide)]; first | assumption | exact mg_up_s _ _ _ | (rw [mg_up_n _ _ (by decide)]; first | assumption | exact mg_up_s _ _ _ | (rw [mg_up_n _ _ (by decide)]; first | assumption | exact mg_up_s _ _ _))))))) rfl ?_
  refine mg_iload_n d_Mo_drop_5 rfl rfl ?_
  refine mg_isub d_Mo_drop_6 ?_
  refine mg_eqi (y := nI (cutL row q N).length) (by rw [h26, pk_sub (by omega), cutL_len' hql]) ?_
  refine mg_putfield (fw_Mo_111 _) d_Mo_drop_7 (by first | assumption | exact mg_up_s _ _ _ | (rw [mg_up_n _ _ (by decide)]; first | assumption | exact mg_up_s _ _ _ | (rw [mg_up_n _ _ (by decide)]; first | assumption | exact mg_up_s _ _ _ | (rw [mg_up_n _ _ (by decide)]; first | assumption | exact mg_up_s _ _ _ | (rw [mg_up_n _ _ (by decide)]; first | assumption | exact mg_up_s _ _ _ | (rw [mg_up_n _ _ (by decide)]; first | assumption | exact mg_up_s _ _ _ | (rw [mg_up_n _ _ (by decide)]; first | assumption | exact mg_up_s _ _ _))))))) (Nat.le_of_ble_eq_true rfl) (fun _ => ⟨rfl, rfl⟩) ?_
  refine mg_eqM (M' := mg_up M 1000 (moE (upd si 20 (nI (cutL row q N).length)) x s)) rfl ?_
  refine mg_iconst (v := 0) d_Mo_drop_10 (by decide) ?_
  refine mg_istore_n d_Mo_drop_11 rfl (Nat.le_of_ble_eq_true rfl) rfl ?_
  have hll := cutL_len' hql
  refine cp_drop (L := cutL row q N) (sf := ff) (row := row) (by omega) f2 hql rfl f3 (mg_up_s _ _ _) pk_us (by omega) ((mg_up_n _ _ (by decide)).trans f1) (fun M' f hM hf hfr => ?_) ((cutL row q N).length + 1) 0 _ fi (by omega) (by omega) ((mg_up_n _ _ (by decide)).trans hi1) (fun j hj => absurd hj (Nat.not_lt_zero _)) (fun _ _ => rfl)
  refine mg_iconst (v := 1) d_Mo_drop_49 (by decide) ?_
  exact mg_ireturn d_Mo_drop_50 rfl rfl (Nat.le_of_ble_eq_true rfl) (Nat.le_of_ble_eq_true rfl) ⟨rfl, (hfr _ (by decide)).trans (mg_up_s _ _ _), ⟨f, hM, by omega, hf⟩, fun k h0 h1 => (hfr k h1).trans (mg_up_n _ _ h0)⟩

def mkQ (M : mg_M) (si : Nat → Int32) (x s : Int64) (r : Option (List Int32)) : Option Value → mg_M → Prop := fun v M' => match r with
  | none => v = some (.int 0) ∧ M' = M
  | some l => cpP M si x s l (some (.int 1)) v M'
theorem many_le {l N w : Nat} (hl : l ≤ 60) (hN : N ≤ 8) (hw : w < 2 ^ 30) : nI l - nI N + 1 ≤ nI w ↔ l + 1 - N ≤ w := by
  have h1 : (nI l - nI N + 1).toInt = (l : Int) - N + 1 := by
    rw [Int32.toInt_add, pk_sub_toInt (by omega) (by omega), show (1 : Int32).toInt = 1 by decide]
    exact Int.bmod_eq_of_le (by omega) (by omega)
  rw [Int32.le_iff_toInt_le, h1, nI_toInt (by omega)]
  omega
theorem many_pos {l N : Nat} (hl : l ≤ 60) (hN : N ≤ 8) : nI l - nI N + 1 ≤ 0 ↔ l + 1 - N ≤ 0 := many_le (w := 0) hl hN (by decide)
theorem many_eq {l N : Nat} (hl : l ≤ 60) (hN : N ≤ 8) (h : 0 < l + 1 - N) : nI l - nI N + 1 = nI (l + 1 - N) := by
  have := pl_eq l (by omega) N (by omega)
  rwa [if_pos (Int32.not_le.mp (fun e => by have := (many_pos hl hN).mp e; omega))] at this

set_option maxHeartbeats 4000000 in
set_option maxRecDepth 100000 in
theorem mk_d {X : mg_X} {M : mg_M} {si : Nat → Int32} {x s : Int64} {row : List Int32} {P : Option Value → mg_M → Prop} {N q : Nat} {st : Int32} {t : Option Value} (hR : mg_R X = { frames := 1, cells := 0, slots := 0, locals := 23 }) (hO : M 1000 = some (moE si x s)) (h26 : si 26 = nI row.length) (hF : isA M 1016 60 row) (hI : ∃ f, M 1008 = some (iaE 60 f)) (hN1 : 1 ≤ N) (hN2 : N ≤ 8) (hq : q < 2 ^ 30) (ht : t = none ∨ ∃ z : Int32, t = some (.int z)) (hP : q < row.length + 1 - N → ∀ v M', cpP M si x s (cutL row q N) (some (.int 1)) v M' → P v M') (kk : ∀ z : Int32, row.length + 1 - N ≤ q → mg_G X Y_Mo_make (mg_Q X P { frames := 1, cells := 0, slots := 0, locals := 23 }) M 0 0 5 [some (.ref 1000), some (.int st), some (.int (nI (q - (row.length + 1 - N)))), some (.int (nI (N / 2))), some (.int z), none] []) : mg_G X Y_Mo_make (mg_Q X P { frames := 1, cells := 0, slots := 0, locals := 23 }) M 0 0 5 [some (.ref 1000), some (.int st), some (.int (nI (q))), some (.int (nI (N))), t, none] [] := by
  have hrl : row.length ≤ 60 := hF.le
  rcases ht with rfl | ⟨z0, rfl⟩
  · refine mg_iload_n d_Mo_make_5 rfl rfl ?_
    refine mg_if_le (tgt := 53) d_Mo_make_6 (by decide) (fun c_6 => ?_) (fun c_6 => ?_)
    · exact absurd ((nI_leI (b := 0) (by omega) (by decide)).mp c_6) (by omega)
    · first | refine mg_aload_n d_Mo_make_9 rfl rfl ?_ | refine mg_aload_nN d_Mo_make_9 rfl rfl ?_
      refine mg_getfield fl_Mo_55 d_Mo_make_10 (by first | assumption | exact mg_up_s _ _ _ | (rw [mg_up_n _ _ (by decide)]; first | assumption | exact mg_up_s _ _ _ | (rw [mg_up_n _ _ (by decide)]; first | assumption | exact mg_up_s _ _ _ | (rw [mg_up_n _ _ (by decide)]; first | assumption | exact mg_up_s _ _ _ | (rw [mg_up_n _ _ (by decide)]; first | assumption | exact mg_up_s _ _ _ | (rw [mg_up_n _ _ (by decide)]; first | assumption | exact mg_up_s _ _ _ | (rw [mg_up_n _ _ (by decide)]; first | assumption | exact mg_up_s _ _ _))))))) rfl ?_
      refine mg_iload_n d_Mo_make_13 rfl rfl ?_
      refine mg_isub d_Mo_make_14 ?_
      refine mg_iconst (v := 1) d_Mo_make_15 (by decide) ?_
      refine mg_iadd d_Mo_make_16 ?_
      refine mg_istore d_Mo_make_17 (Nat.le_of_ble_eq_true rfl) rfl ?_
      refine mg_iload d_Mo_make_19 rfl ?_
      refine mg_iload_n d_Mo_make_21 rfl rfl ?_
      refine mg_icmp_le (tgt := 32) d_Mo_make_22 (by decide) (fun c_22 => ?_) (fun c_22 => ?_)
      · have hge : row.length + 1 - N ≤ q := (many_le hrl hN2 hq).mp (by rw [← h26]; exact c_22)
        refine mg_iload_n d_Mo_make_32 rfl rfl ?_
        refine mg_iload d_Mo_make_33 rfl ?_
        refine mg_if_le (tgt := 43) d_Mo_make_35 (by decide) (fun c_35 => ?_) (fun c_35 => ?_)
        · have em : (0 : Int32) = nI (row.length + 1 - N) := by rw [show row.length + 1 - N = 0 by have := (many_pos hrl hN2).mp (by rw [← h26]; exact c_35); omega]; rfl
          refine mg_iconst (v := 0) d_Mo_make_43 (by decide) ?_
          refine mg_eqi em ?_
          refine mg_isub d_Mo_make_44 ?_
          refine mg_eqi (y := nI (q - (row.length + 1 - N))) (pk_sub hge) ?_
          refine mg_istore_n d_Mo_make_45 rfl (Nat.le_of_ble_eq_true rfl) rfl ?_
          refine mg_iload_n d_Mo_make_46 rfl rfl ?_
          refine mg_iconst (v := 2) d_Mo_make_47 (by decide) ?_
          refine mg_idiv d_Mo_make_48 (by first | assumption | decide) ?_
          refine mg_eqi (y := nI (N / 2)) (hf_eq N (by omega)) ?_
          refine mg_istore_n d_Mo_make_49 rfl (Nat.le_of_ble_eq_true rfl) rfl ?_
          refine mg_goto (tgt := 5) d_Mo_make_50 (by decide) ?_
          exact kk _ hge
        · have em : si 26 - nI N + 1 = nI (row.length + 1 - N) := by
            rw [h26]
            exact many_eq hrl hN2 (Nat.lt_of_not_le (fun e => c_35 (by rw [h26]; exact (many_pos hrl hN2).mpr e)))
          refine mg_iload d_Mo_make_38 rfl ?_
          refine mg_goto (tgt := 44) d_Mo_make_40 (by decide) ?_
          refine mg_eqi em ?_
          refine mg_isub d_Mo_make_44 ?_
          refine mg_eqi (y := nI (q - (row.length + 1 - N))) (pk_sub hge) ?_
          refine mg_istore_n d_Mo_make_45 rfl (Nat.le_of_ble_eq_true rfl) rfl ?_
          refine mg_iload_n d_Mo_make_46 rfl rfl ?_
          refine mg_iconst (v := 2) d_Mo_make_47 (by decide) ?_
          refine mg_idiv d_Mo_make_48 (by first | assumption | decide) ?_
          refine mg_eqi (y := nI (N / 2)) (hf_eq N (by omega)) ?_
          refine mg_istore_n d_Mo_make_49 rfl (Nat.le_of_ble_eq_true rfl) rfl ?_
          refine mg_goto (tgt := 5) d_Mo_make_50 (by decide) ?_
          exact kk _ hge
      · have hlt : q < row.length + 1 - N := Nat.lt_of_not_le (fun e => c_22 (by rw [h26]; exact (many_le hrl hN2 hq).mpr e))
        first | refine mg_aload_n d_Mo_make_25 rfl rfl ?_ | refine mg_aload_nN d_Mo_make_25 rfl rfl ?_
        refine mg_iload_n d_Mo_make_26 rfl rfl ?_
        refine mg_iload_n d_Mo_make_27 rfl rfl ?_
        refine mg_callV (vl_Mo_187 rfl) d_Mo_make_28 (by first | assumption | exact mg_up_s _ _ _ | (rw [mg_up_n _ _ (by decide)]; first | assumption | exact mg_up_s _ _ _ | (rw [mg_up_n _ _ (by decide)]; first | assumption | exact mg_up_s _ _ _ | (rw [mg_up_n _ _ (by decide)]; first | assumption | exact mg_up_s _ _ _ | (rw [mg_up_n _ _ (by decide)]; first | assumption | exact mg_up_s _ _ _ | (rw [mg_up_n _ _ (by decide)]; first | assumption | exact mg_up_s _ _ _ | (rw [mg_up_n _ _ (by decide)]; first | assumption | exact mg_up_s _ _ _))))))) rfl rfl (c_Mo_drop hO h26 hF hI (show q + N ≤ row.length by omega)) rfl rfl (by rw [hR]; decide) (by rw [hR]; decide) (Nat.le_of_ble_eq_true rfl) ?_
        rintro v M2 hv
        have hv2 := hv.1
        subst hv2
        exact mg_ireturn d_Mo_make_31 rfl rfl (Nat.le_of_ble_eq_true rfl) (Nat.le_of_ble_eq_true rfl) (hP hlt _ _ hv)
  · refine mg_iload_n d_Mo_make_5 rfl rfl ?_
    refine mg_if_le (tgt := 53) d_Mo_make_6 (by decide) (fun c_6 => ?_) (fun c_6 => ?_)
    · exact absurd ((nI_leI (b := 0) (by omega) (by decide)).mp c_6) (by omega)
    · first | refine mg_aload_n d_Mo_make_9 rfl rfl ?_ | refine mg_aload_nN d_Mo_make_9 rfl rfl ?_
      refine mg_getfield fl_Mo_55 d_Mo_make_10 (by first | assumption | exact mg_up_s _ _ _ | (rw [mg_up_n _ _ (by decide)]; first | assumption | exact mg_up_s _ _ _ | (rw [mg_up_n _ _ (by decide)]; first | assumption | exact mg_up_s _ _ _ | (rw [mg_up_n _ _ (by decide)]; first | assumption | exact mg_up_s _ _ _ | (rw [mg_up_n _ _ (by decide)]; first | assumption | exact mg_up_s _ _ _ | (rw [mg_up_n _ _ (by decide)]; first | assumption | exact mg_up_s _ _ _ | (rw [mg_up_n _ _ (by decide)]; first | assumption | exact mg_up_s _ _ _))))))) rfl ?_
      refine mg_iload_n d_Mo_make_13 rfl rfl ?_
      refine mg_isub d_Mo_make_14 ?_
      refine mg_iconst (v := 1) d_Mo_make_15 (by decide) ?_
      refine mg_iadd d_Mo_make_16 ?_
      refine mg_istore d_Mo_make_17 (Nat.le_of_ble_eq_true rfl) rfl ?_
      refine mg_iload d_Mo_make_19 rfl ?_
      refine mg_iload_n d_Mo_make_21 rfl rfl ?_
      refine mg_icmp_le (tgt := 32) d_Mo_make_22 (by decide) (fun c_22 => ?_) (fun c_22 => ?_)
      · have hge : row.length + 1 - N ≤ q := (many_le hrl hN2 hq).mp (by rw [← h26]; exact c_22)
        refine mg_iload_n d_Mo_make_32 rfl rfl ?_
        refine mg_iload d_Mo_make_33 rfl ?_
        refine mg_if_le (tgt := 43) d_Mo_make_35 (by decide) (fun c_35 => ?_) (fun c_35 => ?_)
        · have em : (0 : Int32) = nI (row.length + 1 - N) := by rw [show row.length + 1 - N = 0 by have := (many_pos hrl hN2).mp (by rw [← h26]; exact c_35); omega]; rfl
          refine mg_iconst (v := 0) d_Mo_make_43 (by decide) ?_
          refine mg_eqi em ?_
          refine mg_isub d_Mo_make_44 ?_
          refine mg_eqi (y := nI (q - (row.length + 1 - N))) (pk_sub hge) ?_
          refine mg_istore_n d_Mo_make_45 rfl (Nat.le_of_ble_eq_true rfl) rfl ?_
          refine mg_iload_n d_Mo_make_46 rfl rfl ?_
          refine mg_iconst (v := 2) d_Mo_make_47 (by decide) ?_
          refine mg_idiv d_Mo_make_48 (by first | assumption | decide) ?_
          refine mg_eqi (y := nI (N / 2)) (hf_eq N (by omega)) ?_
          refine mg_istore_n d_Mo_make_49 rfl (Nat.le_of_ble_eq_true rfl) rfl ?_
          refine mg_goto (tgt := 5) d_Mo_make_50 (by decide) ?_
          exact kk _ hge
        · have em : si 26 - nI N + 1 = nI (row.length + 1 - N) := by
            rw [h26]
            exact many_eq hrl hN2 (Nat.lt_of_not_le (fun e => c_35 (by rw [h26]; exact (many_pos hrl hN2).mpr e)))
          refine mg_iload d_Mo_make_38 rfl ?_
          refine mg_goto (tgt := 44) d_Mo_make_40 (by decide) ?_
          refine mg_eqi em ?_
          refine mg_isub d_Mo_make_44 ?_
          refine mg_eqi (y := nI (q - (row.length + 1 - N))) (pk_sub hge) ?_
          refine mg_istore_n d_Mo_make_45 rfl (Nat.le_of_ble_eq_true rfl) rfl ?_
          refine mg_iload_n d_Mo_make_46 rfl rfl ?_
          refine mg_iconst (v := 2) d_Mo_make_47 (by decide) ?_
          refine mg_idiv d_Mo_make_48 (by first | assumption | decide) ?_
          refine mg_eqi (y := nI (N / 2)) (hf_eq N (by omega)) ?_
          refine mg_istore_n d_Mo_make_49 rfl (Nat.le_of_ble_eq_true rfl) rfl ?_
          refine mg_goto (tgt := 5) d_Mo_make_50 (by decide) ?_
          exact kk _ hge
      · have hlt : q < row.length + 1 - N := Nat.lt_of_not_le (fun e => c_22 (by rw [h26]; exact (many_le hrl hN2 hq).mpr e))
        first | refine mg_aload_n d_Mo_make_25 rfl rfl ?_ | refine mg_aload_nN d_Mo_make_25 rfl rfl ?_
        refine mg_iload_n d_Mo_make_26 rfl rfl ?_
        refine mg_iload_n d_Mo_make_27 rfl rfl ?_
        refine mg_callV (vl_Mo_187 rfl) d_Mo_make_28 (by first | assumption | exact mg_up_s _ _ _ | (rw [mg_up_n _ _ (by decide)]; first | assumption | exact mg_up_s _ _ _ | (rw [mg_up_n _ _ (by decide)]; first | assumption | exact mg_up_s _ _ _ | (rw [mg_up_n _ _ (by decide)]; first | assumption | exact mg_up_s _ _ _ | (rw [mg_up_n _ _ (by decide)]; first | assumption | exact mg_up_s _ _ _ | (rw [mg_up_n _ _ (by decide)]; first | assumption | exact mg_up_s _ _ _ | (rw [mg_up_n _ _ (by decide)]; first | assumption | exact mg_up_s _ _ _))))))) rfl rfl (c_Mo_drop hO h26 hF hI (show q + N ≤ row.length by omega)) rfl rfl (by rw [hR]; decide) (by rw [hR]; decide) (Nat.le_of_ble_eq_true rfl) ?_
        rintro v M2 hv
        have hv2 := hv.1
        subst hv2
        exact mg_ireturn d_Mo_make_31 rfl rfl (Nat.le_of_ble_eq_true rfl) (Nat.le_of_ble_eq_true rfl) (hP hlt _ _ hv)

theorem ways_eq {v : Int32} (h : ¬ v < 0) : (v = 0 → nI (waysN v) = 0) ∧ (v = 1 → nI (waysN v) = 1) ∧ (v = 2 → nI (waysN v) = 2) ∧ (¬ v = 0 → ¬ v = 1 → ¬ v = 2 → nI (waysN v) = 3) := by
  refine ⟨fun e => by subst e; rfl, fun e => by subst e; rfl, fun e => by subst e; rfl, fun h0 h1 h2 => ?_⟩
  obtain ⟨j, hj, rfl⟩ := nI_of h
  unfold waysN
  rw [nI_clamp hj]
  have k0 : j ≠ 0 := fun e => h0 (by rw [e]; rfl)
  have k1 : j ≠ 1 := fun e => h1 (by rw [e]; rfl)
  have k2 : j ≠ 2 := fun e => h2 (by rw [e]; rfl)
  rw [Nat.min_eq_right (by omega)]; rfl
theorem isA_set {M : mg_M} {h n : Nat} {l : List Int32} {f : Nat → Int32} {i : Nat} {v : Int32} (hf : ∀ j, j < l.length → f j = l.getD j 0) (hn : l.length ≤ n) (hi : i < l.length) (hM : M h = some (iaE n (upd f i v))) : isA M h n (l.set i v) := by
  refine ⟨_, hM, by rw [List.length_set]; exact hn, fun j hj => ?_⟩
  rw [List.length_set] at hj
  by_cases e : j = i
  · subst e; rw [pk_us, List.getD_eq_getElem?_getD, List.getElem?_set_self hi]; rfl
  · rw [pk_un e, List.getD_eq_getElem?_getD, List.getElem?_set_ne (fun h => e h.symm), ← List.getD_eq_getElem?_getD]; exact hf j hj

set_option maxHeartbeats 4000000 in
set_option maxRecDepth 100000 in
theorem lm_low {X : mg_X} {M : mg_M} {si : Nat → Int32} {x s : Int64} {row : List Int32} {P : Option Value → mg_M → Prop} {st : Int32} {r : sR} (hR : mg_R X = { frames := 1, cells := 0, slots := 0, locals := 23 }) (hO : M 1000 = some (moE si x s)) (h26 : si 26 = nI row.length) (hF : isA M 1016 60 row) (hI : ∃ f, M 1008 = some (iaE 60 f)) (hnn : nnL row) (hP : ∀ l, .inl l = r → ∀ v M', cpP M si x s l (some (.int 1)) v M' → P v M') (kk : ∀ (b : Nat) (u4 : Int32) (T5 : Option Value), .inr b = r → b < 2 ^ 30 → (T5 = none ∨ ∃ z : Int32, T5 = some (.int z)) → mg_G X Y_Mo_make (mg_Q X P { frames := 1, cells := 0, slots := 0, locals := 23 }) M 0 0 156 [some (.ref 1000), some (.int st), some (.int (nI b)), some (.int (nI row.length)), some (.int u4), T5] []) : ∀ (n i q : Nat) (u4 : Int32) (T5 : Option Value), row.length - i < n → i ≤ row.length → q < 2 ^ 30 → (T5 = none ∨ ∃ z : Int32, T5 = some (.int z)) → lowG row (row.length - i) i q = r → mg_G X Y_Mo_make (mg_Q X P { frames := 1, cells := 0, slots := 0, locals := 23 }) M 0 0 55 [some (.ref 1000), some (.int st), some (.int (nI q)), some (.int (nI i)), some (.int u4), T5] [] := by
  obtain ⟨ff, f1, f2, f3⟩ := id hF
  intro n
  induction n with
  | zero => intro i q u4 T5 hn; exact absurd hn (by omega)
  | succ n ih =>
    intro i q u4 T5 hn hi hq h5 hr
    rcases h5 with rfl | ⟨u5, rfl⟩
    · refine mg_iload_n d_Mo_make_55 rfl rfl ?_
      first | refine mg_aload_n d_Mo_make_56 rfl rfl ?_ | refine mg_aload_nN d_Mo_make_56 rfl rfl ?_
      refine mg_getfield fl_Mo_55 d_Mo_make_57 (by first | assumption | exact mg_up_s _ _ _ | (rw [mg_up_n _ _ (by decide)]; first | assumption | exact mg_up_s _ _ _ | (rw [mg_up_n _ _ (by decide)]; first | assumption | exact mg_up_s _ _ _ | (rw [mg_up_n _ _ (by decide)]; first | assumption | exact mg_up_s _ _ _ | (rw [mg_up_n _ _ (by decide)]; first | assumption | exact mg_up_s _ _ _ | (rw [mg_up_n _ _ (by decide)]; first | assumption | exact mg_up_s _ _ _ | (rw [mg_up_n _ _ (by decide)]; first | assumption | exact mg_up_s _ _ _))))))) rfl ?_
      refine mg_icmp_ge (tgt := 156) d_Mo_make_60 (by decide) (fun c_60 => ?_) (fun c_60 => ?_)
      · have e : i = row.length := by
          rw [h26] at c_60
          have := (nI_leI (by omega) (by omega)).mp c_60
          omega
        subst e
        rw [Nat.sub_self, lowG] at hr
        exact kk q _ _ hr hq (Or.inl rfl)
      · have hi2 : i < row.length := by
          rw [h26] at c_60
          exact Nat.lt_of_not_le (fun e => c_60 (nI_le e (by omega)))
        have hin : vp_in (nI i) 60 := vp_in_nI (by omega) (by decide)
        have hnv := hnn.at i
        rw [show row.length - i = (row.length - (i + 1)) + 1 by omega, lowG] at hr
        obtain ⟨y1, y2, y3, y4⟩ := ways_eq hnv
        have hwn : waysN (row.getD i 0) ≤ 3 := Nat.min_le_right _ _
        first | refine mg_aload_n d_Mo_make_63 rfl rfl ?_ | refine mg_aload_nN d_Mo_make_63 rfl rfl ?_
        refine mg_getfield fl_Mo_59 d_Mo_make_64 (by first | assumption | exact mg_up_s _ _ _ | (rw [mg_up_n _ _ (by decide)]; first | assumption | exact mg_up_s _ _ _ | (rw [mg_up_n _ _ (by decide)]; first | assumption | exact mg_up_s _ _ _ | (rw [mg_up_n _ _ (by decide)]; first | assumption | exact mg_up_s _ _ _ | (rw [mg_up_n _ _ (by decide)]; first | assumption | exact mg_up_s _ _ _ | (rw [mg_up_n _ _ (by decide)]; first | assumption | exact mg_up_s _ _ _ | (rw [mg_up_n _ _ (by decide)]; first | assumption | exact mg_up_s _ _ _))))))) rfl ?_
        refine mg_iload_n d_Mo_make_67 rfl rfl ?_
        refine mg_iaload rfl d_Mo_make_68 (by first | assumption | exact mg_up_s _ _ _ | (rw [mg_up_n _ _ (by decide)]; first | assumption | exact mg_up_s _ _ _ | (rw [mg_up_n _ _ (by decide)]; first | assumption | exact mg_up_s _ _ _ | (rw [mg_up_n _ _ (by decide)]; first | assumption | exact mg_up_s _ _ _ | (rw [mg_up_n _ _ (by decide)]; first | assumption | exact mg_up_s _ _ _ | (rw [mg_up_n _ _ (by decide)]; first | assumption | exact mg_up_s _ _ _ | (rw [mg_up_n _ _ (by decide)]; first | assumption | exact mg_up_s _ _ _))))))) hin ?_
        refine mg_eqi (y := row.getD i 0) (by rw [nI_clamp (by omega)]; exact f3 i hi2) ?_
        refine mg_istore d_Mo_make_69 (Nat.le_of_ble_eq_true rfl) rfl ?_
        refine mg_iload d_Mo_make_71 rfl ?_
        refine mg_if_ne (tgt := 80) d_Mo_make_73 (by decide) (fun c_73 => ?_) (fun c_73 => ?_)
        · refine mg_iload d_Mo_make_80 rfl ?_
          refine mg_iconst (v := 1) d_Mo_make_82 (by decide) ?_
          refine mg_icmp_ne (tgt := 90) d_Mo_make_83 (by decide) (fun c_83 => ?_) (fun c_83 => ?_)
          · refine mg_iload d_Mo_make_90 rfl ?_
            refine mg_iconst (v := 2) d_Mo_make_92 (by decide) ?_
            refine mg_icmp_ne (tgt := 100) d_Mo_make_93 (by decide) (fun c_93 => ?_) (fun c_93 => ?_)
            · refine mg_iconst (v := 3) d_Mo_make_100 (by decide) ?_
              refine mg_eqi (y := nI (waysN (row.getD i 0))) (by first | exact (y1 (by first | exact c_73 | exact Decidable.not_not.mp c_73)).symm | exact (y2 (by first | exact c_83 | exact Decidable.not_not.mp c_83)).symm | exact (y3 (by first | exact c_93 | exact Decidable.not_not.mp c_93)).symm | exact (y4 c_73 c_83 c_93).symm) ?_
              refine mg_istore d_Mo_make_101 (Nat.le_of_ble_eq_true rfl) rfl ?_
              refine mg_iload_n d_Mo_make_103 rfl rfl ?_
              refine mg_iload d_Mo_make_104 rfl ?_
              refine mg_icmp_ge (tgt := 145) d_Mo_make_106 (by decide) (fun c_106 => ?_) (fun c_106 => ?_)
              · have hge : waysN (row.getD i 0) ≤ q := (nI_leI (by omega) (by omega)).mp c_106
                rw [if_neg (by omega)] at hr
                refine mg_iload_n d_Mo_make_145 rfl rfl ?_
                refine mg_iload d_Mo_make_146 rfl ?_
                refine mg_isub d_Mo_make_148 ?_
                refine mg_eqi (y := nI (q - waysN (row.getD i 0))) (pk_sub hge) ?_
                refine mg_istore_n d_Mo_make_149 rfl (Nat.le_of_ble_eq_true rfl) rfl ?_
                refine mg_iinc (v := nI (i + 1)) d_Mo_make_150 rfl (nI_1 _) (Nat.le_of_ble_eq_true rfl) rfl ?_
                refine mg_goto (tgt := 55) d_Mo_make_153 (by decide) ?_
                exact ih (i + 1) (q - waysN (row.getD i 0)) _ _ (by omega) (by omega) (by omega) (Or.inr ⟨_, rfl⟩) hr
              · have hlt : q < waysN (row.getD i 0) := Nat.lt_of_not_le (fun e => c_106 (nI_le e (by omega)))
                rw [if_pos hlt] at hr
                first | refine mg_aload_n d_Mo_make_109 rfl rfl ?_ | refine mg_aload_nN d_Mo_make_109 rfl rfl ?_
                refine mg_callV (vl_Mo_190 rfl) d_Mo_make_110 (by first | assumption | exact mg_up_s _ _ _ | (rw [mg_up_n _ _ (by decide)]; first | assumption | exact mg_up_s _ _ _ | (rw [mg_up_n _ _ (by decide)]; first | assumption | exact mg_up_s _ _ _ | (rw [mg_up_n _ _ (by decide)]; first | assumption | exact mg_up_s _ _ _ | (rw [mg_up_n _ _ (by decide)]; first | assumption | exact mg_up_s _ _ _ | (rw [mg_up_n _ _ (by decide)]; first | assumption | exact mg_up_s _ _ _ | (rw [mg_up_n _ _ (by decide)]; first | assumption | exact mg_up_s _ _ _))))))) rfl rfl (c_Mo_copy hO h26 ⟨ff, f1, f2, f3⟩ hI) rfl rfl (by rw [hR]; decide) (by rw [hR]; decide) (Nat.le_of_ble_eq_true rfl) ?_
                rintro v M2 ⟨rfl, m1, ⟨fi, m2, m2l, m2f⟩, m3⟩
                first | refine mg_aload_n d_Mo_make_113 rfl rfl ?_ | refine mg_aload_nN d_Mo_make_113 rfl rfl ?_
                refine mg_getfield fl_Mo_31 d_Mo_make_114 (by first | assumption | exact mg_up_s _ _ _ | (rw [mg_up_n _ _ (by decide)]; first | assumption | exact mg_up_s _ _ _ | (rw [mg_up_n _ _ (by decide)]; first | assumption | exact mg_up_s _ _ _ | (rw [mg_up_n _ _ (by decide)]; first | assumption | exact mg_up_s _ _ _ | (rw [mg_up_n _ _ (by decide)]; first | assumption | exact mg_up_s _ _ _ | (rw [mg_up_n _ _ (by decide)]; first | assumption | exact mg_up_s _ _ _ | (rw [mg_up_n _ _ (by decide)]; first | assumption | exact mg_up_s _ _ _))))))) rfl ?_
                refine mg_iload_n d_Mo_make_117 rfl rfl ?_
                refine mg_iload_n d_Mo_make_118 rfl rfl ?_
                refine mg_if_ne (tgt := 126) d_Mo_make_119 (by decide) (fun c_119 => ?_) (fun c_119 => ?_)
                · refine mg_iload_n d_Mo_make_126 rfl rfl ?_
                  refine mg_iconst (v := 1) d_Mo_make_127 (by decide) ?_
                  refine mg_icmp_ne (tgt := 138) d_Mo_make_128 (by decide) (fun c_128 => ?_) (fun c_128 => ?_)
                  · refine mg_iload d_Mo_make_138 rfl ?_
                    refine mg_iconst (v := 1) d_Mo_make_140 (by decide) ?_
                    refine mg_isub d_Mo_make_141 ?_
                    refine mg_eqi (y := lowI (row.getD i 0) q) (by first | (rw [lowI, if_pos (show q = 0 from (nI_eq (b := 0) (by omega) (by decide)).mp (by first | exact c_119 | exact Decidable.not_not.mp c_119))]) | (rw [lowI, if_neg (fun e => c_119 (by rw [e]; rfl)), if_pos (show q = 1 from (nI_eq (b := 1) (by omega) (by decide)).mp (by first | exact c_128 | exact Decidable.not_not.mp c_128))]) | (rw [lowI, if_neg (fun e => c_119 (by rw [e]; rfl)), if_neg (fun e => c_128 (by rw [e]; rfl))])) ?_
                    refine mg_iastore rfl d_Mo_make_142 (by first | assumption | exact mg_up_s _ _ _ | (rw [mg_up_n _ _ (by decide)]; first | assumption | exact mg_up_s _ _ _ | (rw [mg_up_n _ _ (by decide)]; first | assumption | exact mg_up_s _ _ _ | (rw [mg_up_n _ _ (by decide)]; first | assumption | exact mg_up_s _ _ _ | (rw [mg_up_n _ _ (by decide)]; first | assumption | exact mg_up_s _ _ _ | (rw [mg_up_n _ _ (by decide)]; first | assumption | exact mg_up_s _ _ _ | (rw [mg_up_n _ _ (by decide)]; first | assumption | exact mg_up_s _ _ _))))))) hin ?_
                    refine mg_eqM (M' := mg_up M2 1008 (iaE 60 (upd fi i (lowI (row.getD i 0) q)))) (by rw [nI_clamp (by omega)]) ?_
                    refine mg_iconst (v := 1) d_Mo_make_143 (by decide) ?_
                    refine mg_ireturn d_Mo_make_144 rfl rfl (Nat.le_of_ble_eq_true rfl) (Nat.le_of_ble_eq_true rfl) (hP _ hr _ _ ⟨rfl, ?_, isA_set m2f m2l hi2 (mg_up_s _ _ _), fun k h0 h1 => (mg_up_n _ _ h1).trans (m3 k h0 h1)⟩)
                    rw [List.length_set]
                    exact (mg_up_n _ _ (by decide)).trans m1
                  · refine mg_iload d_Mo_make_131 rfl ?_
                    refine mg_iconst (v := 2) d_Mo_make_133 (by decide) ?_
                    refine mg_idiv d_Mo_make_134 (by first | assumption | decide) ?_
                    refine mg_goto (tgt := 142) d_Mo_make_135 (by decide) ?_
                    refine mg_eqi (y := lowI (row.getD i 0) q) (by first | (rw [lowI, if_pos (show q = 0 from (nI_eq (b := 0) (by omega) (by decide)).mp (by first | exact c_119 | exact Decidable.not_not.mp c_119))]) | (rw [lowI, if_neg (fun e => c_119 (by rw [e]; rfl)), if_pos (show q = 1 from (nI_eq (b := 1) (by omega) (by decide)).mp (by first | exact c_128 | exact Decidable.not_not.mp c_128))]) | (rw [lowI, if_neg (fun e => c_119 (by rw [e]; rfl)), if_neg (fun e => c_128 (by rw [e]; rfl))])) ?_
                    refine mg_iastore rfl d_Mo_make_142 (by first | assumption | exact mg_up_s _ _ _ | (rw [mg_up_n _ _ (by decide)]; first | assumption | exact mg_up_s _ _ _ | (rw [mg_up_n _ _ (by decide)]; first | assumption | exact mg_up_s _ _ _ | (rw [mg_up_n _ _ (by decide)]; first | assumption | exact mg_up_s _ _ _ | (rw [mg_up_n _ _ (by decide)]; first | assumption | exact mg_up_s _ _ _ | (rw [mg_up_n _ _ (by decide)]; first | assumption | exact mg_up_s _ _ _ | (rw [mg_up_n _ _ (by decide)]; first | assumption | exact mg_up_s _ _ _))))))) hin ?_
                    refine mg_eqM (M' := mg_up M2 1008 (iaE 60 (upd fi i (lowI (row.getD i 0) q)))) (by rw [nI_clamp (by omega)]) ?_
                    refine mg_iconst (v := 1) d_Mo_make_143 (by decide) ?_
                    refine mg_ireturn d_Mo_make_144 rfl rfl (Nat.le_of_ble_eq_true rfl) (Nat.le_of_ble_eq_true rfl) (hP _ hr _ _ ⟨rfl, ?_, isA_set m2f m2l hi2 (mg_up_s _ _ _), fun k h0 h1 => (mg_up_n _ _ h1).trans (m3 k h0 h1)⟩)
                    rw [List.length_set]
                    exact (mg_up_n _ _ (by decide)).trans m1
                · refine mg_iconst (v := 0) d_Mo_make_122 (by decide) ?_
                  refine mg_goto (tgt := 142) d_Mo_make_123 (by decide) ?_
                  refine mg_eqi (y := lowI (row.getD i 0) q) (by first | (rw [lowI, if_pos (show q = 0 from (nI_eq (b := 0) (by omega) (by decide)).mp (by first | exact c_119 | exact Decidable.not_not.mp c_119))]) | (rw [lowI, if_neg (fun e => c_119 (by rw [e]; rfl)), if_pos (show q = 1 from (nI_eq (b := 1) (by omega) (by decide)).mp (by first | exact c_128 | exact Decidable.not_not.mp c_128))]) | (rw [lowI, if_neg (fun e => c_119 (by rw [e]; rfl)), if_neg (fun e => c_128 (by rw [e]; rfl))])) ?_
                  refine mg_iastore rfl d_Mo_make_142 (by first | assumption | exact mg_up_s _ _ _ | (rw [mg_up_n _ _ (by decide)]; first | assumption | exact mg_up_s _ _ _ | (rw [mg_up_n _ _ (by decide)]; first | assumption | exact mg_up_s _ _ _ | (rw [mg_up_n _ _ (by decide)]; first | assumption | exact mg_up_s _ _ _ | (rw [mg_up_n _ _ (by decide)]; first | assumption | exact mg_up_s _ _ _ | (rw [mg_up_n _ _ (by decide)]; first | assumption | exact mg_up_s _ _ _ | (rw [mg_up_n _ _ (by decide)]; first | assumption | exact mg_up_s _ _ _))))))) hin ?_
                  refine mg_eqM (M' := mg_up M2 1008 (iaE 60 (upd fi i (lowI (row.getD i 0) q)))) (by rw [nI_clamp (by omega)]) ?_
                  refine mg_iconst (v := 1) d_Mo_make_143 (by decide) ?_
                  refine mg_ireturn d_Mo_make_144 rfl rfl (Nat.le_of_ble_eq_true rfl) (Nat.le_of_ble_eq_true rfl) (hP _ hr _ _ ⟨rfl, ?_, isA_set m2f m2l hi2 (mg_up_s _ _ _), fun k h0 h1 => (mg_up_n _ _ h1).trans (m3 k h0 h1)⟩)
                  rw [List.length_set]
                  exact (mg_up_n _ _ (by decide)).trans m1
            · refine mg_iconst (v := 2) d_Mo_make_96 (by decide) ?_
              refine mg_goto (tgt := 101) d_Mo_make_97 (by decide) ?_
              refine mg_eqi (y := nI (waysN (row.getD i 0))) (by first | exact (y1 (by first | exact c_73 | exact Decidable.not_not.mp c_73)).symm | exact (y2 (by first | exact c_83 | exact Decidable.not_not.mp c_83)).symm | exact (y3 (by first | exact c_93 | exact Decidable.not_not.mp c_93)).symm | exact (y4 c_73 c_83 c_93).symm) ?_
              refine mg_istore d_Mo_make_101 (Nat.le_of_ble_eq_true rfl) rfl ?_
              refine mg_iload_n d_Mo_make_103 rfl rfl ?_
              refine mg_iload d_Mo_make_104 rfl ?_
              refine mg_icmp_ge (tgt := 145) d_Mo_make_106 (by decide) (fun c_106 => ?_) (fun c_106 => ?_)
              · have hge : waysN (row.getD i 0) ≤ q := (nI_leI (by omega) (by omega)).mp c_106
                rw [if_neg (by omega)] at hr
                refine mg_iload_n d_Mo_make_145 rfl rfl ?_
                refine mg_iload d_Mo_make_146 rfl ?_
                refine mg_isub d_Mo_make_148 ?_
                refine mg_eqi (y := nI (q - waysN (row.getD i 0))) (pk_sub hge) ?_
                refine mg_istore_n d_Mo_make_149 rfl (Nat.le_of_ble_eq_true rfl) rfl ?_
                refine mg_iinc (v := nI (i + 1)) d_Mo_make_150 rfl (nI_1 _) (Nat.le_of_ble_eq_true rfl) rfl ?_
                refine mg_goto (tgt := 55) d_Mo_make_153 (by decide) ?_
                exact ih (i + 1) (q - waysN (row.getD i 0)) _ _ (by omega) (by omega) (by omega) (Or.inr ⟨_, rfl⟩) hr
              · have hlt : q < waysN (row.getD i 0) := Nat.lt_of_not_le (fun e => c_106 (nI_le e (by omega)))
                rw [if_pos hlt] at hr
                first | refine mg_aload_n d_Mo_make_109 rfl rfl ?_ | refine mg_aload_nN d_Mo_make_109 rfl rfl ?_
                refine mg_callV (vl_Mo_190 rfl) d_Mo_make_110 (by first | assumption | exact mg_up_s _ _ _ | (rw [mg_up_n _ _ (by decide)]; first | assumption | exact mg_up_s _ _ _ | (rw [mg_up_n _ _ (by decide)]; first | assumption | exact mg_up_s _ _ _ | (rw [mg_up_n _ _ (by decide)]; first | assumption | exact mg_up_s _ _ _ | (rw [mg_up_n _ _ (by decide)]; first | assumption | exact mg_up_s _ _ _ | (rw [mg_up_n _ _ (by decide)]; first | assumption | exact mg_up_s _ _ _ | (rw [mg_up_n _ _ (by decide)]; first | assumption | exact mg_up_s _ _ _))))))) rfl rfl (c_Mo_copy hO h26 ⟨ff, f1, f2, f3⟩ hI) rfl rfl (by rw [hR]; decide) (by rw [hR]; decide) (Nat.le_of_ble_eq_true rfl) ?_
                rintro v M2 ⟨rfl, m1, ⟨fi, m2, m2l, m2f⟩, m3⟩
                first | refine mg_aload_n d_Mo_make_113 rfl rfl ?_ | refine mg_aload_nN d_Mo_make_113 rfl rfl ?_
                refine mg_getfield fl_Mo_31 d_Mo_make_114 (by first | assumption | exact mg_up_s _ _ _ | (rw [mg_up_n _ _ (by decide)]; first | assumption | exact mg_up_s _ _ _ | (rw [mg_up_n _ _ (by decide)]; first | assumption | exact mg_up_s _ _ _ | (rw [mg_up_n _ _ (by decide)]; first | assumption | exact mg_up_s _ _ _ | (rw [mg_up_n _ _ (by decide)]; first | assumption | exact mg_up_s _ _ _ | (rw [mg_up_n _ _ (by decide)]; first | assumption | exact mg_up_s _ _ _ | (rw [mg_up_n _ _ (by decide)]; first | assumption | exact mg_up_s _ _ _))))))) rfl ?_
                refine mg_iload_n d_Mo_make_117 rfl rfl ?_
                refine mg_iload_n d_Mo_make_118 rfl rfl ?_
                refine mg_if_ne (tgt := 126) d_Mo_make_119 (by decide) (fun c_119 => ?_) (fun c_119 => ?_)
                · refine mg_iload_n d_Mo_make_126 rfl rfl ?_
                  refine mg_iconst (v := 1) d_Mo_make_127 (by decide) ?_
                  refine mg_icmp_ne (tgt := 138) d_Mo_make_128 (by decide) (fun c_128 => ?_) (fun c_128 => ?_)
                  · refine mg_iload d_Mo_make_138 rfl ?_
                    refine mg_iconst (v := 1) d_Mo_make_140 (by decide) ?_
                    refine mg_isub d_Mo_make_141 ?_
                    refine mg_eqi (y := lowI (row.getD i 0) q) (by first | (rw [lowI, if_pos (show q = 0 from (nI_eq (b := 0) (by omega) (by decide)).mp (by first | exact c_119 | exact Decidable.not_not.mp c_119))]) | (rw [lowI, if_neg (fun e => c_119 (by rw [e]; rfl)), if_pos (show q = 1 from (nI_eq (b := 1) (by omega) (by decide)).mp (by first | exact c_128 | exact Decidable.not_not.mp c_128))]) | (rw [lowI, if_neg (fun e => c_119 (by rw [e]; rfl)), if_neg (fun e => c_128 (by rw [e]; rfl))])) ?_
                    refine mg_iastore rfl d_Mo_make_142 (by first | assumption | exact mg_up_s _ _ _ | (rw [mg_up_n _ _ (by decide)]; first | assumption | exact mg_up_s _ _ _ | (rw [mg_up_n _ _ (by decide)]; first | assumption | exact mg_up_s _ _ _ | (rw [mg_up_n _ _ (by decide)]; first | assumption | exact mg_up_s _ _ _ | (rw [mg_up_n _ _ (by decide)]; first | assumption | exact mg_up_s _ _ _ | (rw [mg_up_n _ _ (by decide)]; first | assumption | exact mg_up_s _ _ _ | (rw [mg_up_n _ _ (by decide)]; first | assumption | exact mg_up_s _ _ _))))))) hin ?_
                    refine mg_eqM (M' := mg_up M2 1008 (iaE 60 (upd fi i (lowI (row.getD i 0) q)))) (by rw [nI_clamp (by omega)]) ?_
                    refine mg_iconst (v := 1) d_Mo_make_143 (by decide) ?_
                    refine mg_ireturn d_Mo_make_144 rfl rfl (Nat.le_of_ble_eq_true rfl) (Nat.le_of_ble_eq_true rfl) (hP _ hr _ _ ⟨rfl, ?_, isA_set m2f m2l hi2 (mg_up_s _ _ _), fun k h0 h1 => (mg_up_n _ _ h1).trans (m3 k h0 h1)⟩)
                    rw [List.length_set]
                    exact (mg_up_n _ _ (by decide)).trans m1
                  · refine mg_iload d_Mo_make_131 rfl ?_
                    refine mg_iconst (v := 2) d_Mo_make_133 (by decide) ?_
                    refine mg_idiv d_Mo_make_134 (by first | assumption | decide) ?_
                    refine mg_goto (tgt := 142) d_Mo_make_135 (by decide) ?_
                    refine mg_eqi (y := lowI (row.getD i 0) q) (by first | (rw [lowI, if_pos (show q = 0 from (nI_eq (b := 0) (by omega) (by decide)).mp (by first | exact c_119 | exact Decidable.not_not.mp c_119))]) | (rw [lowI, if_neg (fun e => c_119 (by rw [e]; rfl)), if_pos (show q = 1 from (nI_eq (b := 1) (by omega) (by decide)).mp (by first | exact c_128 | exact Decidable.not_not.mp c_128))]) | (rw [lowI, if_neg (fun e => c_119 (by rw [e]; rfl)), if_neg (fun e => c_128 (by rw [e]; rfl))])) ?_
                    refine mg_iastore rfl d_Mo_make_142 (by first | assumption | exact mg_up_s _ _ _ | (rw [mg_up_n _ _ (by decide)]; first | assumption | exact mg_up_s _ _ _ | (rw [mg_up_n _ _ (by decide)]; first | assumption | exact mg_up_s _ _ _ | (rw [mg_up_n _ _ (by decide)]; first | assumption | exact mg_up_s _ _ _ | (rw [mg_up_n _ _ (by decide)]; first | assumption | exact mg_up_s _ _ _ | (rw [mg_up_n _ _ (by decide)]; first | assumption | exact mg_up_s _ _ _ | (rw [mg_up_n _ _ (by decide)]; first | assumption | exact mg_up_s _ _ _))))))) hin ?_
                    refine mg_eqM (M' := mg_up M2 1008 (iaE 60 (upd fi i (lowI (row.getD i 0) q)))) (by rw [nI_clamp (by omega)]) ?_
                    refine mg_iconst (v := 1) d_Mo_make_143 (by decide) ?_
                    refine mg_ireturn d_Mo_make_144 rfl rfl (Nat.le_of_ble_eq_true rfl) (Nat.le_of_ble_eq_true rfl) (hP _ hr _ _ ⟨rfl, ?_, isA_set m2f m2l hi2 (mg_up_s _ _ _), fun k h0 h1 => (mg_up_n _ _ h1).trans (m3 k h0 h1)⟩)
                    rw [List.length_set]
                    exact (mg_up_n _ _ (by decide)).trans m1
                · refine mg_iconst (v := 0) d_Mo_make_122 (by decide) ?_
                  refine mg_goto (tgt := 142) d_Mo_make_123 (by decide) ?_
                  refine mg_eqi (y := lowI (row.getD i 0) q) (by first | (rw [lowI, if_pos (show q = 0 from (nI_eq (b := 0) (by omega) (by decide)).mp (by first | exact c_119 | exact Decidable.not_not.mp c_119))]) | (rw [lowI, if_neg (fun e => c_119 (by rw [e]; rfl)), if_pos (show q = 1 from (nI_eq (b := 1) (by omega) (by decide)).mp (by first | exact c_128 | exact Decidable.not_not.mp c_128))]) | (rw [lowI, if_neg (fun e => c_119 (by rw [e]; rfl)), if_neg (fun e => c_128 (by rw [e]; rfl))])) ?_
                  refine mg_iastore rfl d_Mo_make_142 (by first | assumption | exact mg_up_s _ _ _ | (rw [mg_up_n _ _ (by decide)]; first | assumption | exact mg_up_s _ _ _ | (rw [mg_up_n _ _ (by decide)]; first | assumption | exact mg_up_s _ _ _ | (rw [mg_up_n _ _ (by decide)]; first | assumption | exact mg_up_s _ _ _ | (rw [mg_up_n _ _ (by decide)]; first | assumption | exact mg_up_s _ _ _ | (rw [mg_up_n _ _ (by decide)]; first | assumption | exact mg_up_s _ _ _ | (rw [mg_up_n _ _ (by decide)]; first | assumption | exact mg_up_s _ _ _))))))) hin ?_
                  refine mg_eqM (M' := mg_up M2 1008 (iaE 60 (upd fi i (lowI (row.getD i 0) q)))) (by rw [nI_clamp (by omega)]) ?_
                  refine mg_iconst (v := 1) d_Mo_make_143 (by decide) ?_
                  refine mg_ireturn d_Mo_make_144 rfl rfl (Nat.le_of_ble_eq_true rfl) (Nat.le_of_ble_eq_true rfl) (hP _ hr _ _ ⟨rfl, ?_, isA_set m2f m2l hi2 (mg_up_s _ _ _), fun k h0 h1 => (mg_up_n _ _ h1).trans (m3 k h0 h1)⟩)
                  rw [List.length_set]
                  exact (mg_up_n _ _ (by decide)).trans m1
          · refine mg_iconst (v := 1) d_Mo_make_86 (by decide) ?_
            refine mg_goto (tgt := 101) d_Mo_make_87 (by decide) ?_
            refine mg_eqi (y := nI (waysN (row.getD i 0))) (by first | exact (y1 (by first | exact c_73 | exact Decidable.not_not.mp c_73)).symm | exact (y2 (by first | exact c_83 | exact Decidable.not_not.mp c_83)).symm | exact (y3 (by first | exact c_93 | exact Decidable.not_not.mp c_93)).symm | exact (y4 c_73 c_83 c_93).symm) ?_
            refine mg_istore d_Mo_make_101 (Nat.le_of_ble_eq_true rfl) rfl ?_
            refine mg_iload_n d_Mo_make_103 rfl rfl ?_
            refine mg_iload d_Mo_make_104 rfl ?_
            refine mg_icmp_ge (tgt := 145) d_Mo_make_106 (by decide) (fun c_106 => ?_) (fun c_106 => ?_)
            · have hge : waysN (row.getD i 0) ≤ q := (nI_leI (by omega) (by omega)).mp c_106
              rw [if_neg (by omega)] at hr
              refine mg_iload_n d_Mo_make_145 rfl rfl ?_
              refine mg_iload d_Mo_make_146 rfl ?_
              refine mg_isub d_Mo_make_148 ?_
              refine mg_eqi (y := nI (q - waysN (row.getD i 0))) (pk_sub hge) ?_
              refine mg_istore_n d_Mo_make_149 rfl (Nat.le_of_ble_eq_true rfl) rfl ?_
              refine mg_iinc (v := nI (i + 1)) d_Mo_make_150 rfl (nI_1 _) (Nat.le_of_ble_eq_true rfl) rfl ?_
              refine mg_goto (tgt := 55) d_Mo_make_153 (by decide) ?_
              exact ih (i + 1) (q - waysN (row.getD i 0)) _ _ (by omega) (by omega) (by omega) (Or.inr ⟨_, rfl⟩) hr
            · have hlt : q < waysN (row.getD i 0) := Nat.lt_of_not_le (fun e => c_106 (nI_le e (by omega)))
              rw [if_pos hlt] at hr
              first | refine mg_aload_n d_Mo_make_109 rfl rfl ?_ | refine mg_aload_nN d_Mo_make_109 rfl rfl ?_
              refine mg_callV (vl_Mo_190 rfl) d_Mo_make_110 (by first | assumption | exact mg_up_s _ _ _ | (rw [mg_up_n _ _ (by decide)]; first | assumption | exact mg_up_s _ _ _ | (rw [mg_up_n _ _ (by decide)]; first | assumption | exact mg_up_s _ _ _ | (rw [mg_up_n _ _ (by decide)]; first | assumption | exact mg_up_s _ _ _ | (rw [mg_up_n _ _ (by decide)]; first | assumption | exact mg_up_s _ _ _ | (rw [mg_up_n _ _ (by decide)]; first | assumption | exact mg_up_s _ _ _ | (rw [mg_up_n _ _ (by decide)]; first | assumption | exact mg_up_s _ _ _))))))) rfl rfl (c_Mo_copy hO h26 ⟨ff, f1, f2, f3⟩ hI) rfl rfl (by rw [hR]; decide) (by rw [hR]; decide) (Nat.le_of_ble_eq_true rfl) ?_
              rintro v M2 ⟨rfl, m1, ⟨fi, m2, m2l, m2f⟩, m3⟩
              first | refine mg_aload_n d_Mo_make_113 rfl rfl ?_ | refine mg_aload_nN d_Mo_make_113 rfl rfl ?_
              refine mg_getfield fl_Mo_31 d_Mo_make_114 (by first | assumption | exact mg_up_s _ _ _ | (rw [mg_up_n _ _ (by decide)]; first | assumption | exact mg_up_s _ _ _ | (rw [mg_up_n _ _ (by decide)]; first | assumption | exact mg_up_s _ _ _ | (rw [mg_up_n _ _ (by decide)]; first | assumption | exact mg_up_s _ _ _ | (rw [mg_up_n _ _ (by decide)]; first | assumption | exact mg_up_s _ _ _ | (rw [mg_up_n _ _ (by decide)]; first | assumption | exact mg_up_s _ _ _ | (rw [mg_up_n _ _ (by decide)]; first | assumption | exact mg_up_s _ _ _))))))) rfl ?_
              refine mg_iload_n d_Mo_make_117 rfl rfl ?_
              refine mg_iload_n d_Mo_make_118 rfl rfl ?_
              refine mg_if_ne (tgt := 126) d_Mo_make_119 (by decide) (fun c_119 => ?_) (fun c_119 => ?_)
              · refine mg_iload_n d_Mo_make_126 rfl rfl ?_
                refine mg_iconst (v := 1) d_Mo_make_127 (by decide) ?_
                refine mg_icmp_ne (tgt := 138) d_Mo_make_128 (by decide) (fun c_128 => ?_) (fun c_128 => ?_)
                · refine mg_iload d_Mo_make_138 rfl ?_
                  refine mg_iconst (v := 1) d_Mo_make_140 (by decide) ?_
                  refine mg_isub d_Mo_make_141 ?_
                  refine mg_eqi (y := lowI (row.getD i 0) q) (by first | (rw [lowI, if_pos (show q = 0 from (nI_eq (b := 0) (by omega) (by decide)).mp (by first | exact c_119 | exact Decidable.not_not.mp c_119))]) | (rw [lowI, if_neg (fun e => c_119 (by rw [e]; rfl)), if_pos (show q = 1 from (nI_eq (b := 1) (by omega) (by decide)).mp (by first | exact c_128 | exact Decidable.not_not.mp c_128))]) | (rw [lowI, if_neg (fun e => c_119 (by rw [e]; rfl)), if_neg (fun e => c_128 (by rw [e]; rfl))])) ?_
                  refine mg_iastore rfl d_Mo_make_142 (by first | assumption | exact mg_up_s _ _ _ | (rw [mg_up_n _ _ (by decide)]; first | assumption | exact mg_up_s _ _ _ | (rw [mg_up_n _ _ (by decide)]; first | assumption | exact mg_up_s _ _ _ | (rw [mg_up_n _ _ (by decide)]; first | assumption | exact mg_up_s _ _ _ | (rw [mg_up_n _ _ (by decide)]; first | assumption | exact mg_up_s _ _ _ | (rw [mg_up_n _ _ (by decide)]; first | assumption | exact mg_up_s _ _ _ | (rw [mg_up_n _ _ (by decide)]; first | assumption | exact mg_up_s _ _ _))))))) hin ?_
                  refine mg_eqM (M' := mg_up M2 1008 (iaE 60 (upd fi i (lowI (row.getD i 0) q)))) (by rw [nI_clamp (by omega)]) ?_
                  refine mg_iconst (v := 1) d_Mo_make_143 (by decide) ?_
                  refine mg_ireturn d_Mo_make_144 rfl rfl (Nat.le_of_ble_eq_true rfl) (Nat.le_of_ble_eq_true rfl) (hP _ hr _ _ ⟨rfl, ?_, isA_set m2f m2l hi2 (mg_up_s _ _ _), fun k h0 h1 => (mg_up_n _ _ h1).trans (m3 k h0 h1)⟩)
                  rw [List.length_set]
                  exact (mg_up_n _ _ (by decide)).trans m1
                · refine mg_iload d_Mo_make_131 rfl ?_
                  refine mg_iconst (v := 2) d_Mo_make_133 (by decide) ?_
                  refine mg_idiv d_Mo_make_134 (by first | assumption | decide) ?_
                  refine mg_goto (tgt := 142) d_Mo_make_135 (by decide) ?_
                  refine mg_eqi (y := lowI (row.getD i 0) q) (by first | (rw [lowI, if_pos (show q = 0 from (nI_eq (b := 0) (by omega) (by decide)).mp (by first | exact c_119 | exact Decidable.not_not.mp c_119))]) | (rw [lowI, if_neg (fun e => c_119 (by rw [e]; rfl)), if_pos (show q = 1 from (nI_eq (b := 1) (by omega) (by decide)).mp (by first | exact c_128 | exact Decidable.not_not.mp c_128))]) | (rw [lowI, if_neg (fun e => c_119 (by rw [e]; rfl)), if_neg (fun e => c_128 (by rw [e]; rfl))])) ?_
                  refine mg_iastore rfl d_Mo_make_142 (by first | assumption | exact mg_up_s _ _ _ | (rw [mg_up_n _ _ (by decide)]; first | assumption | exact mg_up_s _ _ _ | (rw [mg_up_n _ _ (by decide)]; first | assumption | exact mg_up_s _ _ _ | (rw [mg_up_n _ _ (by decide)]; first | assumption | exact mg_up_s _ _ _ | (rw [mg_up_n _ _ (by decide)]; first | assumption | exact mg_up_s _ _ _ | (rw [mg_up_n _ _ (by decide)]; first | assumption | exact mg_up_s _ _ _ | (rw [mg_up_n _ _ (by decide)]; first | assumption | exact mg_up_s _ _ _))))))) hin ?_
                  refine mg_eqM (M' := mg_up M2 1008 (iaE 60 (upd fi i (lowI (row.getD i 0) q)))) (by rw [nI_clamp (by omega)]) ?_
                  refine mg_iconst (v := 1) d_Mo_make_143 (by decide) ?_
                  refine mg_ireturn d_Mo_make_144 rfl rfl (Nat.le_of_ble_eq_true rfl) (Nat.le_of_ble_eq_true rfl) (hP _ hr _ _ ⟨rfl, ?_, isA_set m2f m2l hi2 (mg_up_s _ _ _), fun k h0 h1 => (mg_up_n _ _ h1).trans (m3 k h0 h1)⟩)
                  rw [List.length_set]
                  exact (mg_up_n _ _ (by decide)).trans m1
              · refine mg_iconst (v := 0) d_Mo_make_122 (by decide) ?_
                refine mg_goto (tgt := 142) d_Mo_make_123 (by decide) ?_
                refine mg_eqi (y := lowI (row.getD i 0) q) (by first | (rw [lowI, if_pos (show q = 0 from (nI_eq (b := 0) (by omega) (by decide)).mp (by first | exact c_119 | exact Decidable.not_not.mp c_119))]) | (rw [lowI, if_neg (fun e => c_119 (by rw [e]; rfl)), if_pos (show q = 1 from (nI_eq (b := 1) (by omega) (by decide)).mp (by first | exact c_128 | exact Decidable.not_not.mp c_128))]) | (rw [lowI, if_neg (fun e => c_119 (by rw [e]; rfl)), if_neg (fun e => c_128 (by rw [e]; rfl))])) ?_
                refine mg_iastore rfl d_Mo_make_142 (by first | assumption | exact mg_up_s _ _ _ | (rw [mg_up_n _ _ (by decide)]; first | assumption | exact mg_up_s _ _ _ | (rw [mg_up_n _ _ (by decide)]; first | assumption | exact mg_up_s _ _ _ | (rw [mg_up_n _ _ (by decide)]; first | assumption | exact mg_up_s _ _ _ | (rw [mg_up_n _ _ (by decide)]; first | assumption | exact mg_up_s _ _ _ | (rw [mg_up_n _ _ (by decide)]; first | assumption | exact mg_up_s _ _ _ | (rw [mg_up_n _ _ (by decide)]; first | assumption | exact mg_up_s _ _ _))))))) hin ?_
                refine mg_eqM (M' := mg_up M2 1008 (iaE 60 (upd fi i (lowI (row.getD i 0) q)))) (by rw [nI_clamp (by omega)]) ?_
                refine mg_iconst (v := 1) d_Mo_make_143 (by decide) ?_
                refine mg_ireturn d_Mo_make_144 rfl rfl (Nat.le_of_ble_eq_true rfl) (Nat.le_of_ble_eq_true rfl) (hP _ hr _ _ ⟨rfl, ?_, isA_set m2f m2l hi2 (mg_up_s _ _ _), fun k h0 h1 => (mg_up_n _ _ h1).trans (m3 k h0 h1)⟩)
                rw [List.length_set]
                exact (mg_up_n _ _ (by decide)).trans m1
        · refine mg_iconst (v := 0) d_Mo_make_76 (by decide) ?_
          refine mg_goto (tgt := 101) d_Mo_make_77 (by decide) ?_
          refine mg_eqi (y := nI (waysN (row.getD i 0))) (by first | exact (y1 (by first | exact c_73 | exact Decidable.not_not.mp c_73)).symm | exact (y2 (by first | exact c_83 | exact Decidable.not_not.mp c_83)).symm | exact (y3 (by first | exact c_93 | exact Decidable.not_not.mp c_93)).symm | exact (y4 c_73 c_83 c_93).symm) ?_
          refine mg_istore d_Mo_make_101 (Nat.le_of_ble_eq_true rfl) rfl ?_
          refine mg_iload_n d_Mo_make_103 rfl rfl ?_
          refine mg_iload d_Mo_make_104 rfl ?_
          refine mg_icmp_ge (tgt := 145) d_Mo_make_106 (by decide) (fun c_106 => ?_) (fun c_106 => ?_)
          · have hge : waysN (row.getD i 0) ≤ q := (nI_leI (by omega) (by omega)).mp c_106
            rw [if_neg (by omega)] at hr
            refine mg_iload_n d_Mo_make_145 rfl rfl ?_
            refine mg_iload d_Mo_make_146 rfl ?_
            refine mg_isub d_Mo_make_148 ?_
            refine mg_eqi (y := nI (q - waysN (row.getD i 0))) (pk_sub hge) ?_
            refine mg_istore_n d_Mo_make_149 rfl (Nat.le_of_ble_eq_true rfl) rfl ?_
            refine mg_iinc (v := nI (i + 1)) d_Mo_make_150 rfl (nI_1 _) (Nat.le_of_ble_eq_true rfl) rfl ?_
            refine mg_goto (tgt := 55) d_Mo_make_153 (by decide) ?_
            exact ih (i + 1) (q - waysN (row.getD i 0)) _ _ (by omega) (by omega) (by omega) (Or.inr ⟨_, rfl⟩) hr
          · have hlt : q < waysN (row.getD i 0) := Nat.lt_of_not_le (fun e => c_106 (nI_le e (by omega)))
            rw [if_pos hlt] at hr
            first | refine mg_aload_n d_Mo_make_109 rfl rfl ?_ | refine mg_aload_nN d_Mo_make_109 rfl rfl ?_
            refine mg_callV (vl_Mo_190 rfl) d_Mo_make_110 (by first | assumption | exact mg_up_s _ _ _ | (rw [mg_up_n _ _ (by decide)]; first | assumption | exact mg_up_s _ _ _ | (rw [mg_up_n _ _ (by decide)]; first | assumption | exact mg_up_s _ _ _ | (rw [mg_up_n _ _ (by decide)]; first | assumption | exact mg_up_s _ _ _ | (rw [mg_up_n _ _ (by decide)]; first | assumption | exact mg_up_s _ _ _ | (rw [mg_up_n _ _ (by decide)]; first | assumption | exact mg_up_s _ _ _ | (rw [mg_up_n _ _ (by decide)]; first | assumption | exact mg_up_s _ _ _))))))) rfl rfl (c_Mo_copy hO h26 ⟨ff, f1, f2, f3⟩ hI) rfl rfl (by rw [hR]; decide) (by rw [hR]; decide) (Nat.le_of_ble_eq_true rfl) ?_
            rintro v M2 ⟨rfl, m1, ⟨fi, m2, m2l, m2f⟩, m3⟩
            first | refine mg_aload_n d_Mo_make_113 rfl rfl ?_ | refine mg_aload_nN d_Mo_make_113 rfl rfl ?_
            refine mg_getfield fl_Mo_31 d_Mo_make_114 (by first | assumption | exact mg_up_s _ _ _ | (rw [mg_up_n _ _ (by decide)]; first | assumption | exact mg_up_s _ _ _ | (rw [mg_up_n _ _ (by decide)]; first | assumption | exact mg_up_s _ _ _ | (rw [mg_up_n _ _ (by decide)]; first | assumption | exact mg_up_s _ _ _ | (rw [mg_up_n _ _ (by decide)]; first | assumption | exact mg_up_s _ _ _ | (rw [mg_up_n _ _ (by decide)]; first | assumption | exact mg_up_s _ _ _ | (rw [mg_up_n _ _ (by decide)]; first | assumption | exact mg_up_s _ _ _))))))) rfl ?_
            refine mg_iload_n d_Mo_make_117 rfl rfl ?_
            refine mg_iload_n d_Mo_make_118 rfl rfl ?_
            refine mg_if_ne (tgt := 126) d_Mo_make_119 (by decide) (fun c_119 => ?_) (fun c_119 => ?_)
            · refine mg_iload_n d_Mo_make_126 rfl rfl ?_
              refine mg_iconst (v := 1) d_Mo_make_127 (by decide) ?_
              refine mg_icmp_ne (tgt := 138) d_Mo_make_128 (by decide) (fun c_128 => ?_) (fun c_128 => ?_)
              · refine mg_iload d_Mo_make_138 rfl ?_
                refine mg_iconst (v := 1) d_Mo_make_140 (by decide) ?_
                refine mg_isub d_Mo_make_141 ?_
                refine mg_eqi (y := lowI (row.getD i 0) q) (by first | (rw [lowI, if_pos (show q = 0 from (nI_eq (b := 0) (by omega) (by decide)).mp (by first | exact c_119 | exact Decidable.not_not.mp c_119))]) | (rw [lowI, if_neg (fun e => c_119 (by rw [e]; rfl)), if_pos (show q = 1 from (nI_eq (b := 1) (by omega) (by decide)).mp (by first | exact c_128 | exact Decidable.not_not.mp c_128))]) | (rw [lowI, if_neg (fun e => c_119 (by rw [e]; rfl)), if_neg (fun e => c_128 (by rw [e]; rfl))])) ?_
                refine mg_iastore rfl d_Mo_make_142 (by first | assumption | exact mg_up_s _ _ _ | (rw [mg_up_n _ _ (by decide)]; first | assumption | exact mg_up_s _ _ _ | (rw [mg_up_n _ _ (by decide)]; first | assumption | exact mg_up_s _ _ _ | (rw [mg_up_n _ _ (by decide)]; first | assumption | exact mg_up_s _ _ _ | (rw [mg_up_n _ _ (by decide)]; first | assumption | exact mg_up_s _ _ _ | (rw [mg_up_n _ _ (by decide)]; first | assumption | exact mg_up_s _ _ _ | (rw [mg_up_n _ _ (by decide)]; first | assumption | exact mg_up_s _ _ _))))))) hin ?_
                refine mg_eqM (M' := mg_up M2 1008 (iaE 60 (upd fi i (lowI (row.getD i 0) q)))) (by rw [nI_clamp (by omega)]) ?_
                refine mg_iconst (v := 1) d_Mo_make_143 (by decide) ?_
                refine mg_ireturn d_Mo_make_144 rfl rfl (Nat.le_of_ble_eq_true rfl) (Nat.le_of_ble_eq_true rfl) (hP _ hr _ _ ⟨rfl, ?_, isA_set m2f m2l hi2 (mg_up_s _ _ _), fun k h0 h1 => (mg_up_n _ _ h1).trans (m3 k h0 h1)⟩)
                rw [List.length_set]
                exact (mg_up_n _ _ (by decide)).trans m1
              · refine mg_iload d_Mo_make_131 rfl ?_
                refine mg_iconst (v := 2) d_Mo_make_133 (by decide) ?_
                refine mg_idiv d_Mo_make_134 (by first | assumption | decide) ?_
                refine mg_goto (tgt := 142) d_Mo_make_135 (by decide) ?_
                refine mg_eqi (y := lowI (row.getD i 0) q) (by first | (rw [lowI, if_pos (show q = 0 from (nI_eq (b := 0) (by omega) (by decide)).mp (by first | exact c_119 | exact Decidable.not_not.mp c_119))]) | (rw [lowI, if_neg (fun e => c_119 (by rw [e]; rfl)), if_pos (show q = 1 from (nI_eq (b := 1) (by omega) (by decide)).mp (by first | exact c_128 | exact Decidable.not_not.mp c_128))]) | (rw [lowI, if_neg (fun e => c_119 (by rw [e]; rfl)), if_neg (fun e => c_128 (by rw [e]; rfl))])) ?_
                refine mg_iastore rfl d_Mo_make_142 (by first | assumption | exact mg_up_s _ _ _ | (rw [mg_up_n _ _ (by decide)]; first | assumption | exact mg_up_s _ _ _ | (rw [mg_up_n _ _ (by decide)]; first | assumption | exact mg_up_s _ _ _ | (rw [mg_up_n _ _ (by decide)]; first | assumption | exact mg_up_s _ _ _ | (rw [mg_up_n _ _ (by decide)]; first | assumption | exact mg_up_s _ _ _ | (rw [mg_up_n _ _ (by decide)]; first | assumption | exact mg_up_s _ _ _ | (rw [mg_up_n _ _ (by decide)]; first | assumption | exact mg_up_s _ _ _))))))) hin ?_
                refine mg_eqM (M' := mg_up M2 1008 (iaE 60 (upd fi i (lowI (row.getD i 0) q)))) (by rw [nI_clamp (by omega)]) ?_
                refine mg_iconst (v := 1) d_Mo_make_143 (by decide) ?_
                refine mg_ireturn d_Mo_make_144 rfl rfl (Nat.le_of_ble_eq_true rfl) (Nat.le_of_ble_eq_true rfl) (hP _ hr _ _ ⟨rfl, ?_, isA_set m2f m2l hi2 (mg_up_s _ _ _), fun k h0 h1 => (mg_up_n _ _ h1).trans (m3 k h0 h1)⟩)
                rw [List.length_set]
                exact (mg_up_n _ _ (by decide)).trans m1
            · refine mg_iconst (v := 0) d_Mo_make_122 (by decide) ?_
              refine mg_goto (tgt := 142) d_Mo_make_123 (by decide) ?_
              refine mg_eqi (y := lowI (row.getD i 0) q) (by first | (rw [lowI, if_pos (show q = 0 from (nI_eq (b := 0) (by omega) (by decide)).mp (by first | exact c_119 | exact Decidable.not_not.mp c_119))]) | (rw [lowI, if_neg (fun e => c_119 (by rw [e]; rfl)), if_pos (show q = 1 from (nI_eq (b := 1) (by omega) (by decide)).mp (by first | exact c_128 | exact Decidable.not_not.mp c_128))]) | (rw [lowI, if_neg (fun e => c_119 (by rw [e]; rfl)), if_neg (fun e => c_128 (by rw [e]; rfl))])) ?_
              refine mg_iastore rfl d_Mo_make_142 (by first | assumption | exact mg_up_s _ _ _ | (rw [mg_up_n _ _ (by decide)]; first | assumption | exact mg_up_s _ _ _ | (rw [mg_up_n _ _ (by decide)]; first | assumption | exact mg_up_s _ _ _ | (rw [mg_up_n _ _ (by decide)]; first | assumption | exact mg_up_s _ _ _ | (rw [mg_up_n _ _ (by decide)]; first | assumption | exact mg_up_s _ _ _ | (rw [mg_up_n _ _ (by decide)]; first | assumption | exact mg_up_s _ _ _ | (rw [mg_up_n _ _ (by decide)]; first | assumption | exact mg_up_s _ _ _))))))) hin ?_
              refine mg_eqM (M' := mg_up M2 1008 (iaE 60 (upd fi i (lowI (row.getD i 0) q)))) (by rw [nI_clamp (by omega)]) ?_
              refine mg_iconst (v := 1) d_Mo_make_143 (by decide) ?_
              refine mg_ireturn d_Mo_make_144 rfl rfl (Nat.le_of_ble_eq_true rfl) (Nat.le_of_ble_eq_true rfl) (hP _ hr _ _ ⟨rfl, ?_, isA_set m2f m2l hi2 (mg_up_s _ _ _), fun k h0 h1 => (mg_up_n _ _ h1).trans (m3 k h0 h1)⟩)
              rw [List.length_set]
              exact (mg_up_n _ _ (by decide)).trans m1
    · refine mg_iload_n d_Mo_make_55 rfl rfl ?_
      first | refine mg_aload_n d_Mo_make_56 rfl rfl ?_ | refine mg_aload_nN d_Mo_make_56 rfl rfl ?_
      refine mg_getfield fl_Mo_55 d_Mo_make_57 (by first | assumption | exact mg_up_s _ _ _ | (rw [mg_up_n _ _ (by decide)]; first | assumption | exact mg_up_s _ _ _ | (rw [mg_up_n _ _ (by decide)]; first | assumption | exact mg_up_s _ _ _ | (rw [mg_up_n _ _ (by decide)]; first | assumption | exact mg_up_s _ _ _ | (rw [mg_up_n _ _ (by decide)]; first | assumption | exact mg_up_s _ _ _ | (rw [mg_up_n _ _ (by decide)]; first | assumption | exact mg_up_s _ _ _ | (rw [mg_up_n _ _ (by decide)]; first | assumption | exact mg_up_s _ _ _))))))) rfl ?_
      refine mg_icmp_ge (tgt := 156) d_Mo_make_60 (by decide) (fun c_60 => ?_) (fun c_60 => ?_)
      · have e : i = row.length := by
          rw [h26] at c_60
          have := (nI_leI (by omega) (by omega)).mp c_60
          omega
        subst e
        rw [Nat.sub_self, lowG] at hr
        exact kk q _ _ hr hq (Or.inr ⟨_, rfl⟩)
      · have hi2 : i < row.length := by
          rw [h26] at c_60
          exact Nat.lt_of_not_le (fun e => c_60 (nI_le e (by omega)))
        have hin : vp_in (nI i) 60 := vp_in_nI (by omega) (by decide)
        have hnv := hnn.at i
        rw [show row.length - i = (row.length - (i + 1)) + 1 by omega, lowG] at hr
        obtain ⟨y1, y2, y3, y4⟩ := ways_eq hnv
        have hwn : waysN (row.getD i 0) ≤ 3 := Nat.min_le_right _ _
        first | refine mg_aload_n d_Mo_make_63 rfl rfl ?_ | refine mg_aload_nN d_Mo_make_63 rfl rfl ?_
        refine mg_getfield fl_Mo_59 d_Mo_make_64 (by first | assumption | exact mg_up_s _ _ _ | (rw [mg_up_n _ _ (by decide)]; first | assumption | exact mg_up_s _ _ _ | (rw [mg_up_n _ _ (by decide)]; first | assumption | exact mg_up_s _ _ _ | (rw [mg_up_n _ _ (by decide)]; first | assumption | exact mg_up_s _ _ _ | (rw [mg_up_n _ _ (by decide)]; first | assumption | exact mg_up_s _ _ _ | (rw [mg_up_n _ _ (by decide)]; first | assumption | exact mg_up_s _ _ _ | (rw [mg_up_n _ _ (by decide)]; first | assumption | exact mg_up_s _ _ _))))))) rfl ?_
        refine mg_iload_n d_Mo_make_67 rfl rfl ?_
        refine mg_iaload rfl d_Mo_make_68 (by first | assumption | exact mg_up_s _ _ _ | (rw [mg_up_n _ _ (by decide)]; first | assumption | exact mg_up_s _ _ _ | (rw [mg_up_n _ _ (by decide)]; first | assumption | exact mg_up_s _ _ _ | (rw [mg_up_n _ _ (by decide)]; first | assumption | exact mg_up_s _ _ _ | (rw [mg_up_n _ _ (by decide)]; first | assumption | exact mg_up_s _ _ _ | (rw [mg_up_n _ _ (by decide)]; first | assumption | exact mg_up_s _ _ _ | (rw [mg_up_n _ _ (by decide)]; first | assumption | exact mg_up_s _ _ _))))))) hin ?_
        refine mg_eqi (y := row.getD i 0) (by rw [nI_clamp (by omega)]; exact f3 i hi2) ?_
        refine mg_istore d_Mo_make_69 (Nat.le_of_ble_eq_true rfl) rfl ?_
        refine mg_iload d_Mo_make_71 rfl ?_
        refine mg_if_ne (tgt := 80) d_Mo_make_73 (by decide) (fun c_73 => ?_) (fun c_73 => ?_)
        · refine mg_iload d_Mo_make_80 rfl ?_
          refine mg_iconst (v := 1) d_Mo_make_82 (by decide) ?_
          refine mg_icmp_ne (tgt := 90) d_Mo_make_83 (by decide) (fun c_83 => ?_) (fun c_83 => ?_)
          · refine mg_iload d_Mo_make_90 rfl ?_
            refine mg_iconst (v := 2) d_Mo_make_92 (by decide) ?_
            refine mg_icmp_ne (tgt := 100) d_Mo_make_93 (by decide) (fun c_93 => ?_) (fun c_93 => ?_)
            · refine mg_iconst (v := 3) d_Mo_make_100 (by decide) ?_
              refine mg_eqi (y := nI (waysN (row.getD i 0))) (by first | exact (y1 (by first | exact c_73 | exact Decidable.not_not.mp c_73)).symm | exact (y2 (by first | exact c_83 | exact Decidable.not_not.mp c_83)).symm | exact (y3 (by first | exact c_93 | exact Decidable.not_not.mp c_93)).symm | exact (y4 c_73 c_83 c_93).symm) ?_
              refine mg_istore d_Mo_make_101 (Nat.le_of_ble_eq_true rfl) rfl ?_
              refine mg_iload_n d_Mo_make_103 rfl rfl ?_
              refine mg_iload d_Mo_make_104 rfl ?_
              refine mg_icmp_ge (tgt := 145) d_Mo_make_106 (by decide) (fun c_106 => ?_) (fun c_106 => ?_)
              · have hge : waysN (row.getD i 0) ≤ q := (nI_leI (by omega) (by omega)).mp c_106
                rw [if_neg (by omega)] at hr
                refine mg_iload_n d_Mo_make_145 rfl rfl ?_
                refine mg_iload d_Mo_make_146 rfl ?_
                refine mg_isub d_Mo_make_148 ?_
                refine mg_eqi (y := nI (q - waysN (row.getD i 0))) (pk_sub hge) ?_
                refine mg_istore_n d_Mo_make_149 rfl (Nat.le_of_ble_eq_true rfl) rfl ?_
                refine mg_iinc (v := nI (i + 1)) d_Mo_make_150 rfl (nI_1 _) (Nat.le_of_ble_eq_true rfl) rfl ?_
                refine mg_goto (tgt := 55) d_Mo_make_153 (by decide) ?_
                exact ih (i + 1) (q - waysN (row.getD i 0)) _ _ (by omega) (by omega) (by omega) (Or.inr ⟨_, rfl⟩) hr
              · have hlt : q < waysN (row.getD i 0) := Nat.lt_of_not_le (fun e => c_106 (nI_le e (by omega)))
                rw [if_pos hlt] at hr
                first | refine mg_aload_n d_Mo_make_109 rfl rfl ?_ | refine mg_aload_nN d_Mo_make_109 rfl rfl ?_
                refine mg_callV (vl_Mo_190 rfl) d_Mo_make_110 (by first | assumption | exact mg_up_s _ _ _ | (rw [mg_up_n _ _ (by decide)]; first | assumption | exact mg_up_s _ _ _ | (rw [mg_up_n _ _ (by decide)]; first | assumption | exact mg_up_s _ _ _ | (rw [mg_up_n _ _ (by decide)]; first | assumption | exact mg_up_s _ _ _ | (rw [mg_up_n _ _ (by decide)]; first | assumption | exact mg_up_s _ _ _ | (rw [mg_up_n _ _ (by decide)]; first | assumption | exact mg_up_s _ _ _ | (rw [mg_up_n _ _ (by decide)]; first | assumption | exact mg_up_s _ _ _))))))) rfl rfl (c_Mo_copy hO h26 ⟨ff, f1, f2, f3⟩ hI) rfl rfl (by rw [hR]; decide) (by rw [hR]; decide) (Nat.le_of_ble_eq_true rfl) ?_
                rintro v M2 ⟨rfl, m1, ⟨fi, m2, m2l, m2f⟩, m3⟩
                first | refine mg_aload_n d_Mo_make_113 rfl rfl ?_ | refine mg_aload_nN d_Mo_make_113 rfl rfl ?_
                refine mg_getfield fl_Mo_31 d_Mo_make_114 (by first | assumption | exact mg_up_s _ _ _ | (rw [mg_up_n _ _ (by decide)]; first | assumption | exact mg_up_s _ _ _ | (rw [mg_up_n _ _ (by decide)]; first | assumption | exact mg_up_s _ _ _ | (rw [mg_up_n _ _ (by decide)]; first | assumption | exact mg_up_s _ _ _ | (rw [mg_up_n _ _ (by decide)]; first | assumption | exact mg_up_s _ _ _ | (rw [mg_up_n _ _ (by decide)]; first | assumption | exact mg_up_s _ _ _ | (rw [mg_up_n _ _ (by decide)]; first | assumption | exact mg_up_s _ _ _))))))) rfl ?_
                refine mg_iload_n d_Mo_make_117 rfl rfl ?_
                refine mg_iload_n d_Mo_make_118 rfl rfl ?_
                refine mg_if_ne (tgt := 126) d_Mo_make_119 (by decide) (fun c_119 => ?_) (fun c_119 => ?_)
                · refine mg_iload_n d_Mo_make_126 rfl rfl ?_
                  refine mg_iconst (v := 1) d_Mo_make_127 (by decide) ?_
                  refine mg_icmp_ne (tgt := 138) d_Mo_make_128 (by decide) (fun c_128 => ?_) (fun c_128 => ?_)
                  · refine mg_iload d_Mo_make_138 rfl ?_
                    refine mg_iconst (v := 1) d_Mo_make_140 (by decide) ?_
                    refine mg_isub d_Mo_make_141 ?_
                    refine mg_eqi (y := lowI (row.getD i 0) q) (by first | (rw [lowI, if_pos (show q = 0 from (nI_eq (b := 0) (by omega) (by decide)).mp (by first | exact c_119 | exact Decidable.not_not.mp c_119))]) | (rw [lowI, if_neg (fun e => c_119 (by rw [e]; rfl)), if_pos (show q = 1 from (nI_eq (b := 1) (by omega) (by decide)).mp (by first | exact c_128 | exact Decidable.not_not.mp c_128))]) | (rw [lowI, if_neg (fun e => c_119 (by rw [e]; rfl)), if_neg (fun e => c_128 (by rw [e]; rfl))])) ?_
                    refine mg_iastore rfl d_Mo_make_142 (by first | assumption | exact mg_up_s _ _ _ | (rw [mg_up_n _ _ (by decide)]; first | assumption | exact mg_up_s _ _ _ | (rw [mg_up_n _ _ (by decide)]; first | assumption | exact mg_up_s _ _ _ | (rw [mg_up_n _ _ (by decide)]; first | assumption | exact mg_up_s _ _ _ | (rw [mg_up_n _ _ (by decide)]; first | assumption | exact mg_up_s _ _ _ | (rw [mg_up_n _ _ (by decide)]; first | assumption | exact mg_up_s _ _ _ | (rw [mg_up_n _ _ (by decide)]; first | assumption | exact mg_up_s _ _ _))))))) hin ?_
                    refine mg_eqM (M' := mg_up M2 1008 (iaE 60 (upd fi i (lowI (row.getD i 0) q)))) (by rw [nI_clamp (by omega)]) ?_
                    refine mg_iconst (v := 1) d_Mo_make_143 (by decide) ?_
                    refine mg_ireturn d_Mo_make_144 rfl rfl (Nat.le_of_ble_eq_true rfl) (Nat.le_of_ble_eq_true rfl) (hP _ hr _ _ ⟨rfl, ?_, isA_set m2f m2l hi2 (mg_up_s _ _ _), fun k h0 h1 => (mg_up_n _ _ h1).trans (m3 k h0 h1)⟩)
                    rw [List.length_set]
                    exact (mg_up_n _ _ (by decide)).trans m1
                  · refine mg_iload d_Mo_make_131 rfl ?_
                    refine mg_iconst (v := 2) d_Mo_make_133 (by decide) ?_
                    refine mg_idiv d_Mo_make_134 (by first | assumption | decide) ?_
                    refine mg_goto (tgt := 142) d_Mo_make_135 (by decide) ?_
                    refine mg_eqi (y := lowI (row.getD i 0) q) (by first | (rw [lowI, if_pos (show q = 0 from (nI_eq (b := 0) (by omega) (by decide)).mp (by first | exact c_119 | exact Decidable.not_not.mp c_119))]) | (rw [lowI, if_neg (fun e => c_119 (by rw [e]; rfl)), if_pos (show q = 1 from (nI_eq (b := 1) (by omega) (by decide)).mp (by first | exact c_128 | exact Decidable.not_not.mp c_128))]) | (rw [lowI, if_neg (fun e => c_119 (by rw [e]; rfl)), if_neg (fun e => c_128 (by rw [e]; rfl))])) ?_
                    refine mg_iastore rfl d_Mo_make_142 (by first | assumption | exact mg_up_s _ _ _ | (rw [mg_up_n _ _ (by decide)]; first | assumption | exact mg_up_s _ _ _ | (rw [mg_up_n _ _ (by decide)]; first | assumption | exact mg_up_s _ _ _ | (rw [mg_up_n _ _ (by decide)]; first | assumption | exact mg_up_s _ _ _ | (rw [mg_up_n _ _ (by decide)]; first | assumption | exact mg_up_s _ _ _ | (rw [mg_up_n _ _ (by decide)]; first | assumption | exact mg_up_s _ _ _ | (rw [mg_up_n _ _ (by decide)]; first | assumption | exact mg_up_s _ _ _))))))) hin ?_
                    refine mg_eqM (M' := mg_up M2 1008 (iaE 60 (upd fi i (lowI (row.getD i 0) q)))) (by rw [nI_clamp (by omega)]) ?_
                    refine mg_iconst (v := 1) d_Mo_make_143 (by decide) ?_
                    refine mg_ireturn d_Mo_make_144 rfl rfl (Nat.le_of_ble_eq_true rfl) (Nat.le_of_ble_eq_true rfl) (hP _ hr _ _ ⟨rfl, ?_, isA_set m2f m2l hi2 (mg_up_s _ _ _), fun k h0 h1 => (mg_up_n _ _ h1).trans (m3 k h0 h1)⟩)
                    rw [List.length_set]
                    exact (mg_up_n _ _ (by decide)).trans m1
                · refine mg_iconst (v := 0) d_Mo_make_122 (by decide) ?_
                  refine mg_goto (tgt := 142) d_Mo_make_123 (by decide) ?_
                  refine mg_eqi (y := lowI (row.getD i 0) q) (by first | (rw [lowI, if_pos (show q = 0 from (nI_eq (b := 0) (by omega) (by decide)).mp (by first | exact c_119 | exact Decidable.not_not.mp c_119))]) | (rw [lowI, if_neg (fun e => c_119 (by rw [e]; rfl)), if_pos (show q = 1 from (nI_eq (b := 1) (by omega) (by decide)).mp (by first | exact c_128 | exact Decidable.not_not.mp c_128))]) | (rw [lowI, if_neg (fun e => c_119 (by rw [e]; rfl)), if_neg (fun e => c_128 (by rw [e]; rfl))])) ?_
                  refine mg_iastore rfl d_Mo_make_142 (by first | assumption | exact mg_up_s _ _ _ | (rw [mg_up_n _ _ (by decide)]; first | assumption | exact mg_up_s _ _ _ | (rw [mg_up_n _ _ (by decide)]; first | assumption | exact mg_up_s _ _ _ | (rw [mg_up_n _ _ (by decide)]; first | assumption | exact mg_up_s _ _ _ | (rw [mg_up_n _ _ (by decide)]; first | assumption | exact mg_up_s _ _ _ | (rw [mg_up_n _ _ (by decide)]; first | assumption | exact mg_up_s _ _ _ | (rw [mg_up_n _ _ (by decide)]; first | assumption | exact mg_up_s _ _ _))))))) hin ?_
                  refine mg_eqM (M' := mg_up M2 1008 (iaE 60 (upd fi i (lowI (row.getD i 0) q)))) (by rw [nI_clamp (by omega)]) ?_
                  refine mg_iconst (v := 1) d_Mo_make_143 (by decide) ?_
                  refine mg_ireturn d_Mo_make_144 rfl rfl (Nat.le_of_ble_eq_true rfl) (Nat.le_of_ble_eq_true rfl) (hP _ hr _ _ ⟨rfl, ?_, isA_set m2f m2l hi2 (mg_up_s _ _ _), fun k h0 h1 => (mg_up_n _ _ h1).trans (m3 k h0 h1)⟩)
                  rw [List.length_set]
                  exact (mg_up_n _ _ (by decide)).trans m1
            · refine mg_iconst (v := 2) d_Mo_make_96 (by decide) ?_
              refine mg_goto (tgt := 101) d_Mo_make_97 (by decide) ?_
              refine mg_eqi (y := nI (waysN (row.getD i 0))) (by first | exact (y1 (by first | exact c_73 | exact Decidable.not_not.mp c_73)).symm | exact (y2 (by first | exact c_83 | exact Decidable.not_not.mp c_83)).symm | exact (y3 (by first | exact c_93 | exact Decidable.not_not.mp c_93)).symm | exact (y4 c_73 c_83 c_93).symm) ?_
              refine mg_istore d_Mo_make_101 (Nat.le_of_ble_eq_true rfl) rfl ?_
              refine mg_iload_n d_Mo_make_103 rfl rfl ?_
              refine mg_iload d_Mo_make_104 rfl ?_
              refine mg_icmp_ge (tgt := 145) d_Mo_make_106 (by decide) (fun c_106 => ?_) (fun c_106 => ?_)
              · have hge : waysN (row.getD i 0) ≤ q := (nI_leI (by omega) (by omega)).mp c_106
                rw [if_neg (by omega)] at hr
                refine mg_iload_n d_Mo_make_145 rfl rfl ?_
                refine mg_iload d_Mo_make_146 rfl ?_
                refine mg_isub d_Mo_make_148 ?_
                refine mg_eqi (y := nI (q - waysN (row.getD i 0))) (pk_sub hge) ?_
                refine mg_istore_n d_Mo_make_149 rfl (Nat.le_of_ble_eq_true rfl) rfl ?_
                refine mg_iinc (v := nI (i + 1)) d_Mo_make_150 rfl (nI_1 _) (Nat.le_of_ble_eq_true rfl) rfl ?_
                refine mg_goto (tgt := 55) d_Mo_make_153 (by decide) ?_
                exact ih (i + 1) (q - waysN (row.getD i 0)) _ _ (by omega) (by omega) (by omega) (Or.inr ⟨_, rfl⟩) hr
              · have hlt : q < waysN (row.getD i 0) := Nat.lt_of_not_le (fun e => c_106 (nI_le e (by omega)))
                rw [if_pos hlt] at hr
                first | refine mg_aload_n d_Mo_make_109 rfl rfl ?_ | refine mg_aload_nN d_Mo_make_109 rfl rfl ?_
                refine mg_callV (vl_Mo_190 rfl) d_Mo_make_110 (by first | assumption | exact mg_up_s _ _ _ | (rw [mg_up_n _ _ (by decide)]; first | assumption | exact mg_up_s _ _ _ | (rw [mg_up_n _ _ (by decide)]; first | assumption | exact mg_up_s _ _ _ | (rw [mg_up_n _ _ (by decide)]; first | assumption | exact mg_up_s _ _ _ | (rw [mg_up_n _ _ (by decide)]; first | assumption | exact mg_up_s _ _ _ | (rw [mg_up_n _ _ (by decide)]; first | assumption | exact mg_up_s _ _ _ | (rw [mg_up_n _ _ (by decide)]; first | assumption | exact mg_up_s _ _ _))))))) rfl rfl (c_Mo_copy hO h26 ⟨ff, f1, f2, f3⟩ hI) rfl rfl (by rw [hR]; decide) (by rw [hR]; decide) (Nat.le_of_ble_eq_true rfl) ?_
                rintro v M2 ⟨rfl, m1, ⟨fi, m2, m2l, m2f⟩, m3⟩
                first | refine mg_aload_n d_Mo_make_113 rfl rfl ?_ | refine mg_aload_nN d_Mo_make_113 rfl rfl ?_
                refine mg_getfield fl_Mo_31 d_Mo_make_114 (by first | assumption | exact mg_up_s _ _ _ | (rw [mg_up_n _ _ (by decide)]; first | assumption | exact mg_up_s _ _ _ | (rw [mg_up_n _ _ (by decide)]; first | assumption | exact mg_up_s _ _ _ | (rw [mg_up_n _ _ (by decide)]; first | assumption | exact mg_up_s _ _ _ | (rw [mg_up_n _ _ (by decide)]; first | assumption | exact mg_up_s _ _ _ | (rw [mg_up_n _ _ (by decide)]; first | assumption | exact mg_up_s _ _ _ | (rw [mg_up_n _ _ (by decide)]; first | assumption | exact mg_up_s _ _ _))))))) rfl ?_
                refine mg_iload_n d_Mo_make_117 rfl rfl ?_
                refine mg_iload_n d_Mo_make_118 rfl rfl ?_
                refine mg_if_ne (tgt := 126) d_Mo_make_119 (by decide) (fun c_119 => ?_) (fun c_119 => ?_)
                · refine mg_iload_n d_Mo_make_126 rfl rfl ?_
                  refine mg_iconst (v := 1) d_Mo_make_127 (by decide) ?_
                  refine mg_icmp_ne (tgt := 138) d_Mo_make_128 (by decide) (fun c_128 => ?_) (fun c_128 => ?_)
                  · refine mg_iload d_Mo_make_138 rfl ?_
                    refine mg_iconst (v := 1) d_Mo_make_140 (by decide) ?_
                    refine mg_isub d_Mo_make_141 ?_
                    refine mg_eqi (y := lowI (row.getD i 0) q) (by first | (rw [lowI, if_pos (show q = 0 from (nI_eq (b := 0) (by omega) (by decide)).mp (by first | exact c_119 | exact Decidable.not_not.mp c_119))]) | (rw [lowI, if_neg (fun e => c_119 (by rw [e]; rfl)), if_pos (show q = 1 from (nI_eq (b := 1) (by omega) (by decide)).mp (by first | exact c_128 | exact Decidable.not_not.mp c_128))]) | (rw [lowI, if_neg (fun e => c_119 (by rw [e]; rfl)), if_neg (fun e => c_128 (by rw [e]; rfl))])) ?_
                    refine mg_iastore rfl d_Mo_make_142 (by first | assumption | exact mg_up_s _ _ _ | (rw [mg_up_n _ _ (by decide)]; first | assumption | exact mg_up_s _ _ _ | (rw [mg_up_n _ _ (by decide)]; first | assumption | exact mg_up_s _ _ _ | (rw [mg_up_n _ _ (by decide)]; first | assumption | exact mg_up_s _ _ _ | (rw [mg_up_n _ _ (by decide)]; first | assumption | exact mg_up_s _ _ _ | (rw [mg_up_n _ _ (by decide)]; first | assumption | exact mg_up_s _ _ _ | (rw [mg_up_n _ _ (by decide)]; first | assumption | exact mg_up_s _ _ _))))))) hin ?_
                    refine mg_eqM (M' := mg_up M2 1008 (iaE 60 (upd fi i (lowI (row.getD i 0) q)))) (by rw [nI_clamp (by omega)]) ?_
                    refine mg_iconst (v := 1) d_Mo_make_143 (by decide) ?_
                    refine mg_ireturn d_Mo_make_144 rfl rfl (Nat.le_of_ble_eq_true rfl) (Nat.le_of_ble_eq_true rfl) (hP _ hr _ _ ⟨rfl, ?_, isA_set m2f m2l hi2 (mg_up_s _ _ _), fun k h0 h1 => (mg_up_n _ _ h1).trans (m3 k h0 h1)⟩)
                    rw [List.length_set]
                    exact (mg_up_n _ _ (by decide)).trans m1
                  · refine mg_iload d_Mo_make_131 rfl ?_
                    refine mg_iconst (v := 2) d_Mo_make_133 (by decide) ?_
                    refine mg_idiv d_Mo_make_134 (by first | assumption | decide) ?_
                    refine mg_goto (tgt := 142) d_Mo_make_135 (by decide) ?_
                    refine mg_eqi (y := lowI (row.getD i 0) q) (by first | (rw [lowI, if_pos (show q = 0 from (nI_eq (b := 0) (by omega) (by decide)).mp (by first | exact c_119 | exact Decidable.not_not.mp c_119))]) | (rw [lowI, if_neg (fun e => c_119 (by rw [e]; rfl)), if_pos (show q = 1 from (nI_eq (b := 1) (by omega) (by decide)).mp (by first | exact c_128 | exact Decidable.not_not.mp c_128))]) | (rw [lowI, if_neg (fun e => c_119 (by rw [e]; rfl)), if_neg (fun e => c_128 (by rw [e]; rfl))])) ?_
                    refine mg_iastore rfl d_Mo_make_142 (by first | assumption | exact mg_up_s _ _ _ | (rw [mg_up_n _ _ (by decide)]; first | assumption | exact mg_up_s _ _ _ | (rw [mg_up_n _ _ (by decide)]; first | assumption | exact mg_up_s _ _ _ | (rw [mg_up_n _ _ (by decide)]; first | assumption | exact mg_up_s _ _ _ | (rw [mg_up_n _ _ (by decide)]; first | assumption | exact mg_up_s _ _ _ | (rw [mg_up_n _ _ (by decide)]; first | assumption | exact mg_up_s _ _ _ | (rw [mg_up_n _ _ (by decide)]; first | assumption | exact mg_up_s _ _ _))))))) hin ?_
                    refine mg_eqM (M' := mg_up M2 1008 (iaE 60 (upd fi i (lowI (row.getD i 0) q)))) (by rw [nI_clamp (by omega)]) ?_
                    refine mg_iconst (v := 1) d_Mo_make_143 (by decide) ?_
                    refine mg_ireturn d_Mo_make_144 rfl rfl (Nat.le_of_ble_eq_true rfl) (Nat.le_of_ble_eq_true rfl) (hP _ hr _ _ ⟨rfl, ?_, isA_set m2f m2l hi2 (mg_up_s _ _ _), fun k h0 h1 => (mg_up_n _ _ h1).trans (m3 k h0 h1)⟩)
                    rw [List.length_set]
                    exact (mg_up_n _ _ (by decide)).trans m1
                · refine mg_iconst (v := 0) d_Mo_make_122 (by decide) ?_
                  refine mg_goto (tgt := 142) d_Mo_make_123 (by decide) ?_
                  refine mg_eqi (y := lowI (row.getD i 0) q) (by first | (rw [lowI, if_pos (show q = 0 from (nI_eq (b := 0) (by omega) (by decide)).mp (by first | exact c_119 | exact Decidable.not_not.mp c_119))]) | (rw [lowI, if_neg (fun e => c_119 (by rw [e]; rfl)), if_pos (show q = 1 from (nI_eq (b := 1) (by omega) (by decide)).mp (by first | exact c_128 | exact Decidable.not_not.mp c_128))]) | (rw [lowI, if_neg (fun e => c_119 (by rw [e]; rfl)), if_neg (fun e => c_128 (by rw [e]; rfl))])) ?_
                  refine mg_iastore rfl d_Mo_make_142 (by first | assumption | exact mg_up_s _ _ _ | (rw [mg_up_n _ _ (by decide)]; first | assumption | exact mg_up_s _ _ _ | (rw [mg_up_n _ _ (by decide)]; first | assumption | exact mg_up_s _ _ _ | (rw [mg_up_n _ _ (by decide)]; first | assumption | exact mg_up_s _ _ _ | (rw [mg_up_n _ _ (by decide)]; first | assumption | exact mg_up_s _ _ _ | (rw [mg_up_n _ _ (by decide)]; first | assumption | exact mg_up_s _ _ _ | (rw [mg_up_n _ _ (by decide)]; first | assumption | exact mg_up_s _ _ _))))))) hin ?_
                  refine mg_eqM (M' := mg_up M2 1008 (iaE 60 (upd fi i (lowI (row.getD i 0) q)))) (by rw [nI_clamp (by omega)]) ?_
                  refine mg_iconst (v := 1) d_Mo_make_143 (by decide) ?_
                  refine mg_ireturn d_Mo_make_144 rfl rfl (Nat.le_of_ble_eq_true rfl) (Nat.le_of_ble_eq_true rfl) (hP _ hr _ _ ⟨rfl, ?_, isA_set m2f m2l hi2 (mg_up_s _ _ _), fun k h0 h1 => (mg_up_n _ _ h1).trans (m3 k h0 h1)⟩)
                  rw [List.length_set]
                  exact (mg_up_n _ _ (by decide)).trans m1
          · refine mg_iconst (v := 1) d_Mo_make_86 (by decide) ?_
            refine mg_goto (tgt := 101) d_Mo_make_87 (by decide) ?_
            refine mg_eqi (y := nI (waysN (row.getD i 0))) (by first | exact (y1 (by first | exact c_73 | exact Decidable.not_not.mp c_73)).symm | exact (y2 (by first | exact c_83 | exact Decidable.not_not.mp c_83)).symm | exact (y3 (by first | exact c_93 | exact Decidable.not_not.mp c_93)).symm | exact (y4 c_73 c_83 c_93).symm) ?_
            refine mg_istore d_Mo_make_101 (Nat.le_of_ble_eq_true rfl) rfl ?_
            refine mg_iload_n d_Mo_make_103 rfl rfl ?_
            refine mg_iload d_Mo_make_104 rfl ?_
            refine mg_icmp_ge (tgt := 145) d_Mo_make_106 (by decide) (fun c_106 => ?_) (fun c_106 => ?_)
            · have hge : waysN (row.getD i 0) ≤ q := (nI_leI (by omega) (by omega)).mp c_106
              rw [if_neg (by omega)] at hr
              refine mg_iload_n d_Mo_make_145 rfl rfl ?_
              refine mg_iload d_Mo_make_146 rfl ?_
              refine mg_isub d_Mo_make_148 ?_
              refine mg_eqi (y := nI (q - waysN (row.getD i 0))) (pk_sub hge) ?_
              refine mg_istore_n d_Mo_make_149 rfl (Nat.le_of_ble_eq_true rfl) rfl ?_
              refine mg_iinc (v := nI (i + 1)) d_Mo_make_150 rfl (nI_1 _) (Nat.le_of_ble_eq_true rfl) rfl ?_
              refine mg_goto (tgt := 55) d_Mo_make_153 (by decide) ?_
              exact ih (i + 1) (q - waysN (row.getD i 0)) _ _ (by omega) (by omega) (by omega) (Or.inr ⟨_, rfl⟩) hr
            · have hlt : q < waysN (row.getD i 0) := Nat.lt_of_not_le (fun e => c_106 (nI_le e (by omega)))
              rw [if_pos hlt] at hr
              first | refine mg_aload_n d_Mo_make_109 rfl rfl ?_ | refine mg_aload_nN d_Mo_make_109 rfl rfl ?_
              refine mg_callV (vl_Mo_190 rfl) d_Mo_make_110 (by first | assumption | exact mg_up_s _ _ _ | (rw [mg_up_n _ _ (by decide)]; first | assumption | exact mg_up_s _ _ _ | (rw [mg_up_n _ _ (by decide)]; first | assumption | exact mg_up_s _ _ _ | (rw [mg_up_n _ _ (by decide)]; first | assumption | exact mg_up_s _ _ _ | (rw [mg_up_n _ _ (by decide)]; first | assumption | exact mg_up_s _ _ _ | (rw [mg_up_n _ _ (by decide)]; first | assumption | exact mg_up_s _ _ _ | (rw [mg_up_n _ _ (by decide)]; first | assumption | exact mg_up_s _ _ _))))))) rfl rfl (c_Mo_copy hO h26 ⟨ff, f1, f2, f3⟩ hI) rfl rfl (by rw [hR]; decide) (by rw [hR]; decide) (Nat.le_of_ble_eq_true rfl) ?_
              rintro v M2 ⟨rfl, m1, ⟨fi, m2, m2l, m2f⟩, m3⟩
              first | refine mg_aload_n d_Mo_make_113 rfl rfl ?_ | refine mg_aload_nN d_Mo_make_113 rfl rfl ?_
              refine mg_getfield fl_Mo_31 d_Mo_make_114 (by first | assumption | exact mg_up_s _ _ _ | (rw [mg_up_n _ _ (by decide)]; first | assumption | exact mg_up_s _ _ _ | (rw [mg_up_n _ _ (by decide)]; first | assumption | exact mg_up_s _ _ _ | (rw [mg_up_n _ _ (by decide)]; first | assumption | exact mg_up_s _ _ _ | (rw [mg_up_n _ _ (by decide)]; first | assumption | exact mg_up_s _ _ _ | (rw [mg_up_n _ _ (by decide)]; first | assumption | exact mg_up_s _ _ _ | (rw [mg_up_n _ _ (by decide)]; first | assumption | exact mg_up_s _ _ _))))))) rfl ?_
              refine mg_iload_n d_Mo_make_117 rfl rfl ?_
              refine mg_iload_n d_Mo_make_118 rfl rfl ?_
              refine mg_if_ne (tgt := 126) d_Mo_make_119 (by decide) (fun c_119 => ?_) (fun c_119 => ?_)
              · refine mg_iload_n d_Mo_make_126 rfl rfl ?_
                refine mg_iconst (v := 1) d_Mo_make_127 (by decide) ?_
                refine mg_icmp_ne (tgt := 138) d_Mo_make_128 (by decide) (fun c_128 => ?_) (fun c_128 => ?_)
                · refine mg_iload d_Mo_make_138 rfl ?_
                  refine mg_iconst (v := 1) d_Mo_make_140 (by decide) ?_
                  refine mg_isub d_Mo_make_141 ?_
                  refine mg_eqi (y := lowI (row.getD i 0) q) (by first | (rw [lowI, if_pos (show q = 0 from (nI_eq (b := 0) (by omega) (by decide)).mp (by first | exact c_119 | exact Decidable.not_not.mp c_119))]) | (rw [lowI, if_neg (fun e => c_119 (by rw [e]; rfl)), if_pos (show q = 1 from (nI_eq (b := 1) (by omega) (by decide)).mp (by first | exact c_128 | exact Decidable.not_not.mp c_128))]) | (rw [lowI, if_neg (fun e => c_119 (by rw [e]; rfl)), if_neg (fun e => c_128 (by rw [e]; rfl))])) ?_
                  refine mg_iastore rfl d_Mo_make_142 (by first | assumption | exact mg_up_s _ _ _ | (rw [mg_up_n _ _ (by decide)]; first | assumption | exact mg_up_s _ _ _ | (rw [mg_up_n _ _ (by decide)]; first | assumption | exact mg_up_s _ _ _ | (rw [mg_up_n _ _ (by decide)]; first | assumption | exact mg_up_s _ _ _ | (rw [mg_up_n _ _ (by decide)]; first | assumption | exact mg_up_s _ _ _ | (rw [mg_up_n _ _ (by decide)]; first | assumption | exact mg_up_s _ _ _ | (rw [mg_up_n _ _ (by decide)]; first | assumption | exact mg_up_s _ _ _))))))) hin ?_
                  refine mg_eqM (M' := mg_up M2 1008 (iaE 60 (upd fi i (lowI (row.getD i 0) q)))) (by rw [nI_clamp (by omega)]) ?_
                  refine mg_iconst (v := 1) d_Mo_make_143 (by decide) ?_
                  refine mg_ireturn d_Mo_make_144 rfl rfl (Nat.le_of_ble_eq_true rfl) (Nat.le_of_ble_eq_true rfl) (hP _ hr _ _ ⟨rfl, ?_, isA_set m2f m2l hi2 (mg_up_s _ _ _), fun k h0 h1 => (mg_up_n _ _ h1).trans (m3 k h0 h1)⟩)
                  rw [List.length_set]
                  exact (mg_up_n _ _ (by decide)).trans m1
                · refine mg_iload d_Mo_make_131 rfl ?_
                  refine mg_iconst (v := 2) d_Mo_make_133 (by decide) ?_
                  refine mg_idiv d_Mo_make_134 (by first | assumption | decide) ?_
                  refine mg_goto (tgt := 142) d_Mo_make_135 (by decide) ?_
                  refine mg_eqi (y := lowI (row.getD i 0) q) (by first | (rw [lowI, if_pos (show q = 0 from (nI_eq (b := 0) (by omega) (by decide)).mp (by first | exact c_119 | exact Decidable.not_not.mp c_119))]) | (rw [lowI, if_neg (fun e => c_119 (by rw [e]; rfl)), if_pos (show q = 1 from (nI_eq (b := 1) (by omega) (by decide)).mp (by first | exact c_128 | exact Decidable.not_not.mp c_128))]) | (rw [lowI, if_neg (fun e => c_119 (by rw [e]; rfl)), if_neg (fun e => c_128 (by rw [e]; rfl))])) ?_
                  refine mg_iastore rfl d_Mo_make_142 (by first | assumption | exact mg_up_s _ _ _ | (rw [mg_up_n _ _ (by decide)]; first | assumption | exact mg_up_s _ _ _ | (rw [mg_up_n _ _ (by decide)]; first | assumption | exact mg_up_s _ _ _ | (rw [mg_up_n _ _ (by decide)]; first | assumption | exact mg_up_s _ _ _ | (rw [mg_up_n _ _ (by decide)]; first | assumption | exact mg_up_s _ _ _ | (rw [mg_up_n _ _ (by decide)]; first | assumption | exact mg_up_s _ _ _ | (rw [mg_up_n _ _ (by decide)]; first | assumption | exact mg_up_s _ _ _))))))) hin ?_
                  refine mg_eqM (M' := mg_up M2 1008 (iaE 60 (upd fi i (lowI (row.getD i 0) q)))) (by rw [nI_clamp (by omega)]) ?_
                  refine mg_iconst (v := 1) d_Mo_make_143 (by decide) ?_
                  refine mg_ireturn d_Mo_make_144 rfl rfl (Nat.le_of_ble_eq_true rfl) (Nat.le_of_ble_eq_true rfl) (hP _ hr _ _ ⟨rfl, ?_, isA_set m2f m2l hi2 (mg_up_s _ _ _), fun k h0 h1 => (mg_up_n _ _ h1).trans (m3 k h0 h1)⟩)
                  rw [List.length_set]
                  exact (mg_up_n _ _ (by decide)).trans m1
              · refine mg_iconst (v := 0) d_Mo_make_122 (by decide) ?_
                refine mg_goto (tgt := 142) d_Mo_make_123 (by decide) ?_
                refine mg_eqi (y := lowI (row.getD i 0) q) (by first | (rw [lowI, if_pos (show q = 0 from (nI_eq (b := 0) (by omega) (by decide)).mp (by first | exact c_119 | exact Decidable.not_not.mp c_119))]) | (rw [lowI, if_neg (fun e => c_119 (by rw [e]; rfl)), if_pos (show q = 1 from (nI_eq (b := 1) (by omega) (by decide)).mp (by first | exact c_128 | exact Decidable.not_not.mp c_128))]) | (rw [lowI, if_neg (fun e => c_119 (by rw [e]; rfl)), if_neg (fun e => c_128 (by rw [e]; rfl))])) ?_
                refine mg_iastore rfl d_Mo_make_142 (by first | assumption | exact mg_up_s _ _ _ | (rw [mg_up_n _ _ (by decide)]; first | assumption | exact mg_up_s _ _ _ | (rw [mg_up_n _ _ (by decide)]; first | assumption | exact mg_up_s _ _ _ | (rw [mg_up_n _ _ (by decide)]; first | assumption | exact mg_up_s _ _ _ | (rw [mg_up_n _ _ (by decide)]; first | assumption | exact mg_up_s _ _ _ | (rw [mg_up_n _ _ (by decide)]; first | assumption | exact mg_up_s _ _ _ | (rw [mg_up_n _ _ (by decide)]; first | assumption | exact mg_up_s _ _ _))))))) hin ?_
                refine mg_eqM (M' := mg_up M2 1008 (iaE 60 (upd fi i (lowI (row.getD i 0) q)))) (by rw [nI_clamp (by omega)]) ?_
                refine mg_iconst (v := 1) d_Mo_make_143 (by decide) ?_
                refine mg_ireturn d_Mo_make_144 rfl rfl (Nat.le_of_ble_eq_true rfl) (Nat.le_of_ble_eq_true rfl) (hP _ hr _ _ ⟨rfl, ?_, isA_set m2f m2l hi2 (mg_up_s _ _ _), fun k h0 h1 => (mg_up_n _ _ h1).trans (m3 k h0 h1)⟩)
                rw [List.length_set]
                exact (mg_up_n _ _ (by decide)).trans m1
        · refine mg_iconst (v := 0) d_Mo_make_76 (by decide) ?_
          refine mg_goto (tgt := 101) d_Mo_make_77 (by decide) ?_
          refine mg_eqi (y := nI (waysN (row.getD i 0))) (by first | exact (y1 (by first | exact c_73 | exact Decidable.not_not.mp c_73)).symm | exact (y2 (by first | exact c_83 | exact Decidable.not_not.mp c_83)).symm | exact (y3 (by first | exact c_93 | exact Decidable.not_not.mp c_93)).symm | exact (y4 c_73 c_83 c_93).symm) ?_
          refine mg_istore d_Mo_make_101 (Nat.le_of_ble_eq_true rfl) rfl ?_
          refine mg_iload_n d_Mo_make_103 rfl rfl ?_
          refine mg_iload d_Mo_make_104 rfl ?_
          refine mg_icmp_ge (tgt := 145) d_Mo_make_106 (by decide) (fun c_106 => ?_) (fun c_106 => ?_)
          · have hge : waysN (row.getD i 0) ≤ q := (nI_leI (by omega) (by omega)).mp c_106
            rw [if_neg (by omega)] at hr
            refine mg_iload_n d_Mo_make_145 rfl rfl ?_
            refine mg_iload d_Mo_make_146 rfl ?_
            refine mg_isub d_Mo_make_148 ?_
            refine mg_eqi (y := nI (q - waysN (row.getD i 0))) (pk_sub hge) ?_
            refine mg_istore_n d_Mo_make_149 rfl (Nat.le_of_ble_eq_true rfl) rfl ?_
            refine mg_iinc (v := nI (i + 1)) d_Mo_make_150 rfl (nI_1 _) (Nat.le_of_ble_eq_true rfl) rfl ?_
            refine mg_goto (tgt := 55) d_Mo_make_153 (by decide) ?_
            exact ih (i + 1) (q - waysN (row.getD i 0)) _ _ (by omega) (by omega) (by omega) (Or.inr ⟨_, rfl⟩) hr
          · have hlt : q < waysN (row.getD i 0) := Nat.lt_of_not_le (fun e => c_106 (nI_le e (by omega)))
            rw [if_pos hlt] at hr
            first | refine mg_aload_n d_Mo_make_109 rfl rfl ?_ | refine mg_aload_nN d_Mo_make_109 rfl rfl ?_
            refine mg_callV (vl_Mo_190 rfl) d_Mo_make_110 (by first | assumption | exact mg_up_s _ _ _ | (rw [mg_up_n _ _ (by decide)]; first | assumption | exact mg_up_s _ _ _ | (rw [mg_up_n _ _ (by decide)]; first | assumption | exact mg_up_s _ _ _ | (rw [mg_up_n _ _ (by decide)]; first | assumption | exact mg_up_s _ _ _ | (rw [mg_up_n _ _ (by decide)]; first | assumption | exact mg_up_s _ _ _ | (rw [mg_up_n _ _ (by decide)]; first | assumption | exact mg_up_s _ _ _ | (rw [mg_up_n _ _ (by decide)]; first | assumption | exact mg_up_s _ _ _))))))) rfl rfl (c_Mo_copy hO h26 ⟨ff, f1, f2, f3⟩ hI) rfl rfl (by rw [hR]; decide) (by rw [hR]; decide) (Nat.le_of_ble_eq_true rfl) ?_
            rintro v M2 ⟨rfl, m1, ⟨fi, m2, m2l, m2f⟩, m3⟩
            first | refine mg_aload_n d_Mo_make_113 rfl rfl ?_ | refine mg_aload_nN d_Mo_make_113 rfl rfl ?_
            refine mg_getfield fl_Mo_31 d_Mo_make_114 (by first | assumption | exact mg_up_s _ _ _ | (rw [mg_up_n _ _ (by decide)]; first | assumption | exact mg_up_s _ _ _ | (rw [mg_up_n _ _ (by decide)]; first | assumption | exact mg_up_s _ _ _ | (rw [mg_up_n _ _ (by decide)]; first | assumption | exact mg_up_s _ _ _ | (rw [mg_up_n _ _ (by decide)]; first | assumption | exact mg_up_s _ _ _ | (rw [mg_up_n _ _ (by decide)]; first | assumption | exact mg_up_s _ _ _ | (rw [mg_up_n _ _ (by decide)]; first | assumption | exact mg_up_s _ _ _))))))) rfl ?_
            refine mg_iload_n d_Mo_make_117 rfl rfl ?_
            refine mg_iload_n d_Mo_make_118 rfl rfl ?_
            refine mg_if_ne (tgt := 126) d_Mo_make_119 (by decide) (fun c_119 => ?_) (fun c_119 => ?_)
            · refine mg_iload_n d_Mo_make_126 rfl rfl ?_
              refine mg_iconst (v := 1) d_Mo_make_127 (by decide) ?_
              refine mg_icmp_ne (tgt := 138) d_Mo_make_128 (by decide) (fun c_128 => ?_) (fun c_128 => ?_)
              · refine mg_iload d_Mo_make_138 rfl ?_
                refine mg_iconst (v := 1) d_Mo_make_140 (by decide) ?_
                refine mg_isub d_Mo_make_141 ?_
                refine mg_eqi (y := lowI (row.getD i 0) q) (by first | (rw [lowI, if_pos (show q = 0 from (nI_eq (b := 0) (by omega) (by decide)).mp (by first | exact c_119 | exact Decidable.not_not.mp c_119))]) | (rw [lowI, if_neg (fun e => c_119 (by rw [e]; rfl)), if_pos (show q = 1 from (nI_eq (b := 1) (by omega) (by decide)).mp (by first | exact c_128 | exact Decidable.not_not.mp c_128))]) | (rw [lowI, if_neg (fun e => c_119 (by rw [e]; rfl)), if_neg (fun e => c_128 (by rw [e]; rfl))])) ?_
                refine mg_iastore rfl d_Mo_make_142 (by first | assumption | exact mg_up_s _ _ _ | (rw [mg_up_n _ _ (by decide)]; first | assumption | exact mg_up_s _ _ _ | (rw [mg_up_n _ _ (by decide)]; first | assumption | exact mg_up_s _ _ _ | (rw [mg_up_n _ _ (by decide)]; first | assumption | exact mg_up_s _ _ _ | (rw [mg_up_n _ _ (by decide)]; first | assumption | exact mg_up_s _ _ _ | (rw [mg_up_n _ _ (by decide)]; first | assumption | exact mg_up_s _ _ _ | (rw [mg_up_n _ _ (by decide)]; first | assumption | exact mg_up_s _ _ _))))))) hin ?_
                refine mg_eqM (M' := mg_up M2 1008 (iaE 60 (upd fi i (lowI (row.getD i 0) q)))) (by rw [nI_clamp (by omega)]) ?_
                refine mg_iconst (v := 1) d_Mo_make_143 (by decide) ?_
                refine mg_ireturn d_Mo_make_144 rfl rfl (Nat.le_of_ble_eq_true rfl) (Nat.le_of_ble_eq_true rfl) (hP _ hr _ _ ⟨rfl, ?_, isA_set m2f m2l hi2 (mg_up_s _ _ _), fun k h0 h1 => (mg_up_n _ _ h1).trans (m3 k h0 h1)⟩)
                rw [List.length_set]
                exact (mg_up_n _ _ (by decide)).trans m1
              · refine mg_iload d_Mo_make_131 rfl ?_
                refine mg_iconst (v := 2) d_Mo_make_133 (by decide) ?_
                refine mg_idiv d_Mo_make_134 (by first | assumption | decide) ?_
                refine mg_goto (tgt := 142) d_Mo_make_135 (by decide) ?_
                refine mg_eqi (y := lowI (row.getD i 0) q) (by first | (rw [lowI, if_pos (show q = 0 from (nI_eq (b := 0) (by omega) (by decide)).mp (by first | exact c_119 | exact Decidable.not_not.mp c_119))]) | (rw [lowI, if_neg (fun e => c_119 (by rw [e]; rfl)), if_pos (show q = 1 from (nI_eq (b := 1) (by omega) (by decide)).mp (by first | exact c_128 | exact Decidable.not_not.mp c_128))]) | (rw [lowI, if_neg (fun e => c_119 (by rw [e]; rfl)), if_neg (fun e => c_128 (by rw [e]; rfl))])) ?_
                refine mg_iastore rfl d_Mo_make_142 (by first | assumption | exact mg_up_s _ _ _ | (rw [mg_up_n _ _ (by decide)]; first | assumption | exact mg_up_s _ _ _ | (rw [mg_up_n _ _ (by decide)]; first | assumption | exact mg_up_s _ _ _ | (rw [mg_up_n _ _ (by decide)]; first | assumption | exact mg_up_s _ _ _ | (rw [mg_up_n _ _ (by decide)]; first | assumption | exact mg_up_s _ _ _ | (rw [mg_up_n _ _ (by decide)]; first | assumption | exact mg_up_s _ _ _ | (rw [mg_up_n _ _ (by decide)]; first | assumption | exact mg_up_s _ _ _))))))) hin ?_
                refine mg_eqM (M' := mg_up M2 1008 (iaE 60 (upd fi i (lowI (row.getD i 0) q)))) (by rw [nI_clamp (by omega)]) ?_
                refine mg_iconst (v := 1) d_Mo_make_143 (by decide) ?_
                refine mg_ireturn d_Mo_make_144 rfl rfl (Nat.le_of_ble_eq_true rfl) (Nat.le_of_ble_eq_true rfl) (hP _ hr _ _ ⟨rfl, ?_, isA_set m2f m2l hi2 (mg_up_s _ _ _), fun k h0 h1 => (mg_up_n _ _ h1).trans (m3 k h0 h1)⟩)
                rw [List.length_set]
                exact (mg_up_n _ _ (by decide)).trans m1
            · refine mg_iconst (v := 0) d_Mo_make_122 (by decide) ?_
              refine mg_goto (tgt := 142) d_Mo_make_123 (by decide) ?_
              refine mg_eqi (y := lowI (row.getD i 0) q) (by first | (rw [lowI, if_pos (show q = 0 from (nI_eq (b := 0) (by omega) (by decide)).mp (by first | exact c_119 | exact Decidable.not_not.mp c_119))]) | (rw [lowI, if_neg (fun e => c_119 (by rw [e]; rfl)), if_pos (show q = 1 from (nI_eq (b := 1) (by omega) (by decide)).mp (by first | exact c_128 | exact Decidable.not_not.mp c_128))]) | (rw [lowI, if_neg (fun e => c_119 (by rw [e]; rfl)), if_neg (fun e => c_128 (by rw [e]; rfl))])) ?_
              refine mg_iastore rfl d_Mo_make_142 (by first | assumption | exact mg_up_s _ _ _ | (rw [mg_up_n _ _ (by decide)]; first | assumption | exact mg_up_s _ _ _ | (rw [mg_up_n _ _ (by decide)]; first | assumption | exact mg_up_s _ _ _ | (rw [mg_up_n _ _ (by decide)]; first | assumption | exact mg_up_s _ _ _ | (rw [mg_up_n _ _ (by decide)]; first | assumption | exact mg_up_s _ _ _ | (rw [mg_up_n _ _ (by decide)]; first | assumption | exact mg_up_s _ _ _ | (rw [mg_up_n _ _ (by decide)]; first | assumption | exact mg_up_s _ _ _))))))) hin ?_
              refine mg_eqM (M' := mg_up M2 1008 (iaE 60 (upd fi i (lowI (row.getD i 0) q)))) (by rw [nI_clamp (by omega)]) ?_
              refine mg_iconst (v := 1) d_Mo_make_143 (by decide) ?_
              refine mg_ireturn d_Mo_make_144 rfl rfl (Nat.le_of_ble_eq_true rfl) (Nat.le_of_ble_eq_true rfl) (hP _ hr _ _ ⟨rfl, ?_, isA_set m2f m2l hi2 (mg_up_s _ _ _), fun k h0 h1 => (mg_up_n _ _ h1).trans (m3 k h0 h1)⟩)
              rw [List.length_set]
              exact (mg_up_n _ _ (by decide)).trans m1

set_option maxHeartbeats 4000000 in
set_option maxRecDepth 100000 in
theorem lm_swap {X : mg_X} {M : mg_M} {si : Nat → Int32} {x s : Int64} {row : List Int32} {P : Option Value → mg_M → Prop} {st u4 : Int32} {T5 : Option Value} {r : sR} (hR : mg_R X = { frames := 1, cells := 0, slots := 0, locals := 23 }) (hO : M 1000 = some (moE si x s)) (h26 : si 26 = nI row.length) (hF : isA M 1016 60 row) (hI : ∃ f, M 1008 = some (iaE 60 f)) (h5 : (T5 = none ∨ ∃ z : Int32, T5 = some (.int z))) (hP : ∀ l, .inl l = r → ∀ v M', cpP M si x s l (some (.int 1)) v M' → P v M') (hN : ∀ b, .inr b = r → P (some (.int 0)) M) : ∀ (n i q : Nat), row.length - i < n → i ≤ row.length → q < 2 ^ 30 → swapG row (row.length - 1 - i) i q = r → mg_G X Y_Mo_make (mg_Q X P { frames := 1, cells := 0, slots := 0, locals := 23 }) M 0 0 158 [some (.ref 1000), some (.int st), some (.int (nI q)), some (.int (nI i)), some (.int u4), T5] [] := by
  obtain ⟨ff, f1, f2, f3⟩ := id hF
  intro n
  induction n with
  | zero => intro i q hn; exact absurd hn (by omega)
  | succ n ih =>
    intro i q hn hi hq hr
    rcases h5 with rfl | ⟨u5, rfl⟩
    · refine mg_iload_n d_Mo_make_158 rfl rfl ?_
      refine mg_iconst (v := 1) d_Mo_make_159 (by decide) ?_
      refine mg_iadd d_Mo_make_160 ?_
      first | refine mg_aload_n d_Mo_make_161 rfl rfl ?_ | refine mg_aload_nN d_Mo_make_161 rfl rfl ?_
      refine mg_getfield fl_Mo_55 d_Mo_make_162 (by first | assumption | exact mg_up_s _ _ _ | (rw [mg_up_n _ _ (by decide)]; first | assumption | exact mg_up_s _ _ _ | (rw [mg_up_n _ _ (by decide)]; first | assumption | exact mg_up_s _ _ _ | (rw [mg_up_n _ _ (by decide)]; first | assumption | exact mg_up_s _ _ _ | (rw [mg_up_n _ _ (by decide)]; first | assumption | exact mg_up_s _ _ _ | (rw [mg_up_n _ _ (by decide)]; first | assumption | exact mg_up_s _ _ _ | (rw [mg_up_n _ _ (by decide)]; first | assumption | exact mg_up_s _ _ _))))))) rfl ?_
      refine mg_icmp_ge (tgt := 235) d_Mo_make_165 (by decide) (fun c_165 => ?_) (fun c_165 => ?_)
      · have e : row.length ≤ i + 1 := by
          rw [h26, nI_1] at c_165
          exact (nI_leI (by omega) (by omega)).mp c_165
        rw [show row.length - 1 - i = 0 by omega, swapG] at hr
        refine mg_iconst (v := 0) d_Mo_make_235 (by decide) ?_
        exact mg_ireturn d_Mo_make_236 rfl rfl (Nat.le_of_ble_eq_true rfl) (Nat.le_of_ble_eq_true rfl) (hN _ hr)
      · have hi2 : i + 1 < row.length := by
          rw [h26, nI_1] at c_165
          exact Nat.lt_of_not_le (fun e => c_165 (nI_le e (by omega)))
        have hin : vp_in (nI i) 60 := vp_in_nI (by omega) (by decide)
        have hin2 : vp_in (nI (i + 1)) 60 := vp_in_nI (by omega) (by decide)
        rw [show row.length - 1 - i = (row.length - 1 - (i + 1)) + 1 by omega, swapG] at hr
        first | refine mg_aload_n d_Mo_make_168 rfl rfl ?_ | refine mg_aload_nN d_Mo_make_168 rfl rfl ?_
        refine mg_getfield fl_Mo_59 d_Mo_make_169 (by first | assumption | exact mg_up_s _ _ _ | (rw [mg_up_n _ _ (by decide)]; first | assumption | exact mg_up_s _ _ _ | (rw [mg_up_n _ _ (by decide)]; first | assumption | exact mg_up_s _ _ _ | (rw [mg_up_n _ _ (by decide)]; first | assumption | exact mg_up_s _ _ _ | (rw [mg_up_n _ _ (by decide)]; first | assumption | exact mg_up_s _ _ _ | (rw [mg_up_n _ _ (by decide)]; first | assumption | exact mg_up_s _ _ _ | (rw [mg_up_n _ _ (by decide)]; first | assumption | exact mg_up_s _ _ _))))))) rfl ?_
        refine mg_iload_n d_Mo_make_172 rfl rfl ?_
        refine mg_iaload rfl d_Mo_make_173 (by first | assumption | exact mg_up_s _ _ _ | (rw [mg_up_n _ _ (by decide)]; first | assumption | exact mg_up_s _ _ _ | (rw [mg_up_n _ _ (by decide)]; first | assumption | exact mg_up_s _ _ _ | (rw [mg_up_n _ _ (by decide)]; first | assumption | exact mg_up_s _ _ _ | (rw [mg_up_n _ _ (by decide)]; first | assumption | exact mg_up_s _ _ _ | (rw [mg_up_n _ _ (by decide)]; first | assumption | exact mg_up_s _ _ _ | (rw [mg_up_n _ _ (by decide)]; first | assumption | exact mg_up_s _ _ _))))))) hin ?_
        refine mg_eqi (y := row.getD i 0) (by rw [nI_clamp (by omega)]; exact f3 i (by omega)) ?_
        first | refine mg_aload_n d_Mo_make_174 rfl rfl ?_ | refine mg_aload_nN d_Mo_make_174 rfl rfl ?_
        refine mg_getfield fl_Mo_59 d_Mo_make_175 (by first | assumption | exact mg_up_s _ _ _ | (rw [mg_up_n _ _ (by decide)]; first | assumption | exact mg_up_s _ _ _ | (rw [mg_up_n _ _ (by decide)]; first | assumption | exact mg_up_s _ _ _ | (rw [mg_up_n _ _ (by decide)]; first | assumption | exact mg_up_s _ _ _ | (rw [mg_up_n _ _ (by decide)]; first | assumption | exact mg_up_s _ _ _ | (rw [mg_up_n _ _ (by decide)]; first | assumption | exact mg_up_s _ _ _ | (rw [mg_up_n _ _ (by decide)]; first | assumption | exact mg_up_s _ _ _))))))) rfl ?_
        refine mg_iload_n d_Mo_make_178 rfl rfl ?_
        refine mg_iconst (v := 1) d_Mo_make_179 (by decide) ?_
        refine mg_iadd d_Mo_make_180 ?_
        refine mg_eqi (nI_1 i) ?_
        refine mg_iaload rfl d_Mo_make_181 (by first | assumption | exact mg_up_s _ _ _ | (rw [mg_up_n _ _ (by decide)]; first | assumption | exact mg_up_s _ _ _ | (rw [mg_up_n _ _ (by decide)]; first | assumption | exact mg_up_s _ _ _ | (rw [mg_up_n _ _ (by decide)]; first | assumption | exact mg_up_s _ _ _ | (rw [mg_up_n _ _ (by decide)]; first | assumption | exact mg_up_s _ _ _ | (rw [mg_up_n _ _ (by decide)]; first | assumption | exact mg_up_s _ _ _ | (rw [mg_up_n _ _ (by decide)]; first | assumption | exact mg_up_s _ _ _))))))) hin2 ?_
        refine mg_eqi (y := row.getD (i + 1) 0) (by rw [nI_clamp (by omega)]; exact f3 _ hi2) ?_
        refine mg_icmp_gt (tgt := 188) d_Mo_make_182 (by decide) (fun c_182 => ?_) (fun c_182 => ?_)
        · rw [if_pos (show row.getD (i + 1) 0 < row.getD i 0 from c_182)] at hr
          refine mg_iload_n d_Mo_make_188 rfl rfl ?_
          refine mg_if_ne (tgt := 226) d_Mo_make_189 (by decide) (fun c_189 => ?_) (fun c_189 => ?_)
          · have hq0 : ¬ q = 0 := fun e => c_189 (by rw [e]; rfl)
            rw [if_neg hq0] at hr
            refine mg_iinc (v := nI (q - 1)) d_Mo_make_226 rfl (by rw [← nI_m1 (q - 1), show q - 1 + 1 = q by omega]) (Nat.le_of_ble_eq_true rfl) rfl ?_
            refine mg_iinc (v := nI (i + 1)) d_Mo_make_229 rfl (nI_1 _) (Nat.le_of_ble_eq_true rfl) rfl ?_
            refine mg_goto (tgt := 158) d_Mo_make_232 (by decide) ?_
            exact ih (i + 1) (q - 1) (by omega) (by omega) (by omega) hr
          · have hq0 : q = 0 := (nI_eq (b := 0) (by omega) (by decide)).mp (by first | exact c_189 | exact Decidable.not_not.mp c_189)
            rw [if_pos hq0] at hr
            first | refine mg_aload_n d_Mo_make_192 rfl rfl ?_ | refine mg_aload_nN d_Mo_make_192 rfl rfl ?_
            refine mg_callV (vl_Mo_190 rfl) d_Mo_make_193 (by first | assumption | exact mg_up_s _ _ _ | (rw [mg_up_n _ _ (by decide)]; first | assumption | exact mg_up_s _ _ _ | (rw [mg_up_n _ _ (by decide)]; first | assumption | exact mg_up_s _ _ _ | (rw [mg_up_n _ _ (by decide)]; first | assumption | exact mg_up_s _ _ _ | (rw [mg_up_n _ _ (by decide)]; first | assumption | exact mg_up_s _ _ _ | (rw [mg_up_n _ _ (by decide)]; first | assumption | exact mg_up_s _ _ _ | (rw [mg_up_n _ _ (by decide)]; first | assumption | exact mg_up_s _ _ _))))))) rfl rfl (c_Mo_copy hO h26 ⟨ff, f1, f2, f3⟩ hI) rfl rfl (by rw [hR]; decide) (by rw [hR]; decide) (Nat.le_of_ble_eq_true rfl) ?_
            rintro v M2 ⟨rfl, m1, ⟨fi, m2, m2l, m2f⟩, m3⟩
            have g1 := (m3 1016 (by decide) (by decide)).trans f1
            first | refine mg_aload_n d_Mo_make_196 rfl rfl ?_ | refine mg_aload_nN d_Mo_make_196 rfl rfl ?_
            refine mg_getfield fl_Mo_31 d_Mo_make_197 (by first | assumption | exact mg_up_s _ _ _ | (rw [mg_up_n _ _ (by decide)]; first | assumption | exact mg_up_s _ _ _ | (rw [mg_up_n _ _ (by decide)]; first | assumption | exact mg_up_s _ _ _ | (rw [mg_up_n _ _ (by decide)]; first | assumption | exact mg_up_s _ _ _ | (rw [mg_up_n _ _ (by decide)]; first | assumption | exact mg_up_s _ _ _ | (rw [mg_up_n _ _ (by decide)]; first | assumption | exact mg_up_s _ _ _ | (rw [mg_up_n _ _ (by decide)]; first | assumption | exact mg_up_s _ _ _))))))) rfl ?_
            refine mg_iload_n d_Mo_make_200 rfl rfl ?_
            first | refine mg_aload_n d_Mo_make_201 rfl rfl ?_ | refine mg_aload_nN d_Mo_make_201 rfl rfl ?_
            refine mg_getfield fl_Mo_59 d_Mo_make_202 (by first | assumption | exact mg_up_s _ _ _ | (rw [mg_up_n _ _ (by decide)]; first | assumption | exact mg_up_s _ _ _ | (rw [mg_up_n _ _ (by decide)]; first | assumption | exact mg_up_s _ _ _ | (rw [mg_up_n _ _ (by decide)]; first | assumption | exact mg_up_s _ _ _ | (rw [mg_up_n _ _ (by decide)]; first | assumption | exact mg_up_s _ _ _ | (rw [mg_up_n _ _ (by decide)]; first | assumption | exact mg_up_s _ _ _ | (rw [mg_up_n _ _ (by decide)]; first | assumption | exact mg_up_s _ _ _))))))) rfl ?_
            refine mg_iload_n d_Mo_make_205 rfl rfl ?_
            refine mg_iconst (v := 1) d_Mo_make_206 (by decide) ?_
            refine mg_iadd d_Mo_make_207 ?_
            refine mg_eqi (nI_1 i) ?_
            refine mg_iaload rfl d_Mo_make_208 (by first | assumption | exact mg_up_s _ _ _ | (rw [mg_up_n _ _ (by decide)]; first | assumption | exact mg_up_s _ _ _ | (rw [mg_up_n _ _ (by decide)]; first | assumption | exact mg_up_s _ _ _ | (rw [mg_up_n _ _ (by decide)]; first | assumption | exact mg_up_s _ _ _ | (rw [mg_up_n _ _ (by decide)]; first | assumption | exact mg_up_s _ _ _ | (rw [mg_up_n _ _ (by decide)]; first | assumption | exact mg_up_s _ _ _ | (rw [mg_up_n _ _ (by decide)]; first | assumption | exact mg_up_s _ _ _))))))) hin2 ?_
            refine mg_eqi (y := row.getD (i + 1) 0) (by rw [nI_clamp (by omega)]; exact f3 _ hi2) ?_
            refine mg_iastore rfl d_Mo_make_209 (by first | assumption | exact mg_up_s _ _ _ | (rw [mg_up_n _ _ (by decide)]; first | assumption | exact mg_up_s _ _ _ | (rw [mg_up_n _ _ (by decide)]; first | assumption | exact mg_up_s _ _ _ | (rw [mg_up_n _ _ (by decide)]; first | assumption | exact mg_up_s _ _ _ | (rw [mg_up_n _ _ (by decide)]; first | assumption | exact mg_up_s _ _ _ | (rw [mg_up_n _ _ (by decide)]; first | assumption | exact mg_up_s _ _ _ | (rw [mg_up_n _ _ (by decide)]; first | assumption | exact mg_up_s _ _ _))))))) hin ?_
            refine mg_eqM (M' := mg_up M2 1008 (iaE 60 (upd fi i (row.getD (i + 1) 0)))) (by rw [nI_clamp (by omega)]) ?_
            first | refine mg_aload_n d_Mo_make_210 rfl rfl ?_ | refine mg_aload_nN d_Mo_make_210 rfl rfl ?_
            refine mg_getfield fl_Mo_31 d_Mo_make_211 (by first | assumption | exact mg_up_s _ _ _ | (rw [mg_up_n _ _ (by decide)]; first | assumption | exact mg_up_s _ _ _ | (rw [mg_up_n _ _ (by decide)]; first | assumption | exact mg_up_s _ _ _ | (rw [mg_up_n _ _ (by decide)]; first | assumption | exact mg_up_s _ _ _ | (rw [mg_up_n _ _ (by decide)]; first | assumption | exact mg_up_s _ _ _ | (rw [mg_up_n _ _ (by decide)]; first | assumption | exact mg_up_s _ _ _ | (rw [mg_up_n _ _ (by decide)]; first | assumption | exact mg_up_s _ _ _))))))) rfl ?_
            refine mg_iload_n d_Mo_make_214 rfl rfl ?_
            refine mg_iconst (v := 1) d_Mo_make_215 (by decide) ?_
            refine mg_iadd d_Mo_make_216 ?_
            refine mg_eqi (nI_1 i) ?_
            first | refine mg_aload_n d_Mo_make_217 rfl rfl ?_ | refine mg_aload_nN d_Mo_make_217 rfl rfl ?_
            refine mg_getfield fl_Mo_59 d_Mo_make_218 (by first | assumption | exact mg_up_s _ _ _ | (rw [mg_up_n _ _ (by decide)]; first | assumption | exact mg_up_s _ _ _ | (rw [mg_up_n _ _ (by decide)]; first | assumption | exact mg_up_s _ _ _ | (rw [mg_up_n _ _ (by decide)]; first | assumption | exact mg_up_s _ _ _ | (rw [mg_up_n _ _ (by decide)]; first | assumption | exact mg_up_s _ _ _ | (rw [mg_up_n _ _ (by decide)]; first | assumption | exact mg_up_s _ _ _ | (rw [mg_up_n _ _ (by decide)]; first | assumption | exact mg_up_s _ _ _))))))) rfl ?_
            refine mg_iload_n d_Mo_make_221 rfl rfl ?_
            refine mg_iaload rfl d_Mo_make_222 (by first | assumption | exact mg_up_s _ _ _ | (rw [mg_up_n _ _ (by decide)]; first | assumption | exact mg_up_s _ _ _ | (rw [mg_up_n _ _ (by decide)]; first | assumption | exact mg_up_s _ _ _ | (rw [mg_up_n _ _ (by decide)]; first | assumption | exact mg_up_s _ _ _ | (rw [mg_up_n _ _ (by decide)]; first | assumption | exact mg_up_s _ _ _ | (rw [mg_up_n _ _ (by decide)]; first | assumption | exact mg_up_s _ _ _ | (rw [mg_up_n _ _ (by decide)]; first | assumption | exact mg_up_s _ _ _))))))) hin ?_
            refine mg_eqi (y := row.getD i 0) (by rw [nI_clamp (by omega)]; exact f3 i (by omega)) ?_
            refine mg_iastore rfl d_Mo_make_223 (by first | assumption | exact mg_up_s _ _ _ | (rw [mg_up_n _ _ (by decide)]; first | assumption | exact mg_up_s _ _ _ | (rw [mg_up_n _ _ (by decide)]; first | assumption | exact mg_up_s _ _ _ | (rw [mg_up_n _ _ (by decide)]; first | assumption | exact mg_up_s _ _ _ | (rw [mg_up_n _ _ (by decide)]; first | assumption | exact mg_up_s _ _ _ | (rw [mg_up_n _ _ (by decide)]; first | assumption | exact mg_up_s _ _ _ | (rw [mg_up_n _ _ (by decide)]; first | assumption | exact mg_up_s _ _ _))))))) hin2 ?_
            refine mg_eqM (M' := mg_up (mg_up M2 1008 (iaE 60 (upd fi i (row.getD (i + 1) 0)))) 1008 (iaE 60 (upd (upd fi i (row.getD (i + 1) 0)) (i + 1) (row.getD i 0)))) (by rw [nI_clamp (by omega)]) ?_
            refine mg_iconst (v := 1) d_Mo_make_224 (by decide) ?_
            have s1 : isA (mg_up M2 1008 (iaE 60 (upd fi i (row.getD (i + 1) 0)))) 1008 60 (row.set i (row.getD (i + 1) 0)) := isA_set m2f m2l (by omega) (mg_up_s _ _ _)
            obtain ⟨fj, j1, j2, j3⟩ := s1
            have ej : fj = upd fi i (row.getD (i + 1) 0) := by rw [mg_up_s] at j1; exact (Sum.inl.inj (Prod.mk.inj (Prod.mk.inj (Sum.inl.inj (Option.some.inj j1))).2).2).symm
            subst ej
            refine mg_ireturn d_Mo_make_225 rfl rfl (Nat.le_of_ble_eq_true rfl) (Nat.le_of_ble_eq_true rfl) (hP _ hr _ _ ⟨rfl, ?_, isA_set j3 j2 (by rw [List.length_set]; omega) (mg_up_s _ _ _), fun k h0 h1 => (mg_up_n _ _ h1).trans ((mg_up_n _ _ h1).trans (m3 k h0 h1))⟩)
            rw [List.length_set, List.length_set]
            exact (mg_up_n _ _ (by decide)).trans ((mg_up_n _ _ (by decide)).trans m1)
        · rw [if_neg (show ¬ row.getD (i + 1) 0 < row.getD i 0 from c_182)] at hr
          refine mg_goto (tgt := 229) d_Mo_make_185 (by decide) ?_
          refine mg_iinc (v := nI (i + 1)) d_Mo_make_229 rfl (nI_1 _) (Nat.le_of_ble_eq_true rfl) rfl ?_
          refine mg_goto (tgt := 158) d_Mo_make_232 (by decide) ?_
          exact ih (i + 1) q (by omega) (by omega) hq hr
    · refine mg_iload_n d_Mo_make_158 rfl rfl ?_
      refine mg_iconst (v := 1) d_Mo_make_159 (by decide) ?_
      refine mg_iadd d_Mo_make_160 ?_
      first | refine mg_aload_n d_Mo_make_161 rfl rfl ?_ | refine mg_aload_nN d_Mo_make_161 rfl rfl ?_
      refine mg_getfield fl_Mo_55 d_Mo_make_162 (by first | assumption | exact mg_up_s _ _ _ | (rw [mg_up_n _ _ (by decide)]; first | assumption | exact mg_up_s _ _ _ | (rw [mg_up_n _ _ (by decide)]; first | assumption | exact mg_up_s _ _ _ | (rw [mg_up_n _ _ (by decide)]; first | assumption | exact mg_up_s _ _ _ | (rw [mg_up_n _ _ (by decide)]; first | assumption | exact mg_up_s _ _ _ | (rw [mg_up_n _ _ (by decide)]; first | assumption | exact mg_up_s _ _ _ | (rw [mg_up_n _ _ (by decide)]; first | assumption | exact mg_up_s _ _ _))))))) rfl ?_
      refine mg_icmp_ge (tgt := 235) d_Mo_make_165 (by decide) (fun c_165 => ?_) (fun c_165 => ?_)
      · have e : row.length ≤ i + 1 := by
          rw [h26, nI_1] at c_165
          exact (nI_leI (by omega) (by omega)).mp c_165
        rw [show row.length - 1 - i = 0 by omega, swapG] at hr
        refine mg_iconst (v := 0) d_Mo_make_235 (by decide) ?_
        exact mg_ireturn d_Mo_make_236 rfl rfl (Nat.le_of_ble_eq_true rfl) (Nat.le_of_ble_eq_true rfl) (hN _ hr)
      · have hi2 : i + 1 < row.length := by
          rw [h26, nI_1] at c_165
          exact Nat.lt_of_not_le (fun e => c_165 (nI_le e (by omega)))
        have hin : vp_in (nI i) 60 := vp_in_nI (by omega) (by decide)
        have hin2 : vp_in (nI (i + 1)) 60 := vp_in_nI (by omega) (by decide)
        rw [show row.length - 1 - i = (row.length - 1 - (i + 1)) + 1 by omega, swapG] at hr
        first | refine mg_aload_n d_Mo_make_168 rfl rfl ?_ | refine mg_aload_nN d_Mo_make_168 rfl rfl ?_
        refine mg_getfield fl_Mo_59 d_Mo_make_169 (by first | assumption | exact mg_up_s _ _ _ | (rw [mg_up_n _ _ (by decide)]; first | assumption | exact mg_up_s _ _ _ | (rw [mg_up_n _ _ (by decide)]; first | assumption | exact mg_up_s _ _ _ | (rw [mg_up_n _ _ (by decide)]; first | assumption | exact mg_up_s _ _ _ | (rw [mg_up_n _ _ (by decide)]; first | assumption | exact mg_up_s _ _ _ | (rw [mg_up_n _ _ (by decide)]; first | assumption | exact mg_up_s _ _ _ | (rw [mg_up_n _ _ (by decide)]; first | assumption | exact mg_up_s _ _ _))))))) rfl ?_
        refine mg_iload_n d_Mo_make_172 rfl rfl ?_
        refine mg_iaload rfl d_Mo_make_173 (by first | assumption | exact mg_up_s _ _ _ | (rw [mg_up_n _ _ (by decide)]; first | assumption | exact mg_up_s _ _ _ | (rw [mg_up_n _ _ (by decide)]; first | assumption | exact mg_up_s _ _ _ | (rw [mg_up_n _ _ (by decide)]; first | assumption | exact mg_up_s _ _ _ | (rw [mg_up_n _ _ (by decide)]; first | assumption | exact mg_up_s _ _ _ | (rw [mg_up_n _ _ (by decide)]; first | assumption | exact mg_up_s _ _ _ | (rw [mg_up_n _ _ (by decide)]; first | assumption | exact mg_up_s _ _ _))))))) hin ?_
        refine mg_eqi (y := row.getD i 0) (by rw [nI_clamp (by omega)]; exact f3 i (by omega)) ?_
        first | refine mg_aload_n d_Mo_make_174 rfl rfl ?_ | refine mg_aload_nN d_Mo_make_174 rfl rfl ?_
        refine mg_getfield fl_Mo_59 d_Mo_make_175 (by first | assumption | exact mg_up_s _ _ _ | (rw [mg_up_n _ _ (by decide)]; first | assumption | exact mg_up_s _ _ _ | (rw [mg_up_n _ _ (by decide)]; first | assumption | exact mg_up_s _ _ _ | (rw [mg_up_n _ _ (by decide)]; first | assumption | exact mg_up_s _ _ _ | (rw [mg_up_n _ _ (by decide)]; first | assumption | exact mg_up_s _ _ _ | (rw [mg_up_n _ _ (by decide)]; first | assumption | exact mg_up_s _ _ _ | (rw [mg_up_n _ _ (by decide)]; first | assumption | exact mg_up_s _ _ _))))))) rfl ?_
        refine mg_iload_n d_Mo_make_178 rfl rfl ?_
        refine mg_iconst (v := 1) d_Mo_make_179 (by decide) ?_
        refine mg_iadd d_Mo_make_180 ?_
        refine mg_eqi (nI_1 i) ?_
        refine mg_iaload rfl d_Mo_make_181 (by first | assumption | exact mg_up_s _ _ _ | (rw [mg_up_n _ _ (by decide)]; first | assumption | exact mg_up_s _ _ _ | (rw [mg_up_n _ _ (by decide)]; first | assumption | exact mg_up_s _ _ _ | (rw [mg_up_n _ _ (by decide)]; first | assumption | exact mg_up_s _ _ _ | (rw [mg_up_n _ _ (by decide)]; first | assumption | exact mg_up_s _ _ _ | (rw [mg_up_n _ _ (by decide)]; first | assumption | exact mg_up_s _ _ _ | (rw [mg_up_n _ _ (by decide)]; first | assumption | exact mg_up_s _ _ _))))))) hin2 ?_
        refine mg_eqi (y := row.getD (i + 1) 0) (by rw [nI_clamp (by omega)]; exact f3 _ hi2) ?_
        refine mg_icmp_gt (tgt := 188) d_Mo_make_182 (by decide) (fun c_182 => ?_) (fun c_182 => ?_)
        · rw [if_pos (show row.getD (i + 1) 0 < row.getD i 0 from c_182)] at hr
          refine mg_iload_n d_Mo_make_188 rfl rfl ?_
          refine mg_if_ne (tgt := 226) d_Mo_make_189 (by decide) (fun c_189 => ?_) (fun c_189 => ?_)
          · have hq0 : ¬ q = 0 := fun e => c_189 (by rw [e]; rfl)
            rw [if_neg hq0] at hr
            refine mg_iinc (v := nI (q - 1)) d_Mo_make_226 rfl (by rw [← nI_m1 (q - 1), show q - 1 + 1 = q by omega]) (Nat.le_of_ble_eq_true rfl) rfl ?_
            refine mg_iinc (v := nI (i + 1)) d_Mo_make_229 rfl (nI_1 _) (Nat.le_of_ble_eq_true rfl) rfl ?_
            refine mg_goto (tgt := 158) d_Mo_make_232 (by decide) ?_
            exact ih (i + 1) (q - 1) (by omega) (by omega) (by omega) hr
          · have hq0 : q = 0 := (nI_eq (b := 0) (by omega) (by decide)).mp (by first | exact c_189 | exact Decidable.not_not.mp c_189)
            rw [if_pos hq0] at hr
            first | refine mg_aload_n d_Mo_make_192 rfl rfl ?_ | refine mg_aload_nN d_Mo_make_192 rfl rfl ?_
            refine mg_callV (vl_Mo_190 rfl) d_Mo_make_193 (by first | assumption | exact mg_up_s _ _ _ | (rw [mg_up_n _ _ (by decide)]; first | assumption | exact mg_up_s _ _ _ | (rw [mg_up_n _ _ (by decide)]; first | assumption | exact mg_up_s _ _ _ | (rw [mg_up_n _ _ (by decide)]; first | assumption | exact mg_up_s _ _ _ | (rw [mg_up_n _ _ (by decide)]; first | assumption | exact mg_up_s _ _ _ | (rw [mg_up_n _ _ (by decide)]; first | assumption | exact mg_up_s _ _ _ | (rw [mg_up_n _ _ (by decide)]; first | assumption | exact mg_up_s _ _ _))))))) rfl rfl (c_Mo_copy hO h26 ⟨ff, f1, f2, f3⟩ hI) rfl rfl (by rw [hR]; decide) (by rw [hR]; decide) (Nat.le_of_ble_eq_true rfl) ?_
            rintro v M2 ⟨rfl, m1, ⟨fi, m2, m2l, m2f⟩, m3⟩
            have g1 := (m3 1016 (by decide) (by decide)).trans f1
            first | refine mg_aload_n d_Mo_make_196 rfl rfl ?_ | refine mg_aload_nN d_Mo_make_196 rfl rfl ?_
            refine mg_getfield fl_Mo_31 d_Mo_make_197 (by first | assumption | exact mg_up_s _ _ _ | (rw [mg_up_n _ _ (by decide)]; first | assumption | exact mg_up_s _ _ _ | (rw [mg_up_n _ _ (by decide)]; first | assumption | exact mg_up_s _ _ _ | (rw [mg_up_n _ _ (by decide)]; first | assumption | exact mg_up_s _ _ _ | (rw [mg_up_n _ _ (by decide)]; first | assumption | exact mg_up_s _ _ _ | (rw [mg_up_n _ _ (by decide)]; first | assumption | exact mg_up_s _ _ _ | (rw [mg_up_n _ _ (by decide)]; first | assumption | exact mg_up_s _ _ _))))))) rfl ?_
            refine mg_iload_n d_Mo_make_200 rfl rfl ?_
            first | refine mg_aload_n d_Mo_make_201 rfl rfl ?_ | refine mg_aload_nN d_Mo_make_201 rfl rfl ?_
            refine mg_getfield fl_Mo_59 d_Mo_make_202 (by first | assumption | exact mg_up_s _ _ _ | (rw [mg_up_n _ _ (by decide)]; first | assumption | exact mg_up_s _ _ _ | (rw [mg_up_n _ _ (by decide)]; first | assumption | exact mg_up_s _ _ _ | (rw [mg_up_n _ _ (by decide)]; first | assumption | exact mg_up_s _ _ _ | (rw [mg_up_n _ _ (by decide)]; first | assumption | exact mg_up_s _ _ _ | (rw [mg_up_n _ _ (by decide)]; first | assumption | exact mg_up_s _ _ _ | (rw [mg_up_n _ _ (by decide)]; first | assumption | exact mg_up_s _ _ _))))))) rfl ?_
            refine mg_iload_n d_Mo_make_205 rfl rfl ?_
            refine mg_iconst (v := 1) d_Mo_make_206 (by decide) ?_
            refine mg_iadd d_Mo_make_207 ?_
            refine mg_eqi (nI_1 i) ?_
            refine mg_iaload rfl d_Mo_make_208 (by first | assumption | exact mg_up_s _ _ _ | (rw [mg_up_n _ _ (by decide)]; first | assumption | exact mg_up_s _ _ _ | (rw [mg_up_n _ _ (by decide)]; first | assumption | exact mg_up_s _ _ _ | (rw [mg_up_n _ _ (by decide)]; first | assumption | exact mg_up_s _ _ _ | (rw [mg_up_n _ _ (by decide)]; first | assumption | exact mg_up_s _ _ _ | (rw [mg_up_n _ _ (by decide)]; first | assumption | exact mg_up_s _ _ _ | (rw [mg_up_n _ _ (by decide)]; first | assumption | exact mg_up_s _ _ _))))))) hin2 ?_
            refine mg_eqi (y := row.getD (i + 1) 0) (by rw [nI_clamp (by omega)]; exact f3 _ hi2) ?_
            refine mg_iastore rfl d_Mo_make_209 (by first | assumption | exact mg_up_s _ _ _ | (rw [mg_up_n _ _ (by decide)]; first | assumption | exact mg_up_s _ _ _ | (rw [mg_up_n _ _ (by decide)]; first | assumption | exact mg_up_s _ _ _ | (rw [mg_up_n _ _ (by decide)]; first | assumption | exact mg_up_s _ _ _ | (rw [mg_up_n _ _ (by decide)]; first | assumption | exact mg_up_s _ _ _ | (rw [mg_up_n _ _ (by decide)]; first | assumption | exact mg_up_s _ _ _ | (rw [mg_up_n _ _ (by decide)]; first | assumption | exact mg_up_s _ _ _))))))) hin ?_
            refine mg_eqM (M' := mg_up M2 1008 (iaE 60 (upd fi i (row.getD (i + 1) 0)))) (by rw [nI_clamp (by omega)]) ?_
            first | refine mg_aload_n d_Mo_make_210 rfl rfl ?_ | refine mg_aload_nN d_Mo_make_210 rfl rfl ?_
            refine mg_getfield fl_Mo_31 d_Mo_make_211 (by first | assumption | exact mg_up_s _ _ _ | (rw [mg_up_n _ _ (by decide)]; first | assumption | exact mg_up_s _ _ _ | (rw [mg_up_n _ _ (by decide)]; first | assumption | exact mg_up_s _ _ _ | (rw [mg_up_n _ _ (by decide)]; first | assumption | exact mg_up_s _ _ _ | (rw [mg_up_n _ _ (by decide)]; first | assumption | exact mg_up_s _ _ _ | (rw [mg_up_n _ _ (by decide)]; first | assumption | exact mg_up_s _ _ _ | (rw [mg_up_n _ _ (by decide)]; first | assumption | exact mg_up_s _ _ _))))))) rfl ?_
            refine mg_iload_n d_Mo_make_214 rfl rfl ?_
            refine mg_iconst (v := 1) d_Mo_make_215 (by decide) ?_
            refine mg_iadd d_Mo_make_216 ?_
            refine mg_eqi (nI_1 i) ?_
            first | refine mg_aload_n d_Mo_make_217 rfl rfl ?_ | refine mg_aload_nN d_Mo_make_217 rfl rfl ?_
            refine mg_getfield fl_Mo_59 d_Mo_make_218 (by first | assumption | exact mg_up_s _ _ _ | (rw [mg_up_n _ _ (by decide)]; first | assumption | exact mg_up_s _ _ _ | (rw [mg_up_n _ _ (by decide)]; first | assumption | exact mg_up_s _ _ _ | (rw [mg_up_n _ _ (by decide)]; first | assumption | exact mg_up_s _ _ _ | (rw [mg_up_n _ _ (by decide)]; first | assumption | exact mg_up_s _ _ _ | (rw [mg_up_n _ _ (by decide)]; first | assumption | exact mg_up_s _ _ _ | (rw [mg_up_n _ _ (by decide)]; first | assumption | exact mg_up_s _ _ _))))))) rfl ?_
            refine mg_iload_n d_Mo_make_221 rfl rfl ?_
            refine mg_iaload rfl d_Mo_make_222 (by first | assumption | exact mg_up_s _ _ _ | (rw [mg_up_n _ _ (by decide)]; first | assumption | exact mg_up_s _ _ _ | (rw [mg_up_n _ _ (by decide)]; first | assumption | exact mg_up_s _ _ _ | (rw [mg_up_n _ _ (by decide)]; first | assumption | exact mg_up_s _ _ _ | (rw [mg_up_n _ _ (by decide)]; first | assumption | exact mg_up_s _ _ _ | (rw [mg_up_n _ _ (by decide)]; first | assumption | exact mg_up_s _ _ _ | (rw [mg_up_n _ _ (by decide)]; first | assumption | exact mg_up_s _ _ _))))))) hin ?_
            refine mg_eqi (y := row.getD i 0) (by rw [nI_clamp (by omega)]; exact f3 i (by omega)) ?_
            refine mg_iastore rfl d_Mo_make_223 (by first | assumption | exact mg_up_s _ _ _ | (rw [mg_up_n _ _ (by decide)]; first | assumption | exact mg_up_s _ _ _ | (rw [mg_up_n _ _ (by decide)]; first | assumption | exact mg_up_s _ _ _ | (rw [mg_up_n _ _ (by decide)]; first | assumption | exact mg_up_s _ _ _ | (rw [mg_up_n _ _ (by decide)]; first | assumption | exact mg_up_s _ _ _ | (rw [mg_up_n _ _ (by decide)]; first | assumption | exact mg_up_s _ _ _ | (rw [mg_up_n _ _ (by decide)]; first | assumption | exact mg_up_s _ _ _))))))) hin2 ?_
            refine mg_eqM (M' := mg_up (mg_up M2 1008 (iaE 60 (upd fi i (row.getD (i + 1) 0)))) 1008 (iaE 60 (upd (upd fi i (row.getD (i + 1) 0)) (i + 1) (row.getD i 0)))) (by rw [nI_clamp (by omega)]) ?_
            refine mg_iconst (v := 1) d_Mo_make_224 (by decide) ?_
            have s1 : isA (mg_up M2 1008 (iaE 60 (upd fi i (row.getD (i + 1) 0)))) 1008 60 (row.set i (row.getD (i + 1) 0)) := isA_set m2f m2l (by omega) (mg_up_s _ _ _)
            obtain ⟨fj, j1, j2, j3⟩ := s1
            have ej : fj = upd fi i (row.getD (i + 1) 0) := by rw [mg_up_s] at j1; exact (Sum.inl.inj (Prod.mk.inj (Prod.mk.inj (Sum.inl.inj (Option.some.inj j1))).2).2).symm
            subst ej
            refine mg_ireturn d_Mo_make_225 rfl rfl (Nat.le_of_ble_eq_true rfl) (Nat.le_of_ble_eq_true rfl) (hP _ hr _ _ ⟨rfl, ?_, isA_set j3 j2 (by rw [List.length_set]; omega) (mg_up_s _ _ _), fun k h0 h1 => (mg_up_n _ _ h1).trans ((mg_up_n _ _ h1).trans (m3 k h0 h1))⟩)
            rw [List.length_set, List.length_set]
            exact (mg_up_n _ _ (by decide)).trans ((mg_up_n _ _ (by decide)).trans m1)
        · rw [if_neg (show ¬ row.getD (i + 1) 0 < row.getD i 0 from c_182)] at hr
          refine mg_goto (tgt := 229) d_Mo_make_185 (by decide) ?_
          refine mg_iinc (v := nI (i + 1)) d_Mo_make_229 rfl (nI_1 _) (Nat.le_of_ble_eq_true rfl) rfl ?_
          refine mg_goto (tgt := 158) d_Mo_make_232 (by decide) ?_
          exact ih (i + 1) q (by omega) (by omega) hq hr

set_option maxHeartbeats 4000000 in
set_option maxRecDepth 100000 in
theorem c_Mo_make {M : mg_M} {si : Nat → Int32} {x s : Int64} {row : List Int32} {w : Nat} (hO : M 1000 = some (moE si x s)) (h26 : si 26 = nI row.length) (hF : isA M 1016 60 row) (hI : ∃ f, M 1008 = some (iaE 60 f)) (hnn : nnL row) (hw : w < 2 ^ 30) : mg_Ct Y_Mo_make { frames := 1, cells := 0, slots := 0, locals := 23 } [.ref 1000, .int (nI w)] M (mkQ M si x s (stepF row w)) := by
  refine mg_met [some (.ref 1000), some (.int (nI w)), none, none, none, none] (by decide +kernel) rfl (Nat.le_of_ble_eq_true rfl) ?_
  intro X hR _
  refine mg_iload_n d_Mo_make_0 rfl rfl ?_
  refine mg_istore_n d_Mo_make_1 rfl (Nat.le_of_ble_eq_true rfl) rfl ?_
  refine mg_bipush (v := 8) d_Mo_make_2 (by decide) ?_
  refine mg_istore_n d_Mo_make_4 rfl (Nat.le_of_ble_eq_true rfl) rfl ?_
  obtain ⟨r, hr⟩ : ∃ r, stepF row w = r := ⟨_, rfl⟩
  rw [hr]
  have hX : ∀ l, r = some l → ∀ v M', cpP M si x s l (some (.int 1)) v M' → mkQ M si x s r v M' := fun l e v M' h => by subst e; exact h
  refine mk_d (N := 8) (q := w) (st := nI w) hR hO h26 hF hI (by decide) (by decide) hw (Or.inl rfl) (fun e => hX _ (by rw [← hr, stepF, dropG, if_pos e])) (fun z1 e1 => ?_)
  refine mk_d (N := 4) (st := nI w) hR hO h26 hF hI (by decide) (by decide) (by omega) (Or.inr ⟨_, rfl⟩) (fun e => hX _ (by rw [← hr, stepF, dropG, if_neg (by omega), dropG, if_pos e])) (fun z2 e2 => ?_)
  refine mk_d (N := 2) (st := nI w) hR hO h26 hF hI (by decide) (by decide) (by omega) (Or.inr ⟨_, rfl⟩) (fun e => hX _ (by rw [← hr, stepF, dropG, if_neg (by omega), dropG, if_neg (by omega), dropG, if_pos e])) (fun z3 e3 => ?_)
  refine mk_d (N := 1) (st := nI w) hR hO h26 hF hI (by decide) (by decide) (by omega) (Or.inr ⟨_, rfl⟩) (fun e => hX _ (by rw [← hr, stepF, dropG, if_neg (by omega), dropG, if_neg (by omega), dropG, if_neg (by omega), dropG, if_pos e])) (fun z4 e4 => ?_)
  rw [stepF, dropG, if_neg (by omega), dropG, if_neg (by omega), dropG, if_neg (by omega), dropG, if_neg (by omega), dropG] at hr
  have hq : w - (row.length + 1 - 8) - (row.length + 1 - 4) - (row.length + 1 - 2) - (row.length + 1 - 1) < 2 ^ 30 := by omega
  generalize w - (row.length + 1 - 8) - (row.length + 1 - 4) - (row.length + 1 - 2) - (row.length + 1 - 1) = q at hq hr ⊢
  dsimp only at hr
  refine mg_iload_n d_Mo_make_5 rfl rfl ?_
  refine mg_if_le (tgt := 53) d_Mo_make_6 (by decide) (fun _ => ?_) (fun e => absurd (by decide) e)
  refine mg_iconst (v := 0) d_Mo_make_53 (by decide) ?_
  refine mg_istore_n d_Mo_make_54 rfl (Nat.le_of_ble_eq_true rfl) rfl ?_
  refine lm_low (r := lowG row row.length 0 q) hR hO h26 hF hI hnn (fun l e => hX l (by rw [← hr, ← e])) (fun b u4 T5 e hb h5 => ?_) (row.length + 1) 0 q z4 none (by omega) (by omega) hq (Or.inl rfl) (by rw [Nat.sub_zero])
  rw [← e] at hr
  dsimp only at hr
  refine mg_iconst (v := 0) d_Mo_make_156 (by decide) ?_
  refine mg_istore_n d_Mo_make_157 rfl (Nat.le_of_ble_eq_true rfl) (by rcases h5 with rfl | ⟨u5, rfl⟩ <;> rfl) ?_
  exact lm_swap (r := swapG row (row.length - 1) 0 b) hR hO h26 hF hI h5 (fun l e => hX l (by rw [← hr, ← e])) (fun b e => by rw [← e] at hr; subst hr; exact ⟨rfl, rfl⟩) (row.length + 1) 0 b (by omega) (by omega) hb (by rw [Nat.sub_zero])

