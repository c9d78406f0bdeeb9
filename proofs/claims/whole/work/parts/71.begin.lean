/-! THE LAW'S BEGINNING -/
set_option maxHeartbeats 4000000 in
set_option maxRecDepth 100000 in
theorem law_body {X : mg_X} {L : Nat} {xs : Nat → Int32} (hSc : mg_Sc X L xs) (hL : L ≤ 3072) : mg_G X Y_La_law (mg_QL X) (fun _ => none) 0 0 0 [some (.ref 0), none, none, none] [] := by
  refine mg_new (h := 1) nl_La_7 d_La_law_0 (by decide) rfl (mg_nr_cl rfl) (by rw [hSc.R]; exact Nat.le_of_ble_eq_true rfl) (by rw [hSc.R]; exact Nat.le_of_ble_eq_true rfl) ?_
  refine mg_dup d_La_law_3 rfl ?_
  refine mg_callI (b := 1) (As := []) (rest := [.ref 1]) (il_La_9 rfl) d_La_law_4 (c_PS_init (mg_up_s _ _ _) (fun k hk => by rw [mg_up_n _ _ hk])) rfl rfl (by rw [hSc.R]; exact ⟨Nat.le_of_ble_eq_true rfl, Nat.le_of_ble_eq_true rfl⟩) (by rw [hSc.R]; exact ⟨Nat.le_of_ble_eq_true rfl, Nat.le_of_ble_eq_true rfl⟩) (Nat.le_of_ble_eq_true rfl) ?_
  rintro v M1 ⟨rfl, h1, s1⟩
  have z1 : ∀ q, 1000 ≤ q → q < 10000 → M1 q = none := fun q a b => by rw [s1 q (Or.inr ⟨a, b⟩), mg_up_n _ _ (by omega)]
  refine mg_astore_n d_La_law_7 rfl (by decide) rfl ?_
  refine mg_new (h := 1000) nl_La_10 d_La_law_8 (by decide) (z1 1000 (by omega) (by omega)) (mg_nr_cl rfl) (by rw [hSc.R]; exact Nat.le_of_ble_eq_true rfl) (by rw [hSc.R]; exact Nat.le_of_ble_eq_true rfl) ?_
  refine mg_dup d_La_law_11 rfl ?_
  refine mg_callI (b := 1000) (As := []) (rest := [.ref 1000]) (il_La_12 rfl) d_La_law_12 (c_Mo_init (mg_up_s _ _ _) (fun q a b => by rw [mg_up_n _ _ (by omega)]; exact z1 q (by omega) b)) rfl rfl (by rw [hSc.R]; exact ⟨Nat.le_of_ble_eq_true rfl, Nat.le_of_ble_eq_true rfl⟩) (by rw [hSc.R]; exact ⟨Nat.le_of_ble_eq_true rfl, Nat.le_of_ble_eq_true rfl⟩) (Nat.le_of_ble_eq_true rfl) ?_
  rintro v M2 ⟨rfl, h2, s2⟩
  have h3 : isPS M2 [] [] [] 0 none false [] [] [] 0 := h1.frM (Nat.zero_le _) (Nat.zero_le _) (Nat.zero_le _) (fun q hq => by rw [s2 q (by omega), mg_up_n _ _ (by omega)])
  refine mg_astore_n d_La_law_15 rfl (by decide) rfl ?_
  refine mg_iconst (v := nI (6 * 0)) d_La_law_16 (by decide) ?_
  refine mg_istore_n d_La_law_17 rfl (by decide) rfl ?_
  exact law_loop hSc hL (L + 1) 0 _ _ M2 ([], [], [], 0, none, false, [], [], [], 0) (by omega) (by omega) (Nat.le_of_ble_eq_true rfl) (Nat.le_of_ble_eq_true rfl) h3 h2 Inv.nil
/-! THE WORLD AT THE START -/
set_option maxHeartbeats 4000000 in
theorem law_world {s : State} {b : Addr} (hts : ∀ w ∈ lw_tbl, w.before #[Value.ref b] s = true) : ∃ (D : va_G) (gT : Nat → Nat), mg_K D gT s := by
  have hG : ∀ w ∈ mg_GT, w.before #[Value.ref b] s = true := fun w hw => hts w (List.mem_filter.mp hw).1
  obtain ⟨c0, i0, k0⟩ := u_known (C := "PropertyShrink") (T := FT_PS) (N := 17) (n := 17) hG iw_PS (hts (.instantiable "PropertyShrink" 17) (by decide +kernel))
  obtain ⟨c1, i1, k1⟩ := u_known (C := "PropertyShrink$Ints") (T := FT_In) (N := 2) (n := 2) hG iw_In (hts (.instantiable "PropertyShrink$Ints" 2) (by decide +kernel))
  obtain ⟨c2, i2, k2⟩ := u_known (C := "PropertyShrink$Draws") (T := FT_Dr) (N := 8) (n := 8) hG iw_Dr (hts (.instantiable "PropertyShrink$Draws" 8) (by decide +kernel))
  obtain ⟨c3, i3, k3⟩ := u_known (C := "PropertyShrink$IntRange") (T := FT_IR) (N := 3) (n := 3) hG iw_IR (hts (.instantiable "PropertyShrink$IntRange" 3) (by decide +kernel))
  obtain ⟨c4, i4, k4⟩ := u_known (C := "PropertyShrink$ListOf") (T := FT_LO) (N := 3) (n := 3) hG iw_LO (hts (.instantiable "PropertyShrink$ListOf" 3) (by decide +kernel))
  obtain ⟨c5, i5, k5⟩ := u_known (C := "PropertyShrink$PairOf") (T := FT_PO) (N := 3) (n := 3) hG iw_PO (hts (.instantiable "PropertyShrink$PairOf" 3) (by decide +kernel))
  obtain ⟨c6, i6, k6⟩ := u_known (C := "PropertyShrink$OneOf") (T := FT_OO) (N := 3) (n := 3) hG iw_OO (hts (.instantiable "PropertyShrink$OneOf" 3) (by decide +kernel))
  obtain ⟨c7, i7, k7⟩ := u_known (C := "PropertyShrink$KeepOf") (T := FT_KO) (N := 3) (n := 3) hG iw_KO (hts (.instantiable "PropertyShrink$KeepOf" 3) (by decide +kernel))
  obtain ⟨c8, i8, k8⟩ := u_known (C := "PropertyShrink$AddTo") (T := FT_AT) (N := 3) (n := 3) hG iw_AT (hts (.instantiable "PropertyShrink$AddTo" 3) (by decide +kernel))
  obtain ⟨c9, i9, k9⟩ := u_known (C := "PropertyShrink$Property") (T := FT_Pr) (N := 3) (n := 3) hG iw_Pr (hts (.instantiable "PropertyShrink$Property" 3) (by decide +kernel))
  obtain ⟨c10, i10, k10⟩ := u_known (C := "PropertyShrink$Kept") (T := FT_Kp) (N := 4) (n := 4) hG iw_Kp (hts (.instantiable "PropertyShrink$Kept" 4) (by decide +kernel))
  obtain ⟨c11, i11, k11⟩ := u_known (C := "PropertyShrinkModel") (T := FT_Mo) (N := 43) (n := 43) hG iw_Mo (hts (.instantiable "PropertyShrinkModel" 43) (by decide +kernel))
  obtain ⟨cA, kA, comp, hf, hk, hkd⟩ := Cond.arrayClass_spec (hts (.arrayClass .int) (by decide +kernel))
  have ao0 := hts (.arrayOver (.object "PropertyShrink$Generator")) (by decide +kernel)
  obtain ⟨p0, a0, q0, f0, -, g0, kd0, e0⟩ := Cond.arrayOver_spec ao0
  have ao1 := hts (.arrayOver (.object "PropertyShrink$Property")) (by decide +kernel)
  obtain ⟨p1, a1, q1, f1, -, g1, kd1, e1⟩ := Cond.arrayOver_spec ao1
  refine ⟨(fun k => [c0, c1, c2, c3, c4, c5, c6, c7, c8, c9, c10, c11].getD k c0, fun k => [i0, i1, i2, i3, i4, i5, i6, i7, i8, i9, i10, i11].getD k i0), fun t => [cA, a0, a1].getD t cA, ?_, ?_, ?_, ?_⟩
  · intro c q hq
    match c, hq with
    | 0, hq => cases hq; exact k0
    | 1, hq => cases hq; exact k1
    | 2, hq => cases hq; exact k2
    | 3, hq => cases hq; exact k3
    | 4, hq => cases hq; exact k4
    | 5, hq => cases hq; exact k5
    | 6, hq => cases hq; exact k6
    | 7, hq => cases hq; exact k7
    | 8, hq => cases hq; exact k8
    | 9, hq => cases hq; exact k9
    | 10, hq => cases hq; exact k10
    | 11, hq => cases hq; exact k11
    | c + 12, hq => simp [mg_cl] at hq
  · intro t ty ht
    match t, ht with
    | 0, ht => cases ht; exact ⟨fun n z => ⟨fun k h => (by cases h), kA, hk, comp, hkd⟩, hf⟩
    | 1, ht => cases ht; exact ⟨fun n z => ⟨fun k h => (by cases h), q0, g0, p0, kd0⟩, q0, p0, g0, kd0, f0, e0⟩
    | 2, ht => cases ht; exact ⟨fun n z => ⟨fun k h => (by cases h), q1, g1, p1, kd1⟩, q1, p1, g1, kd1, f1, e1⟩
    | t + 3, ht => simp [mg_at] at ht
  · intro w hw
    have h2 := mg_NW_ok w hw
    refine va_Nw.of ?_ (hts w (mg_NW_in w hw))
    cases w <;> first | (simp [mg_isN] at h2; done) | rfl
  · intro C hC
    rcases List.mem_cons.mp hC with rfl | hC
    · exact va_AO.of ao0
    · rw [List.mem_singleton] at hC
      subst hC
      exact va_AO.of ao1
