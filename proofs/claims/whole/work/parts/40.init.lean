/-! A NEW OBJECT -/
theorem gA_0' (b : Nat) : gA b 0 = fun _ => none := by funext k; simp [gA]

set_option maxHeartbeats 4000000 in
set_option maxRecDepth 100000 in
theorem c_PS_init {M : mg_M} (o1 : M 1 = some (.inr (0, [.null, .int 0, .null, .int 0, .null, .int 0, .int 0, .null, .null, .int 0, .int 0, .null, .null, .null, .null, .null, .long 0]))) (h1 : ∀ k, k ≠ 1 → M k = none) : mg_Ct Y_PS_init { frames := 3, cells := 18, slots := 532, locals := 52 } [.ref 1] M (fun v M' => v = none ∧ isPS M' [] [] [] 0 none false [] [] [] 0 ∧ smC M M') := by
  refine mg_met [some (.ref 1)] (by decide +kernel) rfl (Nat.le_of_ble_eq_true rfl) ?_
  intro X hR _
  have fr : ∀ q, 2 ≤ q → M q = none := fun q hq => h1 q (by omega)
  have z0 : M 0 = M 0 := rfl
  refine mg_aload_n d_PS_init_0 rfl rfl ?_
  refine mg_objInit ol_PS_1 oi_inst oi_code d_PS_init_1 (by rw [hR]; decide) (by rw [hR]; exact Nat.le_of_ble_eq_true rfl) ?_
  refine mg_aload_n d_PS_init_4 rfl rfl ?_
  refine mg_bipush (v := 20) d_PS_init_5 (by decide) ?_
  refine mg_anewarr (t := 1) (nn := 20) (h := 2) rfl al_PS_9 (by decide) d_PS_init_7 (by omega) (fr 2 (by omega)) (by decide) (by decide) (by decide) (by rw [hR]; exact Nat.le_of_ble_eq_true rfl) (by rw [hR]; exact Nat.le_of_ble_eq_true rfl) ?_
  refine mg_putfield fw_PS_11 d_PS_init_10 (by rw [mg_up_n _ _ (by omega)]; exact o1) (Nat.le_of_ble_eq_true rfl) (fun _ => ⟨rfl, rfl⟩) ?_
  obtain ⟨N1, hN⟩ : ∃ Z, Z = mg_up (mg_up M 2 (arE 1 20 (fun _ => none))) 1 (.inr (0, [.ref 2, .int 0, .null, .int 0, .null, .int 0, .int 0, .null, .null, .int 0, .int 0, .null, .null, .null, .null, .null, .long 0])) := ⟨_, rfl⟩
  refine mg_eqM (M' := N1) hN.symm ?_
  have g2 : N1 2 = some (arE 1 20 (fun _ => none)) := by rw [hN, mg_up_n _ _ (by omega), mg_up_s]
  replace fr : ∀ q, 3 ≤ q → N1 q = none := fun q hq => by rw [hN, mg_up_n _ _ (by omega), mg_up_n _ _ (by omega)]; exact fr q (by omega)
  replace z0 : N1 0 = M 0 := by rw [hN, mg_up_n _ _ (by omega), mg_up_n _ _ (by omega)]; first | done | exact z0
  replace o1 : N1 1 = some (.inr (0, [.ref 2, .int 0, .null, .int 0, .null, .int 0, .int 0, .null, .null, .int 0, .int 0, .null, .null, .null, .null, .null, .long 0])) := by rw [hN, mg_up_s]
  clear hN
  refine mg_aload_n d_PS_init_13 rfl rfl ?_
  refine mg_bipush (v := 10) d_PS_init_14 (by decide) ?_
  refine mg_anewarr (t := 2) (nn := 10) (h := 3) rfl al_PS_15 (by decide) d_PS_init_16 (by omega) (fr 3 (by omega)) (by decide) (by decide) (by decide) (by rw [hR]; exact Nat.le_of_ble_eq_true rfl) (by rw [hR]; exact Nat.le_of_ble_eq_true rfl) ?_
  refine mg_putfield fw_PS_17 d_PS_init_19 (by rw [mg_up_n _ _ (by omega)]; exact o1) (Nat.le_of_ble_eq_true rfl) (fun _ => ⟨rfl, rfl⟩) ?_
  obtain ⟨N2, hN⟩ : ∃ Z, Z = mg_up (mg_up N1 3 (arE 2 10 (fun _ => none))) 1 (.inr (0, [.ref 2, .int 0, .ref 3, .int 0, .null, .int 0, .int 0, .null, .null, .int 0, .int 0, .null, .null, .null, .null, .null, .long 0])) := ⟨_, rfl⟩
  refine mg_eqM (M' := N2) hN.symm ?_
  have g2 : N2 2 = some (arE 1 20 (fun _ => none)) := by rw [hN, mg_up_n _ _ (by omega), mg_up_n _ _ (by omega)]; exact g2
  have g3 : N2 3 = some (arE 2 10 (fun _ => none)) := by rw [hN, mg_up_n _ _ (by omega), mg_up_s]
  replace fr : ∀ q, 4 ≤ q → N2 q = none := fun q hq => by rw [hN, mg_up_n _ _ (by omega), mg_up_n _ _ (by omega)]; exact fr q (by omega)
  replace z0 : N2 0 = M 0 := by rw [hN, mg_up_n _ _ (by omega), mg_up_n _ _ (by omega)]; first | done | exact z0
  replace o1 : N2 1 = some (.inr (0, [.ref 2, .int 0, .ref 3, .int 0, .null, .int 0, .int 0, .null, .null, .int 0, .int 0, .null, .null, .null, .null, .null, .long 0])) := by rw [hN, mg_up_s]
  clear hN
  refine mg_aload_n d_PS_init_22 rfl rfl ?_
  refine mg_new (h := 4) nl_PS_21 d_PS_init_23 (by omega) (fr 4 (by omega)) (mg_nr_cl rfl) (by rw [hR]; exact Nat.le_of_ble_eq_true rfl) (by rw [hR]; exact Nat.le_of_ble_eq_true rfl) ?_
  refine mg_dup d_PS_init_26 rfl ?_
  refine mg_callI (il_PS_23 rfl) d_PS_init_27 (c_In_init (h := 4) (mg_up_s _ _ _) (by rw [mg_up_n _ _ (by omega)]; exact fr _ (by omega))) rfl rfl (by rw [hR]; decide) (by rw [hR]; exact ⟨Nat.le_of_ble_eq_true rfl, Nat.le_of_ble_eq_true rfl⟩) (Nat.le_of_ble_eq_true rfl) ?_
  rintro v K4 ⟨rfl, i4, s1⟩
  have kk : ∀ q, (q < 4 ∨ 6 ≤ q) → K4 q = N2 q := fun q hq => by rw [s1 q (by omega), mg_up_n _ _ (by omega)]
  refine mg_putfield fw_PS_24 d_PS_init_30 (by rw [kk 1 (by omega)]; exact o1) (Nat.le_of_ble_eq_true rfl) (fun _ => ⟨rfl, rfl⟩) ?_
  obtain ⟨N3, hN⟩ : ∃ Z, Z = mg_up K4 1 (.inr (0, [.ref 2, .int 0, .ref 3, .int 0, .null, .int 0, .int 0, .null, .null, .int 0, .int 0, .ref 4, .null, .null, .null, .null, .long 0])) := ⟨_, rfl⟩
  refine mg_eqM (M' := N3) hN.symm ?_
  have kn : ∀ q, q ≠ 1 → (q < 4 ∨ 6 ≤ q) → N3 q = N2 q := fun q h1 h2 => by rw [hN, mg_up_n _ _ h1]; exact kk q h2
  replace i4 : isI N3 4 [] := by rw [hN]; exact i4.up (by omega) (by omega)
  replace g2 := (kn 2 (by omega) (by omega)).trans g2
  replace g3 := (kn 3 (by omega) (by omega)).trans g3
  replace fr : ∀ q, 6 ≤ q → N3 q = none := fun q hq => by rw [kn q (by omega) (by omega)]; exact fr q (by omega)
  replace z0 : N3 0 = M 0 := (kn 0 (by omega) (by omega)).trans z0
  replace o1 : N3 1 = some (.inr (0, [.ref 2, .int 0, .ref 3, .int 0, .null, .int 0, .int 0, .null, .null, .int 0, .int 0, .ref 4, .null, .null, .null, .null, .long 0])) := by rw [hN, mg_up_s]
  clear hN kk s1
  refine mg_aload_n d_PS_init_33 rfl rfl ?_
  refine mg_new (h := 6) nl_PS_21 d_PS_init_34 (by omega) (fr 6 (by omega)) (mg_nr_cl rfl) (by rw [hR]; exact Nat.le_of_ble_eq_true rfl) (by rw [hR]; exact Nat.le_of_ble_eq_true rfl) ?_
  refine mg_dup d_PS_init_37 rfl ?_
  refine mg_callI (il_PS_23 rfl) d_PS_init_38 (c_In_init (h := 6) (mg_up_s _ _ _) (by rw [mg_up_n _ _ (by omega)]; exact fr _ (by omega))) rfl rfl (by rw [hR]; decide) (by rw [hR]; exact ⟨Nat.le_of_ble_eq_true rfl, Nat.le_of_ble_eq_true rfl⟩) (Nat.le_of_ble_eq_true rfl) ?_
  rintro v K6 ⟨rfl, i6, s1⟩
  have kk : ∀ q, (q < 6 ∨ 8 ≤ q) → K6 q = N3 q := fun q hq => by rw [s1 q (by omega), mg_up_n _ _ (by omega)]
  refine mg_putfield fw_PS_28 d_PS_init_41 (by rw [kk 1 (by omega)]; exact o1) (Nat.le_of_ble_eq_true rfl) (fun _ => ⟨rfl, rfl⟩) ?_
  obtain ⟨N4, hN⟩ : ∃ Z, Z = mg_up K6 1 (.inr (0, [.ref 2, .int 0, .ref 3, .int 0, .null, .int 0, .int 0, .null, .null, .int 0, .int 0, .ref 4, .ref 6, .null, .null, .null, .long 0])) := ⟨_, rfl⟩
  refine mg_eqM (M' := N4) hN.symm ?_
  have kn : ∀ q, q ≠ 1 → (q < 6 ∨ 8 ≤ q) → N4 q = N3 q := fun q h1 h2 => by rw [hN, mg_up_n _ _ h1]; exact kk q h2
  replace i4 := i4.eq (M' := N4) (kn _ (by omega) (by omega)) (kn _ (by omega) (by omega))
  replace i6 : isI N4 6 [] := by rw [hN]; exact i6.up (by omega) (by omega)
  replace g2 := (kn 2 (by omega) (by omega)).trans g2
  replace g3 := (kn 3 (by omega) (by omega)).trans g3
  replace fr : ∀ q, 8 ≤ q → N4 q = none := fun q hq => by rw [kn q (by omega) (by omega)]; exact fr q (by omega)
  replace z0 : N4 0 = M 0 := (kn 0 (by omega) (by omega)).trans z0
  replace o1 : N4 1 = some (.inr (0, [.ref 2, .int 0, .ref 3, .int 0, .null, .int 0, .int 0, .null, .null, .int 0, .int 0, .ref 4, .ref 6, .null, .null, .null, .long 0])) := by rw [hN, mg_up_s]
  clear hN kk s1
  refine mg_aload_n d_PS_init_44 rfl rfl ?_
  refine mg_new (h := 8) nl_PS_21 d_PS_init_45 (by omega) (fr 8 (by omega)) (mg_nr_cl rfl) (by rw [hR]; exact Nat.le_of_ble_eq_true rfl) (by rw [hR]; exact Nat.le_of_ble_eq_true rfl) ?_
  refine mg_dup d_PS_init_48 rfl ?_
  refine mg_callI (il_PS_23 rfl) d_PS_init_49 (c_In_init (h := 8) (mg_up_s _ _ _) (by rw [mg_up_n _ _ (by omega)]; exact fr _ (by omega))) rfl rfl (by rw [hR]; decide) (by rw [hR]; exact ⟨Nat.le_of_ble_eq_true rfl, Nat.le_of_ble_eq_true rfl⟩) (Nat.le_of_ble_eq_true rfl) ?_
  rintro v K8 ⟨rfl, i8, s1⟩
  have kk : ∀ q, (q < 8 ∨ 10 ≤ q) → K8 q = N4 q := fun q hq => by rw [s1 q (by omega), mg_up_n _ _ (by omega)]
  refine mg_putfield fw_PS_31 d_PS_init_52 (by rw [kk 1 (by omega)]; exact o1) (Nat.le_of_ble_eq_true rfl) (fun _ => ⟨rfl, rfl⟩) ?_
  obtain ⟨N5, hN⟩ : ∃ Z, Z = mg_up K8 1 (.inr (0, [.ref 2, .int 0, .ref 3, .int 0, .null, .int 0, .int 0, .null, .null, .int 0, .int 0, .ref 4, .ref 6, .ref 8, .null, .null, .long 0])) := ⟨_, rfl⟩
  refine mg_eqM (M' := N5) hN.symm ?_
  have kn : ∀ q, q ≠ 1 → (q < 8 ∨ 10 ≤ q) → N5 q = N4 q := fun q h1 h2 => by rw [hN, mg_up_n _ _ h1]; exact kk q h2
  replace i4 := i4.eq (M' := N5) (kn _ (by omega) (by omega)) (kn _ (by omega) (by omega))
  replace i6 := i6.eq (M' := N5) (kn _ (by omega) (by omega)) (kn _ (by omega) (by omega))
  replace i8 : isI N5 8 [] := by rw [hN]; exact i8.up (by omega) (by omega)
  replace g2 := (kn 2 (by omega) (by omega)).trans g2
  replace g3 := (kn 3 (by omega) (by omega)).trans g3
  replace fr : ∀ q, 10 ≤ q → N5 q = none := fun q hq => by rw [kn q (by omega) (by omega)]; exact fr q (by omega)
  replace z0 : N5 0 = M 0 := (kn 0 (by omega) (by omega)).trans z0
  replace o1 : N5 1 = some (.inr (0, [.ref 2, .int 0, .ref 3, .int 0, .null, .int 0, .int 0, .null, .null, .int 0, .int 0, .ref 4, .ref 6, .ref 8, .null, .null, .long 0])) := by rw [hN, mg_up_s]
  clear hN kk s1
  refine mg_aload_n d_PS_init_55 rfl rfl ?_
  refine mg_new (h := 10) nl_PS_21 d_PS_init_56 (by omega) (fr 10 (by omega)) (mg_nr_cl rfl) (by rw [hR]; exact Nat.le_of_ble_eq_true rfl) (by rw [hR]; exact Nat.le_of_ble_eq_true rfl) ?_
  refine mg_dup d_PS_init_59 rfl ?_
  refine mg_callI (il_PS_23 rfl) d_PS_init_60 (c_In_init (h := 10) (mg_up_s _ _ _) (by rw [mg_up_n _ _ (by omega)]; exact fr _ (by omega))) rfl rfl (by rw [hR]; decide) (by rw [hR]; exact ⟨Nat.le_of_ble_eq_true rfl, Nat.le_of_ble_eq_true rfl⟩) (Nat.le_of_ble_eq_true rfl) ?_
  rintro v K10 ⟨rfl, i10, s1⟩
  have kk : ∀ q, (q < 10 ∨ 12 ≤ q) → K10 q = N5 q := fun q hq => by rw [s1 q (by omega), mg_up_n _ _ (by omega)]
  refine mg_putfield fw_PS_34 d_PS_init_63 (by rw [kk 1 (by omega)]; exact o1) (Nat.le_of_ble_eq_true rfl) (fun _ => ⟨rfl, rfl⟩) ?_
  obtain ⟨N6, hN⟩ : ∃ Z, Z = mg_up K10 1 (.inr (0, [.ref 2, .int 0, .ref 3, .int 0, .null, .int 0, .int 0, .null, .null, .int 0, .int 0, .ref 4, .ref 6, .ref 8, .ref 10, .null, .long 0])) := ⟨_, rfl⟩
  refine mg_eqM (M' := N6) hN.symm ?_
  have kn : ∀ q, q ≠ 1 → (q < 10 ∨ 12 ≤ q) → N6 q = N5 q := fun q h1 h2 => by rw [hN, mg_up_n _ _ h1]; exact kk q h2
  replace i4 := i4.eq (M' := N6) (kn _ (by omega) (by omega)) (kn _ (by omega) (by omega))
  replace i6 := i6.eq (M' := N6) (kn _ (by omega) (by omega)) (kn _ (by omega) (by omega))
  replace i8 := i8.eq (M' := N6) (kn _ (by omega) (by omega)) (kn _ (by omega) (by omega))
  replace i10 : isI N6 10 [] := by rw [hN]; exact i10.up (by omega) (by omega)
  replace g2 := (kn 2 (by omega) (by omega)).trans g2
  replace g3 := (kn 3 (by omega) (by omega)).trans g3
  replace fr : ∀ q, 12 ≤ q → N6 q = none := fun q hq => by rw [kn q (by omega) (by omega)]; exact fr q (by omega)
  replace z0 : N6 0 = M 0 := (kn 0 (by omega) (by omega)).trans z0
  replace o1 : N6 1 = some (.inr (0, [.ref 2, .int 0, .ref 3, .int 0, .null, .int 0, .int 0, .null, .null, .int 0, .int 0, .ref 4, .ref 6, .ref 8, .ref 10, .null, .long 0])) := by rw [hN, mg_up_s]
  clear hN kk s1
  refine mg_aload_n d_PS_init_66 rfl rfl ?_
  refine mg_new (h := 12) nl_PS_37 d_PS_init_67 (by omega) (fr 12 (by omega)) (mg_nr_cl rfl) (by rw [hR]; exact Nat.le_of_ble_eq_true rfl) (by rw [hR]; exact Nat.le_of_ble_eq_true rfl) ?_
  refine mg_dup d_PS_init_70 rfl ?_
  refine mg_callI (il_PS_39 rfl) d_PS_init_71 (c_Dr_init (d := 12) (mg_up_s _ _ _) (by rw [mg_up_n _ _ (by omega)]; exact fr _ (by omega)) (by rw [mg_up_n _ _ (by omega)]; exact fr _ (by omega)) (by rw [mg_up_n _ _ (by omega)]; exact fr _ (by omega)) (by rw [mg_up_n _ _ (by omega)]; exact fr _ (by omega)) (by rw [mg_up_n _ _ (by omega)]; exact fr _ (by omega)) (by rw [mg_up_n _ _ (by omega)]; exact fr _ (by omega)) (by rw [mg_up_n _ _ (by omega)]; exact fr _ (by omega))) rfl rfl (by rw [hR]; decide) (by rw [hR]; exact ⟨Nat.le_of_ble_eq_true rfl, Nat.le_of_ble_eq_true rfl⟩) (Nat.le_of_ble_eq_true rfl) ?_
  rintro v K12 ⟨rfl, d12, s1⟩
  have kk : ∀ q, (q < 12 ∨ 20 ≤ q) → K12 q = N6 q := fun q hq => by rw [s1 q (by omega), mg_up_n _ _ (by omega)]
  refine mg_putfield fw_PS_40 d_PS_init_74 (by rw [kk 1 (by omega)]; exact o1) (Nat.le_of_ble_eq_true rfl) (fun _ => ⟨rfl, rfl⟩) ?_
  obtain ⟨N7, hN⟩ : ∃ Z, Z = mg_up K12 1 (.inr (0, [.ref 2, .int 0, .ref 3, .int 0, .null, .int 0, .int 0, .null, .null, .int 0, .int 0, .ref 4, .ref 6, .ref 8, .ref 10, .ref 12, .long 0])) := ⟨_, rfl⟩
  refine mg_eqM (M' := N7) hN.symm ?_
  have kn : ∀ q, q ≠ 1 → (q < 12 ∨ 20 ≤ q) → N7 q = N6 q := fun q h1 h2 => by rw [hN, mg_up_n _ _ h1]; exact kk q h2
  replace i4 := i4.eq (M' := N7) (kn _ (by omega) (by omega)) (kn _ (by omega) (by omega))
  replace i6 := i6.eq (M' := N7) (kn _ (by omega) (by omega)) (kn _ (by omega) (by omega))
  replace i8 := i8.eq (M' := N7) (kn _ (by omega) (by omega)) (kn _ (by omega) (by omega))
  replace i10 := i10.eq (M' := N7) (kn _ (by omega) (by omega)) (kn _ (by omega) (by omega))
  replace g2 := (kn 2 (by omega) (by omega)).trans g2
  replace g3 := (kn 3 (by omega) (by omega)).trans g3
  replace fr : ∀ q, 20 ≤ q → N7 q = none := fun q hq => by rw [kn q (by omega) (by omega)]; exact fr q (by omega)
  replace z0 : N7 0 = M 0 := (kn 0 (by omega) (by omega)).trans z0
  replace o1 : N7 1 = some (.inr (0, [.ref 2, .int 0, .ref 3, .int 0, .null, .int 0, .int 0, .null, .null, .int 0, .int 0, .ref 4, .ref 6, .ref 8, .ref 10, .ref 12, .long 0])) := by rw [hN, mg_up_s]
  replace d12 : isD N7 12 (0, [], 0) ([], [], false, 0, fun _ => 0) := by rw [hN]; exact d12.up (by omega)
  refine mg_return d_PS_init_77 rfl (Nat.le_of_ble_eq_true rfl) (Nat.le_of_ble_eq_true rfl) ⟨rfl, ⟨?_, ?_, ?_, fun i g hg => by simp at hg, fun i g hg => by simp at hg, fun i g hg => by simp at hg, i4, i6, i8, ⟨[], i10⟩, ⟨_, _, d12⟩, ⟨fun k h1 h2 => fr k (by omega), fun k h1 h2 => fr k (by omega), fun k h1 h2 => fr k (by simp at h1; omega)⟩, 10000, Nat.le_refl _, fun k hk => fr k (by omega)⟩, fun k hk => ?_⟩
  · rw [o1]; simp [nI_0, foG, foP, foV, kpV, bI]
  · rw [g2]; show _ = some (arE 1 20 (gA 100 0)); rw [gA_0']
  · rw [g3]; show _ = some (arE 2 10 (gA 150 0)); rw [gA_0']
  · rcases hk with hk | hk
    · have : k = 0 := by omega
      subst this; exact z0
    · rw [fr k (by omega), h1 k (by omega)]

