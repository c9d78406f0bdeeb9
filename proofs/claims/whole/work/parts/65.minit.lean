/-! THE REFERENCE: a new object -/
def moZ (q : Nat) : Nat := ([20, 20, 20, 20, 10, 10, 10, 60, 60, 60, 60, 20, 20, 20, 20, 60, 200, 200, 200, 12000, 60, 60] : List Nat).getD (q - 1001) 0
def moI (k : Nat) : Int32 := if k = 26 then -1 else 0

set_option maxHeartbeats 4000000 in
set_option maxRecDepth 100000 in
theorem c_Mo_init {M : mg_M} (o1 : M 1000 = some (.inr (11, [.int 0, .int 0, .int 0, .null, .null, .null, .null, .null, .null, .null, .int 0, .int 0, .int 0, .int 0, .long 0, .int 0, .null, .null, .null, .null, .int 0, .null, .null, .null, .null, .int 0, .int 0, .int 0, .int 0, .int 0, .int 0, .int 0, .null, .null, .null, .null, .null, .int 0, .null, .null, .int 0, .int 0, .long 0]))) (fr : ∀ q, 1001 ≤ q → q < 10000 → M q = none) : mg_Ct Y_Mo_init { frames := 1, cells := 22, slots := 13210, locals := 12 } [.ref 1000] M (fun v M' => v = none ∧ isMo M' [] [] [] 0 none false [] [] [] 0 ∧ sm 1000 1023 M M') := by
  refine mg_met [some (.ref 1000)] (by decide +kernel) rfl (Nat.le_of_ble_eq_true rfl) ?_
  intro X hR _
  have F : ∀ q, 1001 ≤ q → q < 1001 → M q = some (iaE (moZ q) (fun _ => 0)) := fun q h1 h2 => absurd h2 (by omega)
  have sM : sm 1000 1023 M M := sm.rf
  refine mg_aload_n d_Mo_init_0 rfl rfl ?_
  refine mg_objInit ol_Mo_1 oi_inst oi_code d_Mo_init_1 (by rw [hR]; decide) (by rw [hR]; exact Nat.le_of_ble_eq_true rfl) ?_
  refine mg_aload_n d_Mo_init_4 rfl rfl ?_
  refine mg_bipush (v := 20) d_Mo_init_5 (by decide) ?_
  refine mg_newarr (t := 0) (nn := 20) (h := 1001) rfl ac_int d_Mo_init_7 (by decide) (fr 1001 (by decide) (by decide)) (by decide) (by decide) (by decide) (by rw [hR]; exact Nat.le_of_ble_eq_true rfl) (by rw [hR]; exact Nat.le_of_ble_eq_true rfl) ?_
  refine mg_putfield fw_Mo_7 d_Mo_init_9 (by rw [mg_up_n _ _ (by decide)]; exact o1) (Nat.le_of_ble_eq_true rfl) (fun _ => ⟨rfl, rfl⟩) ?_
  obtain ⟨N1, hN⟩ : ∃ Z, Z = mg_up (mg_up M 1001 (iaE 20 (fun _ => 0))) 1000 (.inr (11, [.int 0, .int 0, .int 0, .ref 1001, .null, .null, .null, .null, .null, .null, .int 0, .int 0, .int 0, .int 0, .long 0, .int 0, .null, .null, .null, .null, .int 0, .null, .null, .null, .null, .int 0, .int 0, .int 0, .int 0, .int 0, .int 0, .int 0, .null, .null, .null, .null, .null, .int 0, .null, .null, .int 0, .int 0, .long 0])) := ⟨_, rfl⟩
  refine mg_eqM (M' := N1) hN.symm ?_
  replace F : ∀ q, 1001 ≤ q → q < 1002 → N1 q = some (iaE (moZ q) (fun _ => 0)) := fun q h1 h2 => by
    by_cases e : q = 1001
    · subst e; rw [hN, mg_up_n _ _ (by decide), mg_up_s]; rfl
    · rw [hN, mg_up_n _ _ (by omega), mg_up_n _ _ e]; exact F q h1 (by omega)
  replace fr : ∀ q, 1002 ≤ q → q < 10000 → N1 q = none := fun q h1 h2 => by rw [hN, mg_up_n _ _ (by omega), mg_up_n _ _ (by omega)]; exact fr q (by omega) h2
  replace sM : sm 1000 1023 M N1 := by rw [hN]; exact (sM.up (by decide) (by decide)).up (by decide) (by decide)
  replace o1 : N1 1000 = some (.inr (11, [.int 0, .int 0, .int 0, .ref 1001, .null, .null, .null, .null, .null, .null, .int 0, .int 0, .int 0, .int 0, .long 0, .int 0, .null, .null, .null, .null, .int 0, .null, .null, .null, .null, .int 0, .int 0, .int 0, .int 0, .int 0, .int 0, .int 0, .null, .null, .null, .null, .null, .int 0, .null, .null, .int 0, .int 0, .long 0])) := by rw [hN, mg_up_s]
  clear hN
  refine mg_aload_n d_Mo_init_12 rfl rfl ?_
  refine mg_bipush (v := 20) d_Mo_init_13 (by decide) ?_
  refine mg_newarr (t := 0) (nn := 20) (h := 1002) rfl ac_int d_Mo_init_15 (by decide) (fr 1002 (by decide) (by decide)) (by decide) (by decide) (by decide) (by rw [hR]; exact Nat.le_of_ble_eq_true rfl) (by rw [hR]; exact Nat.le_of_ble_eq_true rfl) ?_
  refine mg_putfield fw_Mo_13 d_Mo_init_17 (by rw [mg_up_n _ _ (by decide)]; exact o1) (Nat.le_of_ble_eq_true rfl) (fun _ => ⟨rfl, rfl⟩) ?_
  obtain ⟨N2, hN⟩ : ∃ Z, Z = mg_up (mg_up N1 1002 (iaE 20 (fun _ => 0))) 1000 (.inr (11, [.int 0, .int 0, .int 0, .ref 1001, .ref 1002, .null, .null, .null, .null, .null, .int 0, .int 0, .int 0, .int 0, .long 0, .int 0, .null, .null, .null, .null, .int 0, .null, .null, .null, .null, .int 0, .int 0, .int 0, .int 0, .int 0, .int 0, .int 0, .null, .null, .null, .null, .null, .int 0, .null, .null, .int 0, .int 0, .long 0])) := ⟨_, rfl⟩
  refine mg_eqM (M' := N2) hN.symm ?_
  replace F : ∀ q, 1001 ≤ q → q < 1003 → N2 q = some (iaE (moZ q) (fun _ => 0)) := fun q h1 h2 => by
    by_cases e : q = 1002
    · subst e; rw [hN, mg_up_n _ _ (by decide), mg_up_s]; rfl
    · rw [hN, mg_up_n _ _ (by omega), mg_up_n _ _ e]; exact F q h1 (by omega)
  replace fr : ∀ q, 1003 ≤ q → q < 10000 → N2 q = none := fun q h1 h2 => by rw [hN, mg_up_n _ _ (by omega), mg_up_n _ _ (by omega)]; exact fr q (by omega) h2
  replace sM : sm 1000 1023 M N2 := by rw [hN]; exact (sM.up (by decide) (by decide)).up (by decide) (by decide)
  replace o1 : N2 1000 = some (.inr (11, [.int 0, .int 0, .int 0, .ref 1001, .ref 1002, .null, .null, .null, .null, .null, .int 0, .int 0, .int 0, .int 0, .long 0, .int 0, .null, .null, .null, .null, .int 0, .null, .null, .null, .null, .int 0, .int 0, .int 0, .int 0, .int 0, .int 0, .int 0, .null, .null, .null, .null, .null, .int 0, .null, .null, .int 0, .int 0, .long 0])) := by rw [hN, mg_up_s]
  clear hN
  refine mg_aload_n d_Mo_init_20 rfl rfl ?_
  refine mg_bipush (v := 20) d_Mo_init_21 (by decide) ?_
  refine mg_newarr (t := 0) (nn := 20) (h := 1003) rfl ac_int d_Mo_init_23 (by decide) (fr 1003 (by decide) (by decide)) (by decide) (by decide) (by decide) (by rw [hR]; exact Nat.le_of_ble_eq_true rfl) (by rw [hR]; exact Nat.le_of_ble_eq_true rfl) ?_
  refine mg_putfield fw_Mo_16 d_Mo_init_25 (by rw [mg_up_n _ _ (by decide)]; exact o1) (Nat.le_of_ble_eq_true rfl) (fun _ => ⟨rfl, rfl⟩) ?_
  obtain ⟨N3, hN⟩ : ∃ Z, Z = mg_up (mg_up N2 1003 (iaE 20 (fun _ => 0))) 1000 (.inr (11, [.int 0, .int 0, .int 0, .ref 1001, .ref 1002, .ref 1003, .null, .null, .null, .null, .int 0, .int 0, .int 0, .int 0, .long 0, .int 0, .null, .null, .null, .null, .int 0, .null, .null, .null, .null, .int 0, .int 0, .int 0, .int 0, .int 0, .int 0, .int 0, .null, .null, .null, .null, .null, .int 0, .null, .null, .int 0, .int 0, .long 0])) := ⟨_, rfl⟩
  refine mg_eqM (M' := N3) hN.symm ?_
  replace F : ∀ q, 1001 ≤ q → q < 1004 → N3 q = some (iaE (moZ q) (fun _ => 0)) := fun q h1 h2 => by
    by_cases e : q = 1003
    · subst e; rw [hN, mg_up_n _ _ (by decide), mg_up_s]; rfl
    · rw [hN, mg_up_n _ _ (by omega), mg_up_n _ _ e]; exact F q h1 (by omega)
  replace fr : ∀ q, 1004 ≤ q → q < 10000 → N3 q = none := fun q h1 h2 => by rw [hN, mg_up_n _ _ (by omega), mg_up_n _ _ (by omega)]; exact fr q (by omega) h2
  replace sM : sm 1000 1023 M N3 := by rw [hN]; exact (sM.up (by decide) (by decide)).up (by decide) (by decide)
  replace o1 : N3 1000 = some (.inr (11, [.int 0, .int 0, .int 0, .ref 1001, .ref 1002, .ref 1003, .null, .null, .null, .null, .int 0, .int 0, .int 0, .int 0, .long 0, .int 0, .null, .null, .null, .null, .int 0, .null, .null, .null, .null, .int 0, .int 0, .int 0, .int 0, .int 0, .int 0, .int 0, .null, .null, .null, .null, .null, .int 0, .null, .null, .int 0, .int 0, .long 0])) := by rw [hN, mg_up_s]
  clear hN
  refine mg_aload_n d_Mo_init_28 rfl rfl ?_
  refine mg_bipush (v := 20) d_Mo_init_29 (by decide) ?_
  refine mg_newarr (t := 0) (nn := 20) (h := 1004) rfl ac_int d_Mo_init_31 (by decide) (fr 1004 (by decide) (by decide)) (by decide) (by decide) (by decide) (by rw [hR]; exact Nat.le_of_ble_eq_true rfl) (by rw [hR]; exact Nat.le_of_ble_eq_true rfl) ?_
  refine mg_putfield fw_Mo_19 d_Mo_init_33 (by rw [mg_up_n _ _ (by decide)]; exact o1) (Nat.le_of_ble_eq_true rfl) (fun _ => ⟨rfl, rfl⟩) ?_
  obtain ⟨N4, hN⟩ : ∃ Z, Z = mg_up (mg_up N3 1004 (iaE 20 (fun _ => 0))) 1000 (.inr (11, [.int 0, .int 0, .int 0, .ref 1001, .ref 1002, .ref 1003, .ref 1004, .null, .null, .null, .int 0, .int 0, .int 0, .int 0, .long 0, .int 0, .null, .null, .null, .null, .int 0, .null, .null, .null, .null, .int 0, .int 0, .int 0, .int 0, .int 0, .int 0, .int 0, .null, .null, .null, .null, .null, .int 0, .null, .null, .int 0, .int 0, .long 0])) := ⟨_, rfl⟩
  refine mg_eqM (M' := N4) hN.symm ?_
  replace F : ∀ q, 1001 ≤ q → q < 1005 → N4 q = some (iaE (moZ q) (fun _ => 0)) := fun q h1 h2 => by
    by_cases e : q = 1004
    · subst e; rw [hN, mg_up_n _ _ (by decide), mg_up_s]; rfl
    · rw [hN, mg_up_n _ _ (by omega), mg_up_n _ _ e]; exact F q h1 (by omega)
  replace fr : ∀ q, 1005 ≤ q → q < 10000 → N4 q = none := fun q h1 h2 => by rw [hN, mg_up_n _ _ (by omega), mg_up_n _ _ (by omega)]; exact fr q (by omega) h2
  replace sM : sm 1000 1023 M N4 := by rw [hN]; exact (sM.up (by decide) (by decide)).up (by decide) (by decide)
  replace o1 : N4 1000 = some (.inr (11, [.int 0, .int 0, .int 0, .ref 1001, .ref 1002, .ref 1003, .ref 1004, .null, .null, .null, .int 0, .int 0, .int 0, .int 0, .long 0, .int 0, .null, .null, .null, .null, .int 0, .null, .null, .null, .null, .int 0, .int 0, .int 0, .int 0, .int 0, .int 0, .int 0, .null, .null, .null, .null, .null, .int 0, .null, .null, .int 0, .int 0, .long 0])) := by rw [hN, mg_up_s]
  clear hN
  refine mg_aload_n d_Mo_init_36 rfl rfl ?_
  refine mg_bipush (v := 10) d_Mo_init_37 (by decide) ?_
  refine mg_newarr (t := 0) (nn := 10) (h := 1005) rfl ac_int d_Mo_init_39 (by decide) (fr 1005 (by decide) (by decide)) (by decide) (by decide) (by decide) (by rw [hR]; exact Nat.le_of_ble_eq_true rfl) (by rw [hR]; exact Nat.le_of_ble_eq_true rfl) ?_
  refine mg_putfield fw_Mo_22 d_Mo_init_41 (by rw [mg_up_n _ _ (by decide)]; exact o1) (Nat.le_of_ble_eq_true rfl) (fun _ => ⟨rfl, rfl⟩) ?_
  obtain ⟨N5, hN⟩ : ∃ Z, Z = mg_up (mg_up N4 1005 (iaE 10 (fun _ => 0))) 1000 (.inr (11, [.int 0, .int 0, .int 0, .ref 1001, .ref 1002, .ref 1003, .ref 1004, .ref 1005, .null, .null, .int 0, .int 0, .int 0, .int 0, .long 0, .int 0, .null, .null, .null, .null, .int 0, .null, .null, .null, .null, .int 0, .int 0, .int 0, .int 0, .int 0, .int 0, .int 0, .null, .null, .null, .null, .null, .int 0, .null, .null, .int 0, .int 0, .long 0])) := ⟨_, rfl⟩
  refine mg_eqM (M' := N5) hN.symm ?_
  replace F : ∀ q, 1001 ≤ q → q < 1006 → N5 q = some (iaE (moZ q) (fun _ => 0)) := fun q h1 h2 => by
    by_cases e : q = 1005
    · subst e; rw [hN, mg_up_n _ _ (by decide), mg_up_s]; rfl
    · rw [hN, mg_up_n _ _ (by omega), mg_up_n _ _ e]; exact F q h1 (by omega)
  replace fr : ∀ q, 1006 ≤ q → q < 10000 → N5 q = none := fun q h1 h2 => by rw [hN, mg_up_n _ _ (by omega), mg_up_n _ _ (by omega)]; exact fr q (by omega) h2
  replace sM : sm 1000 1023 M N5 := by rw [hN]; exact (sM.up (by decide) (by decide)).up (by decide) (by decide)
  replace o1 : N5 1000 = some (.inr (11, [.int 0, .int 0, .int 0, .ref 1001, .ref 1002, .ref 1003, .ref 1004, .ref 1005, .null, .null, .int 0, .int 0, .int 0, .int 0, .long 0, .int 0, .null, .null, .null, .null, .int 0, .null, .null, .null, .null, .int 0, .int 0, .int 0, .int 0, .int 0, .int 0, .int 0, .null, .null, .null, .null, .null, .int 0, .null, .null, .int 0, .int 0, .long 0])) := by rw [hN, mg_up_s]
  clear hN
  refine mg_aload_n d_Mo_init_44 rfl rfl ?_
  refine mg_bipush (v := 10) d_Mo_init_45 (by decide) ?_
  refine mg_newarr (t := 0) (nn := 10) (h := 1006) rfl ac_int d_Mo_init_47 (by decide) (fr 1006 (by decide) (by decide)) (by decide) (by decide) (by decide) (by rw [hR]; exact Nat.le_of_ble_eq_true rfl) (by rw [hR]; exact Nat.le_of_ble_eq_true rfl) ?_
  refine mg_putfield fw_Mo_25 d_Mo_init_49 (by rw [mg_up_n _ _ (by decide)]; exact o1) (Nat.le_of_ble_eq_true rfl) (fun _ => ⟨rfl, rfl⟩) ?_
  obtain ⟨N6, hN⟩ : ∃ Z, Z = mg_up (mg_up N5 1006 (iaE 10 (fun _ => 0))) 1000 (.inr (11, [.int 0, .int 0, .int 0, .ref 1001, .ref 1002, .ref 1003, .ref 1004, .ref 1005, .ref 1006, .null, .int 0, .int 0, .int 0, .int 0, .long 0, .int 0, .null, .null, .null, .null, .int 0, .null, .null, .null, .null, .int 0, .int 0, .int 0, .int 0, .int 0, .int 0, .int 0, .null, .null, .null, .null, .null, .int 0, .null, .null, .int 0, .int 0, .long 0])) := ⟨_, rfl⟩
  refine mg_eqM (M' := N6) hN.symm ?_
  replace F : ∀ q, 1001 ≤ q → q < 1007 → N6 q = some (iaE (moZ q) (fun _ => 0)) := fun q h1 h2 => by
    by_cases e : q = 1006
    · subst e; rw [hN, mg_up_n _ _ (by decide), mg_up_s]; rfl
    · rw [hN, mg_up_n _ _ (by omega), mg_up_n _ _ e]; exact F q h1 (by omega)
  replace fr : ∀ q, 1007 ≤ q → q < 10000 → N6 q = none := fun q h1 h2 => by rw [hN, mg_up_n _ _ (by omega), mg_up_n _ _ (by omega)]; exact fr q (by omega) h2
  replace sM : sm 1000 1023 M N6 := by rw [hN]; exact (sM.up (by decide) (by decide)).up (by decide) (by decide)
  replace o1 : N6 1000 = some (.inr (11, [.int 0, .int 0, .int 0, .ref 1001, .ref 1002, .ref 1003, .ref 1004, .ref 1005, .ref 1006, .null, .int 0, .int 0, .int 0, .int 0, .long 0, .int 0, .null, .null, .null, .null, .int 0, .null, .null, .null, .null, .int 0, .int 0, .int 0, .int 0, .int 0, .int 0, .int 0, .null, .null, .null, .null, .null, .int 0, .null, .null, .int 0, .int 0, .long 0])) := by rw [hN, mg_up_s]
  clear hN
  refine mg_aload_n d_Mo_init_52 rfl rfl ?_
  refine mg_bipush (v := 10) d_Mo_init_53 (by decide) ?_
  refine mg_newarr (t := 0) (nn := 10) (h := 1007) rfl ac_int d_Mo_init_55 (by decide) (fr 1007 (by decide) (by decide)) (by decide) (by decide) (by decide) (by rw [hR]; exact Nat.le_of_ble_eq_true rfl) (by rw [hR]; exact Nat.le_of_ble_eq_true rfl) ?_
  refine mg_putfield fw_Mo_28 d_Mo_init_57 (by rw [mg_up_n _ _ (by decide)]; exact o1) (Nat.le_of_ble_eq_true rfl) (fun _ => ⟨rfl, rfl⟩) ?_
  obtain ⟨N7, hN⟩ : ∃ Z, Z = mg_up (mg_up N6 1007 (iaE 10 (fun _ => 0))) 1000 (.inr (11, [.int 0, .int 0, .int 0, .ref 1001, .ref 1002, .ref 1003, .ref 1004, .ref 1005, .ref 1006, .ref 1007, .int 0, .int 0, .int 0, .int 0, .long 0, .int 0, .null, .null, .null, .null, .int 0, .null, .null, .null, .null, .int 0, .int 0, .int 0, .int 0, .int 0, .int 0, .int 0, .null, .null, .null, .null, .null, .int 0, .null, .null, .int 0, .int 0, .long 0])) := ⟨_, rfl⟩
  refine mg_eqM (M' := N7) hN.symm ?_
  replace F : ∀ q, 1001 ≤ q → q < 1008 → N7 q = some (iaE (moZ q) (fun _ => 0)) := fun q h1 h2 => by
    by_cases e : q = 1007
    · subst e; rw [hN, mg_up_n _ _ (by decide), mg_up_s]; rfl
    · rw [hN, mg_up_n _ _ (by omega), mg_up_n _ _ e]; exact F q h1 (by omega)
  replace fr : ∀ q, 1008 ≤ q → q < 10000 → N7 q = none := fun q h1 h2 => by rw [hN, mg_up_n _ _ (by omega), mg_up_n _ _ (by omega)]; exact fr q (by omega) h2
  replace sM : sm 1000 1023 M N7 := by rw [hN]; exact (sM.up (by decide) (by decide)).up (by decide) (by decide)
  replace o1 : N7 1000 = some (.inr (11, [.int 0, .int 0, .int 0, .ref 1001, .ref 1002, .ref 1003, .ref 1004, .ref 1005, .ref 1006, .ref 1007, .int 0, .int 0, .int 0, .int 0, .long 0, .int 0, .null, .null, .null, .null, .int 0, .null, .null, .null, .null, .int 0, .int 0, .int 0, .int 0, .int 0, .int 0, .int 0, .null, .null, .null, .null, .null, .int 0, .null, .null, .int 0, .int 0, .long 0])) := by rw [hN, mg_up_s]
  clear hN
  refine mg_aload_n d_Mo_init_60 rfl rfl ?_
  refine mg_bipush (v := 60) d_Mo_init_61 (by decide) ?_
  refine mg_newarr (t := 0) (nn := 60) (h := 1008) rfl ac_int d_Mo_init_63 (by decide) (fr 1008 (by decide) (by decide)) (by decide) (by decide) (by decide) (by rw [hR]; exact Nat.le_of_ble_eq_true rfl) (by rw [hR]; exact Nat.le_of_ble_eq_true rfl) ?_
  refine mg_putfield fw_Mo_31 d_Mo_init_65 (by rw [mg_up_n _ _ (by decide)]; exact o1) (Nat.le_of_ble_eq_true rfl) (fun _ => ⟨rfl, rfl⟩) ?_
  obtain ⟨N8, hN⟩ : ∃ Z, Z = mg_up (mg_up N7 1008 (iaE 60 (fun _ => 0))) 1000 (.inr (11, [.int 0, .int 0, .int 0, .ref 1001, .ref 1002, .ref 1003, .ref 1004, .ref 1005, .ref 1006, .ref 1007, .int 0, .int 0, .int 0, .int 0, .long 0, .int 0, .ref 1008, .null, .null, .null, .int 0, .null, .null, .null, .null, .int 0, .int 0, .int 0, .int 0, .int 0, .int 0, .int 0, .null, .null, .null, .null, .null, .int 0, .null, .null, .int 0, .int 0, .long 0])) := ⟨_, rfl⟩
  refine mg_eqM (M' := N8) hN.symm ?_
  replace F : ∀ q, 1001 ≤ q → q < 1009 → N8 q = some (iaE (moZ q) (fun _ => 0)) := fun q h1 h2 => by
    by_cases e : q = 1008
    · subst e; rw [hN, mg_up_n _ _ (by decide), mg_up_s]; rfl
    · rw [hN, mg_up_n _ _ (by omega), mg_up_n _ _ e]; exact F q h1 (by omega)
  replace fr : ∀ q, 1009 ≤ q → q < 10000 → N8 q = none := fun q h1 h2 => by rw [hN, mg_up_n _ _ (by omega), mg_up_n _ _ (by omega)]; exact fr q (by omega) h2
  replace sM : sm 1000 1023 M N8 := by rw [hN]; exact (sM.up (by decide) (by decide)).up (by decide) (by decide)
  replace o1 : N8 1000 = some (.inr (11, [.int 0, .int 0, .int 0, .ref 1001, .ref 1002, .ref 1003, .ref 1004, .ref 1005, .ref 1006, .ref 1007, .int 0, .int 0, .int 0, .int 0, .long 0, .int 0, .ref 1008, .null, .null, .null, .int 0, .null, .null, .null, .null, .int 0, .int 0, .int 0, .int 0, .int 0, .int 0, .int 0, .null, .null, .null, .null, .null, .int 0, .null, .null, .int 0, .int 0, .long 0])) := by rw [hN, mg_up_s]
  clear hN
  refine mg_aload_n d_Mo_init_68 rfl rfl ?_
  refine mg_bipush (v := 60) d_Mo_init_69 (by decide) ?_
  refine mg_newarr (t := 0) (nn := 60) (h := 1009) rfl ac_int d_Mo_init_71 (by decide) (fr 1009 (by decide) (by decide)) (by decide) (by decide) (by decide) (by rw [hR]; exact Nat.le_of_ble_eq_true rfl) (by rw [hR]; exact Nat.le_of_ble_eq_true rfl) ?_
  refine mg_putfield fw_Mo_34 d_Mo_init_73 (by rw [mg_up_n _ _ (by decide)]; exact o1) (Nat.le_of_ble_eq_true rfl) (fun _ => ⟨rfl, rfl⟩) ?_
  obtain ⟨N9, hN⟩ : ∃ Z, Z = mg_up (mg_up N8 1009 (iaE 60 (fun _ => 0))) 1000 (.inr (11, [.int 0, .int 0, .int 0, .ref 1001, .ref 1002, .ref 1003, .ref 1004, .ref 1005, .ref 1006, .ref 1007, .int 0, .int 0, .int 0, .int 0, .long 0, .int 0, .ref 1008, .ref 1009, .null, .null, .int 0, .null, .null, .null, .null, .int 0, .int 0, .int 0, .int 0, .int 0, .int 0, .int 0, .null, .null, .null, .null, .null, .int 0, .null, .null, .int 0, .int 0, .long 0])) := ⟨_, rfl⟩
  refine mg_eqM (M' := N9) hN.symm ?_
  replace F : ∀ q, 1001 ≤ q → q < 1010 → N9 q = some (iaE (moZ q) (fun _ => 0)) := fun q h1 h2 => by
    by_cases e : q = 1009
    · subst e; rw [hN, mg_up_n _ _ (by decide), mg_up_s]; rfl
    · rw [hN, mg_up_n _ _ (by omega), mg_up_n _ _ e]; exact F q h1 (by omega)
  replace fr : ∀ q, 1010 ≤ q → q < 10000 → N9 q = none := fun q h1 h2 => by rw [hN, mg_up_n _ _ (by omega), mg_up_n _ _ (by omega)]; exact fr q (by omega) h2
  replace sM : sm 1000 1023 M N9 := by rw [hN]; exact (sM.up (by decide) (by decide)).up (by decide) (by decide)
  replace o1 : N9 1000 = some (.inr (11, [.int 0, .int 0, .int 0, .ref 1001, .ref 1002, .ref 1003, .ref 1004, .ref 1005, .ref 1006, .ref 1007, .int 0, .int 0, .int 0, .int 0, .long 0, .int 0, .ref 1008, .ref 1009, .null, .null, .int 0, .null, .null, .null, .null, .int 0, .int 0, .int 0, .int 0, .int 0, .int 0, .int 0, .null, .null, .null, .null, .null, .int 0, .null, .null, .int 0, .int 0, .long 0])) := by rw [hN, mg_up_s]
  clear hN
  refine mg_aload_n d_Mo_init_76 rfl rfl ?_
  refine mg_bipush (v := 60) d_Mo_init_77 (by decide) ?_
  refine mg_newarr (t := 0) (nn := 60) (h := 1010) rfl ac_int d_Mo_init_79 (by decide) (fr 1010 (by decide) (by decide)) (by decide) (by decide) (by decide) (by rw [hR]; exact Nat.le_of_ble_eq_true rfl) (by rw [hR]; exact Nat.le_of_ble_eq_true rfl) ?_
  refine mg_putfield fw_Mo_37 d_Mo_init_81 (by rw [mg_up_n _ _ (by decide)]; exact o1) (Nat.le_of_ble_eq_true rfl) (fun _ => ⟨rfl, rfl⟩) ?_
  obtain ⟨N10, hN⟩ : ∃ Z, Z = mg_up (mg_up N9 1010 (iaE 60 (fun _ => 0))) 1000 (.inr (11, [.int 0, .int 0, .int 0, .ref 1001, .ref 1002, .ref 1003, .ref 1004, .ref 1005, .ref 1006, .ref 1007, .int 0, .int 0, .int 0, .int 0, .long 0, .int 0, .ref 1008, .ref 1009, .ref 1010, .null, .int 0, .null, .null, .null, .null, .int 0, .int 0, .int 0, .int 0, .int 0, .int 0, .int 0, .null, .null, .null, .null, .null, .int 0, .null, .null, .int 0, .int 0, .long 0])) := ⟨_, rfl⟩
  refine mg_eqM (M' := N10) hN.symm ?_
  replace F : ∀ q, 1001 ≤ q → q < 1011 → N10 q = some (iaE (moZ q) (fun _ => 0)) := fun q h1 h2 => by
    by_cases e : q = 1010
    · subst e; rw [hN, mg_up_n _ _ (by decide), mg_up_s]; rfl
    · rw [hN, mg_up_n _ _ (by omega), mg_up_n _ _ e]; exact F q h1 (by omega)
  replace fr : ∀ q, 1011 ≤ q → q < 10000 → N10 q = none := fun q h1 h2 => by rw [hN, mg_up_n _ _ (by omega), mg_up_n _ _ (by omega)]; exact fr q (by omega) h2
  replace sM : sm 1000 1023 M N10 := by rw [hN]; exact (sM.up (by decide) (by decide)).up (by decide) (by decide)
  replace o1 : N10 1000 = some (.inr (11, [.int 0, .int 0, .int 0, .ref 1001, .ref 1002, .ref 1003, .ref 1004, .ref 1005, .ref 1006, .ref 1007, .int 0, .int 0, .int 0, .int 0, .long 0, .int 0, .ref 1008, .ref 1009, .ref 1010, .null, .int 0, .null, .null, .null, .null, .int 0, .int 0, .int 0, .int 0, .int 0, .int 0, .int 0, .null, .null, .null, .null, .null, .int 0, .null, .null, .int 0, .int 0, .long 0])) := by rw [hN, mg_up_s]
  clear hN
  refine mg_aload_n d_Mo_init_84 rfl rfl ?_
  refine mg_bipush (v := 60) d_Mo_init_85 (by decide) ?_
  refine mg_newarr (t := 0) (nn := 60) (h := 1011) rfl ac_int d_Mo_init_87 (by decide) (fr 1011 (by decide) (by decide)) (by decide) (by decide) (by decide) (by rw [hR]; exact Nat.le_of_ble_eq_true rfl) (by rw [hR]; exact Nat.le_of_ble_eq_true rfl) ?_
  refine mg_putfield fw_Mo_40 d_Mo_init_89 (by rw [mg_up_n _ _ (by decide)]; exact o1) (Nat.le_of_ble_eq_true rfl) (fun _ => ⟨rfl, rfl⟩) ?_
  obtain ⟨N11, hN⟩ : ∃ Z, Z = mg_up (mg_up N10 1011 (iaE 60 (fun _ => 0))) 1000 (.inr (11, [.int 0, .int 0, .int 0, .ref 1001, .ref 1002, .ref 1003, .ref 1004, .ref 1005, .ref 1006, .ref 1007, .int 0, .int 0, .int 0, .int 0, .long 0, .int 0, .ref 1008, .ref 1009, .ref 1010, .ref 1011, .int 0, .null, .null, .null, .null, .int 0, .int 0, .int 0, .int 0, .int 0, .int 0, .int 0, .null, .null, .null, .null, .null, .int 0, .null, .null, .int 0, .int 0, .long 0])) := ⟨_, rfl⟩
  refine mg_eqM (M' := N11) hN.symm ?_
  replace F : ∀ q, 1001 ≤ q → q < 1012 → N11 q = some (iaE (moZ q) (fun _ => 0)) := fun q h1 h2 => by
    by_cases e : q = 1011
    · subst e; rw [hN, mg_up_n _ _ (by decide), mg_up_s]; rfl
    · rw [hN, mg_up_n _ _ (by omega), mg_up_n _ _ e]; exact F q h1 (by omega)
  replace fr : ∀ q, 1012 ≤ q → q < 10000 → N11 q = none := fun q h1 h2 => by rw [hN, mg_up_n _ _ (by omega), mg_up_n _ _ (by omega)]; exact fr q (by omega) h2
  replace sM : sm 1000 1023 M N11 := by rw [hN]; exact (sM.up (by decide) (by decide)).up (by decide) (by decide)
  replace o1 : N11 1000 = some (.inr (11, [.int 0, .int 0, .int 0, .ref 1001, .ref 1002, .ref 1003, .ref 1004, .ref 1005, .ref 1006, .ref 1007, .int 0, .int 0, .int 0, .int 0, .long 0, .int 0, .ref 1008, .ref 1009, .ref 1010, .ref 1011, .int 0, .null, .null, .null, .null, .int 0, .int 0, .int 0, .int 0, .int 0, .int 0, .int 0, .null, .null, .null, .null, .null, .int 0, .null, .null, .int 0, .int 0, .long 0])) := by rw [hN, mg_up_s]
  clear hN
  refine mg_aload_n d_Mo_init_92 rfl rfl ?_
  refine mg_bipush (v := 20) d_Mo_init_93 (by decide) ?_
  refine mg_newarr (t := 0) (nn := 20) (h := 1012) rfl ac_int d_Mo_init_95 (by decide) (fr 1012 (by decide) (by decide)) (by decide) (by decide) (by decide) (by rw [hR]; exact Nat.le_of_ble_eq_true rfl) (by rw [hR]; exact Nat.le_of_ble_eq_true rfl) ?_
  refine mg_putfield fw_Mo_43 d_Mo_init_97 (by rw [mg_up_n _ _ (by decide)]; exact o1) (Nat.le_of_ble_eq_true rfl) (fun _ => ⟨rfl, rfl⟩) ?_
  obtain ⟨N12, hN⟩ : ∃ Z, Z = mg_up (mg_up N11 1012 (iaE 20 (fun _ => 0))) 1000 (.inr (11, [.int 0, .int 0, .int 0, .ref 1001, .ref 1002, .ref 1003, .ref 1004, .ref 1005, .ref 1006, .ref 1007, .int 0, .int 0, .int 0, .int 0, .long 0, .int 0, .ref 1008, .ref 1009, .ref 1010, .ref 1011, .int 0, .ref 1012, .null, .null, .null, .int 0, .int 0, .int 0, .int 0, .int 0, .int 0, .int 0, .null, .null, .null, .null, .null, .int 0, .null, .null, .int 0, .int 0, .long 0])) := ⟨_, rfl⟩
  refine mg_eqM (M' := N12) hN.symm ?_
  replace F : ∀ q, 1001 ≤ q → q < 1013 → N12 q = some (iaE (moZ q) (fun _ => 0)) := fun q h1 h2 => by
    by_cases e : q = 1012
    · subst e; rw [hN, mg_up_n _ _ (by decide), mg_up_s]; rfl
    · rw [hN, mg_up_n _ _ (by omega), mg_up_n _ _ e]; exact F q h1 (by omega)
  replace fr : ∀ q, 1013 ≤ q → q < 10000 → N12 q = none := fun q h1 h2 => by rw [hN, mg_up_n _ _ (by omega), mg_up_n _ _ (by omega)]; exact fr q (by omega) h2
  replace sM : sm 1000 1023 M N12 := by rw [hN]; exact (sM.up (by decide) (by decide)).up (by decide) (by decide)
  replace o1 : N12 1000 = some (.inr (11, [.int 0, .int 0, .int 0, .ref 1001, .ref 1002, .ref 1003, .ref 1004, .ref 1005, .ref 1006, .ref 1007, .int 0, .int 0, .int 0, .int 0, .long 0, .int 0, .ref 1008, .ref 1009, .ref 1010, .ref 1011, .int 0, .ref 1012, .null, .null, .null, .int 0, .int 0, .int 0, .int 0, .int 0, .int 0, .int 0, .null, .null, .null, .null, .null, .int 0, .null, .null, .int 0, .int 0, .long 0])) := by rw [hN, mg_up_s]
  clear hN
  refine mg_aload_n d_Mo_init_100 rfl rfl ?_
  refine mg_bipush (v := 20) d_Mo_init_101 (by decide) ?_
  refine mg_newarr (t := 0) (nn := 20) (h := 1013) rfl ac_int d_Mo_init_103 (by decide) (fr 1013 (by decide) (by decide)) (by decide) (by decide) (by decide) (by rw [hR]; exact Nat.le_of_ble_eq_true rfl) (by rw [hR]; exact Nat.le_of_ble_eq_true rfl) ?_
  refine mg_putfield fw_Mo_46 d_Mo_init_105 (by rw [mg_up_n _ _ (by decide)]; exact o1) (Nat.le_of_ble_eq_true rfl) (fun _ => ⟨rfl, rfl⟩) ?_
  obtain ⟨N13, hN⟩ : ∃ Z, Z = mg_up (mg_up N12 1013 (iaE 20 (fun _ => 0))) 1000 (.inr (11, [.int 0, .int 0, .int 0, .ref 1001, .ref 1002, .ref 1003, .ref 1004, .ref 1005, .ref 1006, .ref 1007, .int 0, .int 0, .int 0, .int 0, .long 0, .int 0, .ref 1008, .ref 1009, .ref 1010, .ref 1011, .int 0, .ref 1012, .ref 1013, .null, .null, .int 0, .int 0, .int 0, .int 0, .int 0, .int 0, .int 0, .null, .null, .null, .null, .null, .int 0, .null, .null, .int 0, .int 0, .long 0])) := ⟨_, rfl⟩
  refine mg_eqM (M' := N13) hN.symm ?_
  replace F : ∀ q, 1001 ≤ q → q < 1014 → N13 q = some (iaE (moZ q) (fun _ => 0)) := fun q h1 h2 => by
    by_cases e : q = 1013
    · subst e; rw [hN, mg_up_n _ _ (by decide), mg_up_s]; rfl
    · rw [hN, mg_up_n _ _ (by omega), mg_up_n _ _ e]; exact F q h1 (by omega)
  replace fr : ∀ q, 1014 ≤ q → q < 10000 → N13 q = none := fun q h1 h2 => by rw [hN, mg_up_n _ _ (by omega), mg_up_n _ _ (by omega)]; exact fr q (by omega) h2
  replace sM : sm 1000 1023 M N13 := by rw [hN]; exact (sM.up (by decide) (by decide)).up (by decide) (by decide)
  replace o1 : N13 1000 = some (.inr (11, [.int 0, .int 0, .int 0, .ref 1001, .ref 1002, .ref 1003, .ref 1004, .ref 1005, .ref 1006, .ref 1007, .int 0, .int 0, .int 0, .int 0, .long 0, .int 0, .ref 1008, .ref 1009, .ref 1010, .ref 1011, .int 0, .ref 1012, .ref 1013, .null, .null, .int 0, .int 0, .int 0, .int 0, .int 0, .int 0, .int 0, .null, .null, .null, .null, .null, .int 0, .null, .null, .int 0, .int 0, .long 0])) := by rw [hN, mg_up_s]
  clear hN
  refine mg_aload_n d_Mo_init_108 rfl rfl ?_
  refine mg_bipush (v := 20) d_Mo_init_109 (by decide) ?_
  refine mg_newarr (t := 0) (nn := 20) (h := 1014) rfl ac_int d_Mo_init_111 (by decide) (fr 1014 (by decide) (by decide)) (by decide) (by decide) (by decide) (by rw [hR]; exact Nat.le_of_ble_eq_true rfl) (by rw [hR]; exact Nat.le_of_ble_eq_true rfl) ?_
  refine mg_putfield fw_Mo_49 d_Mo_init_113 (by rw [mg_up_n _ _ (by decide)]; exact o1) (Nat.le_of_ble_eq_true rfl) (fun _ => ⟨rfl, rfl⟩) ?_
  obtain ⟨N14, hN⟩ : ∃ Z, Z = mg_up (mg_up N13 1014 (iaE 20 (fun _ => 0))) 1000 (.inr (11, [.int 0, .int 0, .int 0, .ref 1001, .ref 1002, .ref 1003, .ref 1004, .ref 1005, .ref 1006, .ref 1007, .int 0, .int 0, .int 0, .int 0, .long 0, .int 0, .ref 1008, .ref 1009, .ref 1010, .ref 1011, .int 0, .ref 1012, .ref 1013, .ref 1014, .null, .int 0, .int 0, .int 0, .int 0, .int 0, .int 0, .int 0, .null, .null, .null, .null, .null, .int 0, .null, .null, .int 0, .int 0, .long 0])) := ⟨_, rfl⟩
  refine mg_eqM (M' := N14) hN.symm ?_
  replace F : ∀ q, 1001 ≤ q → q < 1015 → N14 q = some (iaE (moZ q) (fun _ => 0)) := fun q h1 h2 => by
    by_cases e : q = 1014
    · subst e; rw [hN, mg_up_n _ _ (by decide), mg_up_s]; rfl
    · rw [hN, mg_up_n _ _ (by omega), mg_up_n _ _ e]; exact F q h1 (by omega)
  replace fr : ∀ q, 1015 ≤ q → q < 10000 → N14 q = none := fun q h1 h2 => by rw [hN, mg_up_n _ _ (by omega), mg_up_n _ _ (by omega)]; exact fr q (by omega) h2
  replace sM : sm 1000 1023 M N14 := by rw [hN]; exact (sM.up (by decide) (by decide)).up (by decide) (by decide)
  replace o1 : N14 1000 = some (.inr (11, [.int 0, .int 0, .int 0, .ref 1001, .ref 1002, .ref 1003, .ref 1004, .ref 1005, .ref 1006, .ref 1007, .int 0, .int 0, .int 0, .int 0, .long 0, .int 0, .ref 1008, .ref 1009, .ref 1010, .ref 1011, .int 0, .ref 1012, .ref 1013, .ref 1014, .null, .int 0, .int 0, .int 0, .int 0, .int 0, .int 0, .int 0, .null, .null, .null, .null, .null, .int 0, .null, .null, .int 0, .int 0, .long 0])) := by rw [hN, mg_up_s]
  clear hN
  refine mg_aload_n d_Mo_init_116 rfl rfl ?_
  refine mg_bipush (v := 20) d_Mo_init_117 (by decide) ?_
  refine mg_newarr (t := 0) (nn := 20) (h := 1015) rfl ac_int d_Mo_init_119 (by decide) (fr 1015 (by decide) (by decide)) (by decide) (by decide) (by decide) (by rw [hR]; exact Nat.le_of_ble_eq_true rfl) (by rw [hR]; exact Nat.le_of_ble_eq_true rfl) ?_
  refine mg_putfield fw_Mo_52 d_Mo_init_121 (by rw [mg_up_n _ _ (by decide)]; exact o1) (Nat.le_of_ble_eq_true rfl) (fun _ => ⟨rfl, rfl⟩) ?_
  obtain ⟨N15, hN⟩ : ∃ Z, Z = mg_up (mg_up N14 1015 (iaE 20 (fun _ => 0))) 1000 (.inr (11, [.int 0, .int 0, .int 0, .ref 1001, .ref 1002, .ref 1003, .ref 1004, .ref 1005, .ref 1006, .ref 1007, .int 0, .int 0, .int 0, .int 0, .long 0, .int 0, .ref 1008, .ref 1009, .ref 1010, .ref 1011, .int 0, .ref 1012, .ref 1013, .ref 1014, .ref 1015, .int 0, .int 0, .int 0, .int 0, .int 0, .int 0, .int 0, .null, .null, .null, .null, .null, .int 0, .null, .null, .int 0, .int 0, .long 0])) := ⟨_, rfl⟩
  refine mg_eqM (M' := N15) hN.symm ?_
  replace F : ∀ q, 1001 ≤ q → q < 1016 → N15 q = some (iaE (moZ q) (fun _ => 0)) := fun q h1 h2 => by
    by_cases e : q = 1015
    · subst e; rw [hN, mg_up_n _ _ (by decide), mg_up_s]; rfl
    · rw [hN, mg_up_n _ _ (by omega), mg_up_n _ _ e]; exact F q h1 (by omega)
  replace fr : ∀ q, 1016 ≤ q → q < 10000 → N15 q = none := fun q h1 h2 => by rw [hN, mg_up_n _ _ (by omega), mg_up_n _ _ (by omega)]; exact fr q (by omega) h2
  replace sM : sm 1000 1023 M N15 := by rw [hN]; exact (sM.up (by decide) (by decide)).up (by decide) (by decide)
  replace o1 : N15 1000 = some (.inr (11, [.int 0, .int 0, .int 0, .ref 1001, .ref 1002, .ref 1003, .ref 1004, .ref 1005, .ref 1006, .ref 1007, .int 0, .int 0, .int 0, .int 0, .long 0, .int 0, .ref 1008, .ref 1009, .ref 1010, .ref 1011, .int 0, .ref 1012, .ref 1013, .ref 1014, .ref 1015, .int 0, .int 0, .int 0, .int 0, .int 0, .int 0, .int 0, .null, .null, .null, .null, .null, .int 0, .null, .null, .int 0, .int 0, .long 0])) := by rw [hN, mg_up_s]
  clear hN
  refine mg_aload_n d_Mo_init_124 rfl rfl ?_
  refine mg_iconst (v := -1) d_Mo_init_125 (by decide) ?_
  refine mg_putfield (fw_Mo_55 _) d_Mo_init_126 o1 (Nat.le_of_ble_eq_true rfl) (fun _ => ⟨rfl, rfl⟩) ?_
  obtain ⟨N16, hN⟩ : ∃ Z, Z = mg_up (N15) 1000 (.inr (11, [.int 0, .int 0, .int 0, .ref 1001, .ref 1002, .ref 1003, .ref 1004, .ref 1005, .ref 1006, .ref 1007, .int 0, .int 0, .int 0, .int 0, .long 0, .int 0, .ref 1008, .ref 1009, .ref 1010, .ref 1011, .int 0, .ref 1012, .ref 1013, .ref 1014, .ref 1015, .int 0, .int (-1), .int 0, .int 0, .int 0, .int 0, .int 0, .null, .null, .null, .null, .null, .int 0, .null, .null, .int 0, .int 0, .long 0])) := ⟨_, rfl⟩
  refine mg_eqM (M' := N16) hN.symm ?_
  replace F : ∀ q, 1001 ≤ q → q < 1016 → N16 q = some (iaE (moZ q) (fun _ => 0)) := fun q h1 h2 => by rw [hN, mg_up_n _ _ (by omega)]; exact F q h1 h2
  replace fr : ∀ q, 1016 ≤ q → q < 10000 → N16 q = none := fun q h1 h2 => by rw [hN, mg_up_n _ _ (by omega)]; exact fr q h1 h2
  replace sM : sm 1000 1023 M N16 := by rw [hN]; exact sM.up (by decide) (by decide)
  replace o1 : N16 1000 = some (.inr (11, [.int 0, .int 0, .int 0, .ref 1001, .ref 1002, .ref 1003, .ref 1004, .ref 1005, .ref 1006, .ref 1007, .int 0, .int 0, .int 0, .int 0, .long 0, .int 0, .ref 1008, .ref 1009, .ref 1010, .ref 1011, .int 0, .ref 1012, .ref 1013, .ref 1014, .ref 1015, .int 0, .int (-1), .int 0, .int 0, .int 0, .int 0, .int 0, .null, .null, .null, .null, .null, .int 0, .null, .null, .int 0, .int 0, .long 0])) := by rw [hN, mg_up_s]
  clear hN
  refine mg_aload_n d_Mo_init_129 rfl rfl ?_
  refine mg_bipush (v := 60) d_Mo_init_130 (by decide) ?_
  refine mg_newarr (t := 0) (nn := 60) (h := 1016) rfl ac_int d_Mo_init_132 (by decide) (fr 1016 (by decide) (by decide)) (by decide) (by decide) (by decide) (by rw [hR]; exact Nat.le_of_ble_eq_true rfl) (by rw [hR]; exact Nat.le_of_ble_eq_true rfl) ?_
  refine mg_putfield fw_Mo_59 d_Mo_init_134 (by rw [mg_up_n _ _ (by decide)]; exact o1) (Nat.le_of_ble_eq_true rfl) (fun _ => ⟨rfl, rfl⟩) ?_
  obtain ⟨N17, hN⟩ : ∃ Z, Z = mg_up (mg_up N16 1016 (iaE 60 (fun _ => 0))) 1000 (.inr (11, [.int 0, .int 0, .int 0, .ref 1001, .ref 1002, .ref 1003, .ref 1004, .ref 1005, .ref 1006, .ref 1007, .int 0, .int 0, .int 0, .int 0, .long 0, .int 0, .ref 1008, .ref 1009, .ref 1010, .ref 1011, .int 0, .ref 1012, .ref 1013, .ref 1014, .ref 1015, .int 0, .int (-1), .int 0, .int 0, .int 0, .int 0, .int 0, .ref 1016, .null, .null, .null, .null, .int 0, .null, .null, .int 0, .int 0, .long 0])) := ⟨_, rfl⟩
  refine mg_eqM (M' := N17) hN.symm ?_
  replace F : ∀ q, 1001 ≤ q → q < 1017 → N17 q = some (iaE (moZ q) (fun _ => 0)) := fun q h1 h2 => by
    by_cases e : q = 1016
    · subst e; rw [hN, mg_up_n _ _ (by decide), mg_up_s]; rfl
    · rw [hN, mg_up_n _ _ (by omega), mg_up_n _ _ e]; exact F q h1 (by omega)
  replace fr : ∀ q, 1017 ≤ q → q < 10000 → N17 q = none := fun q h1 h2 => by rw [hN, mg_up_n _ _ (by omega), mg_up_n _ _ (by omega)]; exact fr q (by omega) h2
  replace sM : sm 1000 1023 M N17 := by rw [hN]; exact (sM.up (by decide) (by decide)).up (by decide) (by decide)
  replace o1 : N17 1000 = some (.inr (11, [.int 0, .int 0, .int 0, .ref 1001, .ref 1002, .ref 1003, .ref 1004, .ref 1005, .ref 1006, .ref 1007, .int 0, .int 0, .int 0, .int 0, .long 0, .int 0, .ref 1008, .ref 1009, .ref 1010, .ref 1011, .int 0, .ref 1012, .ref 1013, .ref 1014, .ref 1015, .int 0, .int (-1), .int 0, .int 0, .int 0, .int 0, .int 0, .ref 1016, .null, .null, .null, .null, .int 0, .null, .null, .int 0, .int 0, .long 0])) := by rw [hN, mg_up_s]
  clear hN
  refine mg_aload_n d_Mo_init_137 rfl rfl ?_
  refine mg_sipush (v := 200) d_Mo_init_138 (by decide) ?_
  refine mg_newarr (t := 0) (nn := 200) (h := 1017) rfl ac_int d_Mo_init_141 (by decide) (fr 1017 (by decide) (by decide)) (by decide) (by decide) (by decide) (by rw [hR]; exact Nat.le_of_ble_eq_true rfl) (by rw [hR]; exact Nat.le_of_ble_eq_true rfl) ?_
  refine mg_putfield fw_Mo_62 d_Mo_init_143 (by rw [mg_up_n _ _ (by decide)]; exact o1) (Nat.le_of_ble_eq_true rfl) (fun _ => ⟨rfl, rfl⟩) ?_
  obtain ⟨N18, hN⟩ : ∃ Z, Z = mg_up (mg_up N17 1017 (iaE 200 (fun _ => 0))) 1000 (.inr (11, [.int 0, .int 0, .int 0, .ref 1001, .ref 1002, .ref 1003, .ref 1004, .ref 1005, .ref 1006, .ref 1007, .int 0, .int 0, .int 0, .int 0, .long 0, .int 0, .ref 1008, .ref 1009, .ref 1010, .ref 1011, .int 0, .ref 1012, .ref 1013, .ref 1014, .ref 1015, .int 0, .int (-1), .int 0, .int 0, .int 0, .int 0, .int 0, .ref 1016, .ref 1017, .null, .null, .null, .int 0, .null, .null, .int 0, .int 0, .long 0])) := ⟨_, rfl⟩
  refine mg_eqM (M' := N18) hN.symm ?_
  replace F : ∀ q, 1001 ≤ q → q < 1018 → N18 q = some (iaE (moZ q) (fun _ => 0)) := fun q h1 h2 => by
    by_cases e : q = 1017
    · subst e; rw [hN, mg_up_n _ _ (by decide), mg_up_s]; rfl
    · rw [hN, mg_up_n _ _ (by omega), mg_up_n _ _ e]; exact F q h1 (by omega)
  replace fr : ∀ q, 1018 ≤ q → q < 10000 → N18 q = none := fun q h1 h2 => by rw [hN, mg_up_n _ _ (by omega), mg_up_n _ _ (by omega)]; exact fr q (by omega) h2
  replace sM : sm 1000 1023 M N18 := by rw [hN]; exact (sM.up (by decide) (by decide)).up (by decide) (by decide)
  replace o1 : N18 1000 = some (.inr (11, [.int 0, .int 0, .int 0, .ref 1001, .ref 1002, .ref 1003, .ref 1004, .ref 1005, .ref 1006, .ref 1007, .int 0, .int 0, .int 0, .int 0, .long 0, .int 0, .ref 1008, .ref 1009, .ref 1010, .ref 1011, .int 0, .ref 1012, .ref 1013, .ref 1014, .ref 1015, .int 0, .int (-1), .int 0, .int 0, .int 0, .int 0, .int 0, .ref 1016, .ref 1017, .null, .null, .null, .int 0, .null, .null, .int 0, .int 0, .long 0])) := by rw [hN, mg_up_s]
  clear hN
  refine mg_aload_n d_Mo_init_146 rfl rfl ?_
  refine mg_sipush (v := 200) d_Mo_init_147 (by decide) ?_
  refine mg_newarr (t := 0) (nn := 200) (h := 1018) rfl ac_int d_Mo_init_150 (by decide) (fr 1018 (by decide) (by decide)) (by decide) (by decide) (by decide) (by rw [hR]; exact Nat.le_of_ble_eq_true rfl) (by rw [hR]; exact Nat.le_of_ble_eq_true rfl) ?_
  refine mg_putfield fw_Mo_65 d_Mo_init_152 (by rw [mg_up_n _ _ (by decide)]; exact o1) (Nat.le_of_ble_eq_true rfl) (fun _ => ⟨rfl, rfl⟩) ?_
  obtain ⟨N19, hN⟩ : ∃ Z, Z = mg_up (mg_up N18 1018 (iaE 200 (fun _ => 0))) 1000 (.inr (11, [.int 0, .int 0, .int 0, .ref 1001, .ref 1002, .ref 1003, .ref 1004, .ref 1005, .ref 1006, .ref 1007, .int 0, .int 0, .int 0, .int 0, .long 0, .int 0, .ref 1008, .ref 1009, .ref 1010, .ref 1011, .int 0, .ref 1012, .ref 1013, .ref 1014, .ref 1015, .int 0, .int (-1), .int 0, .int 0, .int 0, .int 0, .int 0, .ref 1016, .ref 1017, .ref 1018, .null, .null, .int 0, .null, .null, .int 0, .int 0, .long 0])) := ⟨_, rfl⟩
  refine mg_eqM (M' := N19) hN.symm ?_
  replace F : ∀ q, 1001 ≤ q → q < 1019 → N19 q = some (iaE (moZ q) (fun _ => 0)) := fun q h1 h2 => by
    by_cases e : q = 1018
    · subst e; rw [hN, mg_up_n _ _ (by decide), mg_up_s]; rfl
    · rw [hN, mg_up_n _ _ (by omega), mg_up_n _ _ e]; exact F q h1 (by omega)
  replace fr : ∀ q, 1019 ≤ q → q < 10000 → N19 q = none := fun q h1 h2 => by rw [hN, mg_up_n _ _ (by omega), mg_up_n _ _ (by omega)]; exact fr q (by omega) h2
  replace sM : sm 1000 1023 M N19 := by rw [hN]; exact (sM.up (by decide) (by decide)).up (by decide) (by decide)
  replace o1 : N19 1000 = some (.inr (11, [.int 0, .int 0, .int 0, .ref 1001, .ref 1002, .ref 1003, .ref 1004, .ref 1005, .ref 1006, .ref 1007, .int 0, .int 0, .int 0, .int 0, .long 0, .int 0, .ref 1008, .ref 1009, .ref 1010, .ref 1011, .int 0, .ref 1012, .ref 1013, .ref 1014, .ref 1015, .int 0, .int (-1), .int 0, .int 0, .int 0, .int 0, .int 0, .ref 1016, .ref 1017, .ref 1018, .null, .null, .int 0, .null, .null, .int 0, .int 0, .long 0])) := by rw [hN, mg_up_s]
  clear hN
  refine mg_aload_n d_Mo_init_155 rfl rfl ?_
  refine mg_sipush (v := 200) d_Mo_init_156 (by decide) ?_
  refine mg_newarr (t := 0) (nn := 200) (h := 1019) rfl ac_int d_Mo_init_159 (by decide) (fr 1019 (by decide) (by decide)) (by decide) (by decide) (by decide) (by rw [hR]; exact Nat.le_of_ble_eq_true rfl) (by rw [hR]; exact Nat.le_of_ble_eq_true rfl) ?_
  refine mg_putfield fw_Mo_68 d_Mo_init_161 (by rw [mg_up_n _ _ (by decide)]; exact o1) (Nat.le_of_ble_eq_true rfl) (fun _ => ⟨rfl, rfl⟩) ?_
  obtain ⟨N20, hN⟩ : ∃ Z, Z = mg_up (mg_up N19 1019 (iaE 200 (fun _ => 0))) 1000 (.inr (11, [.int 0, .int 0, .int 0, .ref 1001, .ref 1002, .ref 1003, .ref 1004, .ref 1005, .ref 1006, .ref 1007, .int 0, .int 0, .int 0, .int 0, .long 0, .int 0, .ref 1008, .ref 1009, .ref 1010, .ref 1011, .int 0, .ref 1012, .ref 1013, .ref 1014, .ref 1015, .int 0, .int (-1), .int 0, .int 0, .int 0, .int 0, .int 0, .ref 1016, .ref 1017, .ref 1018, .ref 1019, .null, .int 0, .null, .null, .int 0, .int 0, .long 0])) := ⟨_, rfl⟩
  refine mg_eqM (M' := N20) hN.symm ?_
  replace F : ∀ q, 1001 ≤ q → q < 1020 → N20 q = some (iaE (moZ q) (fun _ => 0)) := fun q h1 h2 => by
    by_cases e : q = 1019
    · subst e; rw [hN, mg_up_n _ _ (by decide), mg_up_s]; rfl
    · rw [hN, mg_up_n _ _ (by omega), mg_up_n _ _ e]; exact F q h1 (by omega)
  replace fr : ∀ q, 1020 ≤ q → q < 10000 → N20 q = none := fun q h1 h2 => by rw [hN, mg_up_n _ _ (by omega), mg_up_n _ _ (by omega)]; exact fr q (by omega) h2
  replace sM : sm 1000 1023 M N20 := by rw [hN]; exact (sM.up (by decide) (by decide)).up (by decide) (by decide)
  replace o1 : N20 1000 = some (.inr (11, [.int 0, .int 0, .int 0, .ref 1001, .ref 1002, .ref 1003, .ref 1004, .ref 1005, .ref 1006, .ref 1007, .int 0, .int 0, .int 0, .int 0, .long 0, .int 0, .ref 1008, .ref 1009, .ref 1010, .ref 1011, .int 0, .ref 1012, .ref 1013, .ref 1014, .ref 1015, .int 0, .int (-1), .int 0, .int 0, .int 0, .int 0, .int 0, .ref 1016, .ref 1017, .ref 1018, .ref 1019, .null, .int 0, .null, .null, .int 0, .int 0, .long 0])) := by rw [hN, mg_up_s]
  clear hN
  refine mg_aload_n d_Mo_init_164 rfl rfl ?_
  refine mg_sipush (v := 12000) d_Mo_init_165 (by decide) ?_
  refine mg_newarr (t := 0) (nn := 12000) (h := 1020) rfl ac_int d_Mo_init_168 (by decide) (fr 1020 (by decide) (by decide)) (by decide) (by decide) (by decide) (by rw [hR]; exact Nat.le_of_ble_eq_true rfl) (by rw [hR]; exact Nat.le_of_ble_eq_true rfl) ?_
  refine mg_putfield fw_Mo_71 d_Mo_init_170 (by rw [mg_up_n _ _ (by decide)]; exact o1) (Nat.le_of_ble_eq_true rfl) (fun _ => ⟨rfl, rfl⟩) ?_
  obtain ⟨N21, hN⟩ : ∃ Z, Z = mg_up (mg_up N20 1020 (iaE 12000 (fun _ => 0))) 1000 (.inr (11, [.int 0, .int 0, .int 0, .ref 1001, .ref 1002, .ref 1003, .ref 1004, .ref 1005, .ref 1006, .ref 1007, .int 0, .int 0, .int 0, .int 0, .long 0, .int 0, .ref 1008, .ref 1009, .ref 1010, .ref 1011, .int 0, .ref 1012, .ref 1013, .ref 1014, .ref 1015, .int 0, .int (-1), .int 0, .int 0, .int 0, .int 0, .int 0, .ref 1016, .ref 1017, .ref 1018, .ref 1019, .ref 1020, .int 0, .null, .null, .int 0, .int 0, .long 0])) := ⟨_, rfl⟩
  refine mg_eqM (M' := N21) hN.symm ?_
  replace F : ∀ q, 1001 ≤ q → q < 1021 → N21 q = some (iaE (moZ q) (fun _ => 0)) := fun q h1 h2 => by
    by_cases e : q = 1020
    · subst e; rw [hN, mg_up_n _ _ (by decide), mg_up_s]; rfl
    · rw [hN, mg_up_n _ _ (by omega), mg_up_n _ _ e]; exact F q h1 (by omega)
  replace fr : ∀ q, 1021 ≤ q → q < 10000 → N21 q = none := fun q h1 h2 => by rw [hN, mg_up_n _ _ (by omega), mg_up_n _ _ (by omega)]; exact fr q (by omega) h2
  replace sM : sm 1000 1023 M N21 := by rw [hN]; exact (sM.up (by decide) (by decide)).up (by decide) (by decide)
  replace o1 : N21 1000 = some (.inr (11, [.int 0, .int 0, .int 0, .ref 1001, .ref 1002, .ref 1003, .ref 1004, .ref 1005, .ref 1006, .ref 1007, .int 0, .int 0, .int 0, .int 0, .long 0, .int 0, .ref 1008, .ref 1009, .ref 1010, .ref 1011, .int 0, .ref 1012, .ref 1013, .ref 1014, .ref 1015, .int 0, .int (-1), .int 0, .int 0, .int 0, .int 0, .int 0, .ref 1016, .ref 1017, .ref 1018, .ref 1019, .ref 1020, .int 0, .null, .null, .int 0, .int 0, .long 0])) := by rw [hN, mg_up_s]
  clear hN
  refine mg_aload_n d_Mo_init_173 rfl rfl ?_
  refine mg_bipush (v := 60) d_Mo_init_174 (by decide) ?_
  refine mg_newarr (t := 0) (nn := 60) (h := 1021) rfl ac_int d_Mo_init_176 (by decide) (fr 1021 (by decide) (by decide)) (by decide) (by decide) (by decide) (by rw [hR]; exact Nat.le_of_ble_eq_true rfl) (by rw [hR]; exact Nat.le_of_ble_eq_true rfl) ?_
  refine mg_putfield fw_Mo_74 d_Mo_init_178 (by rw [mg_up_n _ _ (by decide)]; exact o1) (Nat.le_of_ble_eq_true rfl) (fun _ => ⟨rfl, rfl⟩) ?_
  obtain ⟨N22, hN⟩ : ∃ Z, Z = mg_up (mg_up N21 1021 (iaE 60 (fun _ => 0))) 1000 (.inr (11, [.int 0, .int 0, .int 0, .ref 1001, .ref 1002, .ref 1003, .ref 1004, .ref 1005, .ref 1006, .ref 1007, .int 0, .int 0, .int 0, .int 0, .long 0, .int 0, .ref 1008, .ref 1009, .ref 1010, .ref 1011, .int 0, .ref 1012, .ref 1013, .ref 1014, .ref 1015, .int 0, .int (-1), .int 0, .int 0, .int 0, .int 0, .int 0, .ref 1016, .ref 1017, .ref 1018, .ref 1019, .ref 1020, .int 0, .ref 1021, .null, .int 0, .int 0, .long 0])) := ⟨_, rfl⟩
  refine mg_eqM (M' := N22) hN.symm ?_
  replace F : ∀ q, 1001 ≤ q → q < 1022 → N22 q = some (iaE (moZ q) (fun _ => 0)) := fun q h1 h2 => by
    by_cases e : q = 1021
    · subst e; rw [hN, mg_up_n _ _ (by decide), mg_up_s]; rfl
    · rw [hN, mg_up_n _ _ (by omega), mg_up_n _ _ e]; exact F q h1 (by omega)
  replace fr : ∀ q, 1022 ≤ q → q < 10000 → N22 q = none := fun q h1 h2 => by rw [hN, mg_up_n _ _ (by omega), mg_up_n _ _ (by omega)]; exact fr q (by omega) h2
  replace sM : sm 1000 1023 M N22 := by rw [hN]; exact (sM.up (by decide) (by decide)).up (by decide) (by decide)
  replace o1 : N22 1000 = some (.inr (11, [.int 0, .int 0, .int 0, .ref 1001, .ref 1002, .ref 1003, .ref 1004, .ref 1005, .ref 1006, .ref 1007, .int 0, .int 0, .int 0, .int 0, .long 0, .int 0, .ref 1008, .ref 1009, .ref 1010, .ref 1011, .int 0, .ref 1012, .ref 1013, .ref 1014, .ref 1015, .int 0, .int (-1), .int 0, .int 0, .int 0, .int 0, .int 0, .ref 1016, .ref 1017, .ref 1018, .ref 1019, .ref 1020, .int 0, .ref 1021, .null, .int 0, .int 0, .long 0])) := by rw [hN, mg_up_s]
  clear hN
  refine mg_aload_n d_Mo_init_181 rfl rfl ?_
  refine mg_bipush (v := 60) d_Mo_init_182 (by decide) ?_
  refine mg_newarr (t := 0) (nn := 60) (h := 1022) rfl ac_int d_Mo_init_184 (by decide) (fr 1022 (by decide) (by decide)) (by decide) (by decide) (by decide) (by rw [hR]; exact Nat.le_of_ble_eq_true rfl) (by rw [hR]; exact Nat.le_of_ble_eq_true rfl) ?_
  refine mg_putfield fw_Mo_77 d_Mo_init_186 (by rw [mg_up_n _ _ (by decide)]; exact o1) (Nat.le_of_ble_eq_true rfl) (fun _ => ⟨rfl, rfl⟩) ?_
  obtain ⟨N23, hN⟩ : ∃ Z, Z = mg_up (mg_up N22 1022 (iaE 60 (fun _ => 0))) 1000 (.inr (11, [.int 0, .int 0, .int 0, .ref 1001, .ref 1002, .ref 1003, .ref 1004, .ref 1005, .ref 1006, .ref 1007, .int 0, .int 0, .int 0, .int 0, .long 0, .int 0, .ref 1008, .ref 1009, .ref 1010, .ref 1011, .int 0, .ref 1012, .ref 1013, .ref 1014, .ref 1015, .int 0, .int (-1), .int 0, .int 0, .int 0, .int 0, .int 0, .ref 1016, .ref 1017, .ref 1018, .ref 1019, .ref 1020, .int 0, .ref 1021, .ref 1022, .int 0, .int 0, .long 0])) := ⟨_, rfl⟩
  refine mg_eqM (M' := N23) hN.symm ?_
  replace F : ∀ q, 1001 ≤ q → q < 1023 → N23 q = some (iaE (moZ q) (fun _ => 0)) := fun q h1 h2 => by
    by_cases e : q = 1022
    · subst e; rw [hN, mg_up_n _ _ (by decide), mg_up_s]; rfl
    · rw [hN, mg_up_n _ _ (by omega), mg_up_n _ _ e]; exact F q h1 (by omega)
  replace fr : ∀ q, 1023 ≤ q → q < 10000 → N23 q = none := fun q h1 h2 => by rw [hN, mg_up_n _ _ (by omega), mg_up_n _ _ (by omega)]; exact fr q (by omega) h2
  replace sM : sm 1000 1023 M N23 := by rw [hN]; exact (sM.up (by decide) (by decide)).up (by decide) (by decide)
  replace o1 : N23 1000 = some (.inr (11, [.int 0, .int 0, .int 0, .ref 1001, .ref 1002, .ref 1003, .ref 1004, .ref 1005, .ref 1006, .ref 1007, .int 0, .int 0, .int 0, .int 0, .long 0, .int 0, .ref 1008, .ref 1009, .ref 1010, .ref 1011, .int 0, .ref 1012, .ref 1013, .ref 1014, .ref 1015, .int 0, .int (-1), .int 0, .int 0, .int 0, .int 0, .int 0, .ref 1016, .ref 1017, .ref 1018, .ref 1019, .ref 1020, .int 0, .ref 1021, .ref 1022, .int 0, .int 0, .long 0])) := by rw [hN, mg_up_s]
  clear hN
  refine mg_return d_Mo_init_189 rfl (Nat.le_of_ble_eq_true rfl) (Nat.le_of_ble_eq_true rfl) ⟨rfl, ⟨moI, 0, ?_, ⟨⟨rfl, rfl, ⟨_, _, _, _, F 1001 (by decide) (by decide), F 1002 (by decide) (by decide), F 1003 (by decide) (by decide), F 1004 (by decide) (by decide), fun i g hg => by simp at hg⟩, ⟨_, _, _, F 1005 (by decide) (by decide), F 1006 (by decide) (by decide), F 1007 (by decide) (by decide), fun i g hg => by simp at hg⟩⟩, ⟨⟨rfl, rfl⟩, ⟨fun _ => 0, F 1016 (by decide) (by decide), Nat.zero_le _, fun j hj => absurd hj (Nat.not_lt_zero _)⟩⟩, ⟨rfl, rfl, ⟨_, _, _, _, F 1017 (by decide) (by decide), F 1018 (by decide) (by decide), F 1019 (by decide) (by decide), F 1020 (by decide) (by decide), fun i g hg => by simp at hg⟩⟩, rfl, ⟨rfl, ⟨fun _ => 0, F 1021 (by decide) (by decide), Nat.zero_le _, fun j hj => absurd hj (Nat.not_lt_zero _)⟩⟩, rfl, ⟨fun _ => 0, F 1022 (by decide) (by decide), Nat.zero_le _, fun j hj => absurd hj (Nat.not_lt_zero _)⟩⟩, ⟨⟨_, F 1009 (by decide) (by decide)⟩, ⟨_, F 1010 (by decide) (by decide)⟩, ⟨_, F 1011 (by decide) (by decide)⟩, _, _, _, _, F 1012 (by decide) (by decide), F 1013 (by decide) (by decide), F 1014 (by decide) (by decide), F 1015 (by decide) (by decide)⟩, [], ⟨fun _ => 0, F 1008 (by decide) (by decide), Nat.zero_le _, fun j hj => absurd hj (Nat.not_lt_zero _)⟩, rfl⟩, sM⟩
  exact o1

