/-! CONSTRUCTORS of generators, properties, kept rows; and what a property says -/
def mg_DL (own : String) (ix : Nat) : Prop := mg_FL own ix 3 0 ∧ mg_FL own ix 4 0 ∧ mg_FL own ix 5 0 ∧ mg_FL own ix 6 0 ∧ mg_FL own ix 7 0 ∧ mg_FL own ix 8 0
theorem mg_getDeep {X : mg_X} {Y : mg_Y} {Q : State → Prop} {M : mg_M} {k j pc ix a : Nat} {lv : List (Option Value)} {rest : List Value} {g : gN} (L : mg_DL (mg_own Y) ix) (hd : decode (mg_cc Y) pc = .ok (.getfield ix, 3)) (hM : M a = some (genE g)) (kk : mg_G X Y Q M k j (pc + 3) lv (.int (nI g.2.2.2) :: rest)) : mg_G X Y Q M k j pc lv (.ref a :: rest) := by
  obtain ⟨kd, ga, gb, dp⟩ := g
  match kd, hM with
  | 0, hM => exact mg_getfield L.1 hd hM rfl kk
  | 1, hM => exact mg_getfield L.2.1 hd hM rfl kk
  | 2, hM => exact mg_getfield L.2.2.1 hd hM rfl kk
  | 3, hM => exact mg_getfield L.2.2.2.1 hd hM rfl kk
  | 4, hM => exact mg_getfield L.2.2.2.2.1 hd hM rfl kk
  | n + 5, hM => exact mg_getfield L.2.2.2.2.2 hd hM rfl kk

theorem dl_LO : mg_DL "PropertyShrink$ListOf" 1 := ⟨fl_LO_1_IR, fl_LO_1_LO, fl_LO_1_PO, fl_LO_1_OO, fl_LO_1_KO, fl_LO_1_AT⟩
theorem dl_KO : mg_DL "PropertyShrink$KeepOf" 3 := ⟨fl_KO_3_IR, fl_KO_3_LO, fl_KO_3_PO, fl_KO_3_OO, fl_KO_3_KO, fl_KO_3_AT⟩
theorem dl_AT : mg_DL "PropertyShrink$AddTo" 1 := ⟨fl_AT_1_IR, fl_AT_1_LO, fl_AT_1_PO, fl_AT_1_OO, fl_AT_1_KO, fl_AT_1_AT⟩
theorem dl_PO : mg_DL "PropertyShrink$PairOf" 1 := ⟨fl_PO_1_IR, fl_PO_1_LO, fl_PO_1_PO, fl_PO_1_OO, fl_PO_1_KO, fl_PO_1_AT⟩
theorem dl_OO : mg_DL "PropertyShrink$OneOf" 1 := ⟨fl_OO_1_IR, fl_OO_1_LO, fl_OO_1_PO, fl_OO_1_OO, fl_OO_1_KO, fl_OO_1_AT⟩
theorem dl_PS : mg_DL "PropertyShrink" 52 := ⟨fl_PS_52_IR, fl_PS_52_LO, fl_PS_52_PO, fl_PS_52_OO, fl_PS_52_KO, fl_PS_52_AT⟩
set_option maxHeartbeats 4000000 in
set_option maxRecDepth 100000 in
theorem c_Ge_init_IR {M : mg_M} {h : Nat} {w a b : Value} {n : Int32} (h0 : M h = some (.inr (3, [w, a, b]))) : mg_Ct Y_Ge_init { frames := 1, cells := 0, slots := 0, locals := 12 } [.ref h, .int n] M (fun v M' => v = none ∧ M' = mg_up M h (.inr (3, [.int n, a, b]))) := by
  refine mg_met [some (.ref h), some (.int n)] (by decide +kernel) rfl (Nat.le_of_ble_eq_true rfl) ?_
  intro X hR _
  first | refine mg_aload_n d_Ge_init_0 rfl rfl ?_ | refine mg_aload_nN d_Ge_init_0 rfl rfl ?_
  refine mg_objInit ol_Ge_1 oi_inst oi_code d_Ge_init_1 (by rw [hR]; decide) (by rw [hR]; exact Nat.le_of_ble_eq_true rfl) ?_
  first | refine mg_aload_n d_Ge_init_4 rfl rfl ?_ | refine mg_aload_nN d_Ge_init_4 rfl rfl ?_
  refine mg_iload_n d_Ge_init_5 rfl rfl ?_
  refine mg_putfield fw_Ge_7_IR d_Ge_init_6 h0 (Nat.le_of_ble_eq_true rfl) (fun _ => ⟨rfl, rfl⟩) ?_
  exact mg_return d_Ge_init_9 rfl (Nat.le_of_ble_eq_true rfl) (Nat.le_of_ble_eq_true rfl) ⟨rfl, rfl⟩

set_option maxHeartbeats 4000000 in
set_option maxRecDepth 100000 in
theorem c_Ge_init_LO {M : mg_M} {h : Nat} {w a b : Value} {n : Int32} (h0 : M h = some (.inr (4, [w, a, b]))) : mg_Ct Y_Ge_init { frames := 1, cells := 0, slots := 0, locals := 12 } [.ref h, .int n] M (fun v M' => v = none ∧ M' = mg_up M h (.inr (4, [.int n, a, b]))) := by
  refine mg_met [some (.ref h), some (.int n)] (by decide +kernel) rfl (Nat.le_of_ble_eq_true rfl) ?_
  intro X hR _
  first | refine mg_aload_n d_Ge_init_0 rfl rfl ?_ | refine mg_aload_nN d_Ge_init_0 rfl rfl ?_
  refine mg_objInit ol_Ge_1 oi_inst oi_code d_Ge_init_1 (by rw [hR]; decide) (by rw [hR]; exact Nat.le_of_ble_eq_true rfl) ?_
  first | refine mg_aload_n d_Ge_init_4 rfl rfl ?_ | refine mg_aload_nN d_Ge_init_4 rfl rfl ?_
  refine mg_iload_n d_Ge_init_5 rfl rfl ?_
  refine mg_putfield fw_Ge_7_LO d_Ge_init_6 h0 (Nat.le_of_ble_eq_true rfl) (fun _ => ⟨rfl, rfl⟩) ?_
  exact mg_return d_Ge_init_9 rfl (Nat.le_of_ble_eq_true rfl) (Nat.le_of_ble_eq_true rfl) ⟨rfl, rfl⟩

set_option maxHeartbeats 4000000 in
set_option maxRecDepth 100000 in
theorem c_Ge_init_PO {M : mg_M} {h : Nat} {w a b : Value} {n : Int32} (h0 : M h = some (.inr (5, [w, a, b]))) : mg_Ct Y_Ge_init { frames := 1, cells := 0, slots := 0, locals := 12 } [.ref h, .int n] M (fun v M' => v = none ∧ M' = mg_up M h (.inr (5, [.int n, a, b]))) := by
  refine mg_met [some (.ref h), some (.int n)] (by decide +kernel) rfl (Nat.le_of_ble_eq_true rfl) ?_
  intro X hR _
  first | refine mg_aload_n d_Ge_init_0 rfl rfl ?_ | refine mg_aload_nN d_Ge_init_0 rfl rfl ?_
  refine mg_objInit ol_Ge_1 oi_inst oi_code d_Ge_init_1 (by rw [hR]; decide) (by rw [hR]; exact Nat.le_of_ble_eq_true rfl) ?_
  first | refine mg_aload_n d_Ge_init_4 rfl rfl ?_ | refine mg_aload_nN d_Ge_init_4 rfl rfl ?_
  refine mg_iload_n d_Ge_init_5 rfl rfl ?_
  refine mg_putfield fw_Ge_7_PO d_Ge_init_6 h0 (Nat.le_of_ble_eq_true rfl) (fun _ => ⟨rfl, rfl⟩) ?_
  exact mg_return d_Ge_init_9 rfl (Nat.le_of_ble_eq_true rfl) (Nat.le_of_ble_eq_true rfl) ⟨rfl, rfl⟩

set_option maxHeartbeats 4000000 in
set_option maxRecDepth 100000 in
theorem c_Ge_init_OO {M : mg_M} {h : Nat} {w a b : Value} {n : Int32} (h0 : M h = some (.inr (6, [w, a, b]))) : mg_Ct Y_Ge_init { frames := 1, cells := 0, slots := 0, locals := 12 } [.ref h, .int n] M (fun v M' => v = none ∧ M' = mg_up M h (.inr (6, [.int n, a, b]))) := by
  refine mg_met [some (.ref h), some (.int n)] (by decide +kernel) rfl (Nat.le_of_ble_eq_true rfl) ?_
  intro X hR _
  first | refine mg_aload_n d_Ge_init_0 rfl rfl ?_ | refine mg_aload_nN d_Ge_init_0 rfl rfl ?_
  refine mg_objInit ol_Ge_1 oi_inst oi_code d_Ge_init_1 (by rw [hR]; decide) (by rw [hR]; exact Nat.le_of_ble_eq_true rfl) ?_
  first | refine mg_aload_n d_Ge_init_4 rfl rfl ?_ | refine mg_aload_nN d_Ge_init_4 rfl rfl ?_
  refine mg_iload_n d_Ge_init_5 rfl rfl ?_
  refine mg_putfield fw_Ge_7_OO d_Ge_init_6 h0 (Nat.le_of_ble_eq_true rfl) (fun _ => ⟨rfl, rfl⟩) ?_
  exact mg_return d_Ge_init_9 rfl (Nat.le_of_ble_eq_true rfl) (Nat.le_of_ble_eq_true rfl) ⟨rfl, rfl⟩

set_option maxHeartbeats 4000000 in
set_option maxRecDepth 100000 in
theorem c_Ge_init_KO {M : mg_M} {h : Nat} {w a b : Value} {n : Int32} (h0 : M h = some (.inr (7, [w, a, b]))) : mg_Ct Y_Ge_init { frames := 1, cells := 0, slots := 0, locals := 12 } [.ref h, .int n] M (fun v M' => v = none ∧ M' = mg_up M h (.inr (7, [.int n, a, b]))) := by
  refine mg_met [some (.ref h), some (.int n)] (by decide +kernel) rfl (Nat.le_of_ble_eq_true rfl) ?_
  intro X hR _
  first | refine mg_aload_n d_Ge_init_0 rfl rfl ?_ | refine mg_aload_nN d_Ge_init_0 rfl rfl ?_
  refine mg_objInit ol_Ge_1 oi_inst oi_code d_Ge_init_1 (by rw [hR]; decide) (by rw [hR]; exact Nat.le_of_ble_eq_true rfl) ?_
  first | refine mg_aload_n d_Ge_init_4 rfl rfl ?_ | refine mg_aload_nN d_Ge_init_4 rfl rfl ?_
  refine mg_iload_n d_Ge_init_5 rfl rfl ?_
  refine mg_putfield fw_Ge_7_KO d_Ge_init_6 h0 (Nat.le_of_ble_eq_true rfl) (fun _ => ⟨rfl, rfl⟩) ?_
  exact mg_return d_Ge_init_9 rfl (Nat.le_of_ble_eq_true rfl) (Nat.le_of_ble_eq_true rfl) ⟨rfl, rfl⟩

set_option maxHeartbeats 4000000 in
set_option maxRecDepth 100000 in
theorem c_Ge_init_AT {M : mg_M} {h : Nat} {w a b : Value} {n : Int32} (h0 : M h = some (.inr (8, [w, a, b]))) : mg_Ct Y_Ge_init { frames := 1, cells := 0, slots := 0, locals := 12 } [.ref h, .int n] M (fun v M' => v = none ∧ M' = mg_up M h (.inr (8, [.int n, a, b]))) := by
  refine mg_met [some (.ref h), some (.int n)] (by decide +kernel) rfl (Nat.le_of_ble_eq_true rfl) ?_
  intro X hR _
  first | refine mg_aload_n d_Ge_init_0 rfl rfl ?_ | refine mg_aload_nN d_Ge_init_0 rfl rfl ?_
  refine mg_objInit ol_Ge_1 oi_inst oi_code d_Ge_init_1 (by rw [hR]; decide) (by rw [hR]; exact Nat.le_of_ble_eq_true rfl) ?_
  first | refine mg_aload_n d_Ge_init_4 rfl rfl ?_ | refine mg_aload_nN d_Ge_init_4 rfl rfl ?_
  refine mg_iload_n d_Ge_init_5 rfl rfl ?_
  refine mg_putfield fw_Ge_7_AT d_Ge_init_6 h0 (Nat.le_of_ble_eq_true rfl) (fun _ => ⟨rfl, rfl⟩) ?_
  exact mg_return d_Ge_init_9 rfl (Nat.le_of_ble_eq_true rfl) (Nat.le_of_ble_eq_true rfl) ⟨rfl, rfl⟩

set_option maxHeartbeats 4000000 in
set_option maxRecDepth 100000 in
theorem c_IR_init {M : mg_M} {h : Nat} {a b : Int32} (h0 : M h = some (.inr (3, [.int 0, .int 0, .int 0]))) : mg_Ct Y_IR_init { frames := 2, cells := 0, slots := 0, locals := 33 } [.ref h, .int a, .int b] M (fun v M' => v = none ∧ M' = mg_up M h (genE (0, a, b, 1))) := by
  refine mg_met [some (.ref h), some (.int a), some (.int b)] (by decide +kernel) rfl (Nat.le_of_ble_eq_true rfl) ?_
  intro X hR _
  first | refine mg_aload_n d_IR_init_0 rfl rfl ?_ | refine mg_aload_nN d_IR_init_0 rfl rfl ?_
  refine mg_iconst (v := 1) d_IR_init_1 (by decide) ?_
  refine mg_callI (il_IR_1 rfl) d_IR_init_2 (c_Ge_init_IR h0) rfl rfl (by rw [hR]; decide) (by rw [hR]; decide) (Nat.le_of_ble_eq_true rfl) ?_
  rintro v M1 ⟨rfl, rfl⟩
  first | refine mg_aload_n d_IR_init_5 rfl rfl ?_ | refine mg_aload_nN d_IR_init_5 rfl rfl ?_
  refine mg_iload_n d_IR_init_6 rfl rfl ?_
  refine mg_putfield fw_IR_7 d_IR_init_7 (mg_up_s _ _ _) (Nat.le_of_ble_eq_true rfl) (fun _ => ⟨rfl, rfl⟩) ?_
  rw [mg_up_up]
  first | refine mg_aload_n d_IR_init_10 rfl rfl ?_ | refine mg_aload_nN d_IR_init_10 rfl rfl ?_
  refine mg_iload_n d_IR_init_11 rfl rfl ?_
  refine mg_putfield fw_IR_13 d_IR_init_12 (mg_up_s _ _ _) (Nat.le_of_ble_eq_true rfl) (fun _ => ⟨rfl, rfl⟩) ?_
  rw [mg_up_up]
  exact mg_return d_IR_init_15 rfl (Nat.le_of_ble_eq_true rfl) (Nat.le_of_ble_eq_true rfl) ⟨rfl, rfl⟩

set_option maxHeartbeats 4000000 in
set_option maxRecDepth 100000 in
theorem c_LO_init {M : mg_M} {h p : Nat} {b : Int32} {g : gN} (h0 : M h = some (.inr (4, [.int 0, .null, .int 0]))) (hp : M p = some (genE g)) : mg_Ct Y_LO_init { frames := 2, cells := 0, slots := 0, locals := 33 } [.ref h, .ref p, .int b] M (fun v M' => v = none ∧ M' = mg_up M h (.inr (4, [.int (nI (g.2.2.2 + 1)), .ref p, .int b]))) := by
  refine mg_met [some (.ref h), some (.ref p), some (.int b)] (by decide +kernel) rfl (Nat.le_of_ble_eq_true rfl) ?_
  intro X hR _
  first | refine mg_aload_n d_LO_init_0 rfl rfl ?_ | refine mg_aload_nN d_LO_init_0 rfl rfl ?_
  first | refine mg_aload_n d_LO_init_1 rfl rfl ?_ | refine mg_aload_nN d_LO_init_1 rfl rfl ?_
  refine mg_getDeep dl_LO d_LO_init_2 hp ?_
  refine mg_iconst (v := 1) d_LO_init_5 (by decide) ?_
  refine mg_iadd d_LO_init_6 ?_
  refine mg_callI (il_LO_7 rfl) d_LO_init_7 (c_Ge_init_LO h0) rfl rfl (by rw [hR]; decide) (by rw [hR]; decide) (Nat.le_of_ble_eq_true rfl) ?_
  rintro v M1 ⟨rfl, rfl⟩
  rw [nI_1]
  first | refine mg_aload_n d_LO_init_10 rfl rfl ?_ | refine mg_aload_nN d_LO_init_10 rfl rfl ?_
  first | refine mg_aload_n d_LO_init_11 rfl rfl ?_ | refine mg_aload_nN d_LO_init_11 rfl rfl ?_
  refine mg_putfield fw_LO_11 d_LO_init_12 (mg_up_s _ _ _) (Nat.le_of_ble_eq_true rfl) (fun _ => ⟨rfl, rfl⟩) ?_
  rw [mg_up_up]
  first | refine mg_aload_n d_LO_init_15 rfl rfl ?_ | refine mg_aload_nN d_LO_init_15 rfl rfl ?_
  refine mg_iload_n d_LO_init_16 rfl rfl ?_
  refine mg_putfield fw_LO_17 d_LO_init_17 (mg_up_s _ _ _) (Nat.le_of_ble_eq_true rfl) (fun _ => ⟨rfl, rfl⟩) ?_
  rw [mg_up_up]
  exact mg_return d_LO_init_20 rfl (Nat.le_of_ble_eq_true rfl) (Nat.le_of_ble_eq_true rfl) ⟨rfl, rfl⟩

set_option maxHeartbeats 4000000 in
set_option maxRecDepth 100000 in
theorem c_KO_init {M : mg_M} {h p : Nat} {b : Int32} {g : gN} (h0 : M h = some (.inr (7, [.int 0, .null, .int 0]))) (hp : M p = some (genE g)) : mg_Ct Y_KO_init { frames := 2, cells := 0, slots := 0, locals := 33 } [.ref h, .ref p, .int b] M (fun v M' => v = none ∧ M' = mg_up M h (.inr (7, [.int (nI (g.2.2.2 + 1)), .ref p, .int b]))) := by
  refine mg_met [some (.ref h), some (.ref p), some (.int b)] (by decide +kernel) rfl (Nat.le_of_ble_eq_true rfl) ?_
  intro X hR _
  first | refine mg_aload_n d_KO_init_0 rfl rfl ?_ | refine mg_aload_nN d_KO_init_0 rfl rfl ?_
  first | refine mg_aload_n d_KO_init_1 rfl rfl ?_ | refine mg_aload_nN d_KO_init_1 rfl rfl ?_
  refine mg_getDeep dl_KO d_KO_init_2 hp ?_
  refine mg_iconst (v := 1) d_KO_init_5 (by decide) ?_
  refine mg_iadd d_KO_init_6 ?_
  refine mg_callI (il_KO_9 rfl) d_KO_init_7 (c_Ge_init_KO h0) rfl rfl (by rw [hR]; decide) (by rw [hR]; decide) (Nat.le_of_ble_eq_true rfl) ?_
  rintro v M1 ⟨rfl, rfl⟩
  rw [nI_1]
  first | refine mg_aload_n d_KO_init_10 rfl rfl ?_ | refine mg_aload_nN d_KO_init_10 rfl rfl ?_
  first | refine mg_aload_n d_KO_init_11 rfl rfl ?_ | refine mg_aload_nN d_KO_init_11 rfl rfl ?_
  refine mg_putfield fw_KO_13 d_KO_init_12 (mg_up_s _ _ _) (Nat.le_of_ble_eq_true rfl) (fun _ => ⟨rfl, rfl⟩) ?_
  rw [mg_up_up]
  first | refine mg_aload_n d_KO_init_15 rfl rfl ?_ | refine mg_aload_nN d_KO_init_15 rfl rfl ?_
  refine mg_iload_n d_KO_init_16 rfl rfl ?_
  refine mg_putfield fw_KO_19 d_KO_init_17 (mg_up_s _ _ _) (Nat.le_of_ble_eq_true rfl) (fun _ => ⟨rfl, rfl⟩) ?_
  rw [mg_up_up]
  exact mg_return d_KO_init_20 rfl (Nat.le_of_ble_eq_true rfl) (Nat.le_of_ble_eq_true rfl) ⟨rfl, rfl⟩

set_option maxHeartbeats 4000000 in
set_option maxRecDepth 100000 in
theorem c_AT_init {M : mg_M} {h p : Nat} {b : Int32} {g : gN} (h0 : M h = some (.inr (8, [.int 0, .null, .int 0]))) (hp : M p = some (genE g)) : mg_Ct Y_AT_init { frames := 2, cells := 0, slots := 0, locals := 33 } [.ref h, .ref p, .int b] M (fun v M' => v = none ∧ M' = mg_up M h (.inr (8, [.int (nI (g.2.2.2 + 1)), .ref p, .int b]))) := by
  refine mg_met [some (.ref h), some (.ref p), some (.int b)] (by decide +kernel) rfl (Nat.le_of_ble_eq_true rfl) ?_
  intro X hR _
  first | refine mg_aload_n d_AT_init_0 rfl rfl ?_ | refine mg_aload_nN d_AT_init_0 rfl rfl ?_
  first | refine mg_aload_n d_AT_init_1 rfl rfl ?_ | refine mg_aload_nN d_AT_init_1 rfl rfl ?_
  refine mg_getDeep dl_AT d_AT_init_2 hp ?_
  refine mg_iconst (v := 1) d_AT_init_5 (by decide) ?_
  refine mg_iadd d_AT_init_6 ?_
  refine mg_callI (il_AT_7 rfl) d_AT_init_7 (c_Ge_init_AT h0) rfl rfl (by rw [hR]; decide) (by rw [hR]; decide) (Nat.le_of_ble_eq_true rfl) ?_
  rintro v M1 ⟨rfl, rfl⟩
  rw [nI_1]
  first | refine mg_aload_n d_AT_init_10 rfl rfl ?_ | refine mg_aload_nN d_AT_init_10 rfl rfl ?_
  first | refine mg_aload_n d_AT_init_11 rfl rfl ?_ | refine mg_aload_nN d_AT_init_11 rfl rfl ?_
  refine mg_putfield fw_AT_11 d_AT_init_12 (mg_up_s _ _ _) (Nat.le_of_ble_eq_true rfl) (fun _ => ⟨rfl, rfl⟩) ?_
  rw [mg_up_up]
  first | refine mg_aload_n d_AT_init_15 rfl rfl ?_ | refine mg_aload_nN d_AT_init_15 rfl rfl ?_
  refine mg_iload_n d_AT_init_16 rfl rfl ?_
  refine mg_putfield fw_AT_17 d_AT_init_17 (mg_up_s _ _ _) (Nat.le_of_ble_eq_true rfl) (fun _ => ⟨rfl, rfl⟩) ?_
  rw [mg_up_up]
  exact mg_return d_AT_init_20 rfl (Nat.le_of_ble_eq_true rfl) (Nat.le_of_ble_eq_true rfl) ⟨rfl, rfl⟩

theorem max_nI {a b : Nat} (ha : a ≤ 8) (hb : b ≤ 8) : (if nI a < nI b then nI b else nI a) + 1 = nI (max a b + 1) := by
  by_cases h : a < b
  · rw [if_pos (nI_lt h (by omega)), nI_1, Nat.max_eq_right (by omega)]
  · rw [if_neg (nI_nlt (by omega) (by omega)), nI_1, Nat.max_eq_left (by omega)]
set_option maxHeartbeats 4000000 in
set_option maxRecDepth 100000 in
theorem c_PO_init {M : mg_M} {h p q : Nat} {g g2 : gN} (h0 : M h = some (.inr (5, [.int 0, .null, .null]))) (hp : M p = some (genE g)) (hq : M q = some (genE g2)) (l1 : g.2.2.2 ≤ 8) (l2 : g2.2.2.2 ≤ 8) : mg_Ct Y_PO_init { frames := 2, cells := 0, slots := 0, locals := 33 } [.ref h, .ref p, .ref q] M (fun v M' => v = none ∧ M' = mg_up M h (.inr (5, [.int (nI (max g.2.2.2 g2.2.2.2 + 1)), .ref p, .ref q]))) := by
  refine mg_met [some (.ref h), some (.ref p), some (.ref q)] (by decide +kernel) rfl (Nat.le_of_ble_eq_true rfl) ?_
  intro X hR _
  first | refine mg_aload_n d_PO_init_0 rfl rfl ?_ | refine mg_aload_nN d_PO_init_0 rfl rfl ?_
  first | refine mg_aload_n d_PO_init_1 rfl rfl ?_ | refine mg_aload_nN d_PO_init_1 rfl rfl ?_
  refine mg_getDeep dl_PO d_PO_init_2 hp ?_
  first | refine mg_aload_n d_PO_init_5 rfl rfl ?_ | refine mg_aload_nN d_PO_init_5 rfl rfl ?_
  refine mg_getDeep dl_PO d_PO_init_6 hq ?_
  refine mg_max ml_PO_7 mt_max_s mt_init mt_max_c d_PO_init_9 (by rw [hR]; decide) (by rw [hR]; exact Nat.le_of_ble_eq_true rfl) (by rw [hR]; exact Nat.le_of_ble_eq_true rfl) (by rw [hR]; exact Nat.le_of_ble_eq_true rfl) ?_
  refine mg_iconst (v := 1) d_PO_init_12 (by decide) ?_
  refine mg_iadd d_PO_init_13 ?_
  refine mg_callI (il_PO_13 rfl) d_PO_init_14 (c_Ge_init_PO h0) rfl rfl (by rw [hR]; decide) (by rw [hR]; decide) (Nat.le_of_ble_eq_true rfl) ?_
  rintro v M1 ⟨rfl, rfl⟩
  rw [max_nI l1 l2]
  first | refine mg_aload_n d_PO_init_17 rfl rfl ?_ | refine mg_aload_nN d_PO_init_17 rfl rfl ?_
  first | refine mg_aload_n d_PO_init_18 rfl rfl ?_ | refine mg_aload_nN d_PO_init_18 rfl rfl ?_
  refine mg_putfield fw_PO_17 d_PO_init_19 (mg_up_s _ _ _) (Nat.le_of_ble_eq_true rfl) (fun _ => ⟨rfl, rfl⟩) ?_
  rw [mg_up_up]
  first | refine mg_aload_n d_PO_init_22 rfl rfl ?_ | refine mg_aload_nN d_PO_init_22 rfl rfl ?_
  first | refine mg_aload_n d_PO_init_23 rfl rfl ?_ | refine mg_aload_nN d_PO_init_23 rfl rfl ?_
  refine mg_putfield fw_PO_23 d_PO_init_24 (mg_up_s _ _ _) (Nat.le_of_ble_eq_true rfl) (fun _ => ⟨rfl, rfl⟩) ?_
  rw [mg_up_up]
  exact mg_return d_PO_init_27 rfl (Nat.le_of_ble_eq_true rfl) (Nat.le_of_ble_eq_true rfl) ⟨rfl, rfl⟩

set_option maxHeartbeats 4000000 in
set_option maxRecDepth 100000 in
theorem c_OO_init {M : mg_M} {h p q : Nat} {g g2 : gN} (h0 : M h = some (.inr (6, [.int 0, .null, .null]))) (hp : M p = some (genE g)) (hq : M q = some (genE g2)) (l1 : g.2.2.2 ≤ 8) (l2 : g2.2.2.2 ≤ 8) : mg_Ct Y_OO_init { frames := 2, cells := 0, slots := 0, locals := 33 } [.ref h, .ref p, .ref q] M (fun v M' => v = none ∧ M' = mg_up M h (.inr (6, [.int (nI (max g.2.2.2 g2.2.2.2 + 1)), .ref p, .ref q]))) := by
  refine mg_met [some (.ref h), some (.ref p), some (.ref q)] (by decide +kernel) rfl (Nat.le_of_ble_eq_true rfl) ?_
  intro X hR _
  first | refine mg_aload_n d_OO_init_0 rfl rfl ?_ | refine mg_aload_nN d_OO_init_0 rfl rfl ?_
  first | refine mg_aload_n d_OO_init_1 rfl rfl ?_ | refine mg_aload_nN d_OO_init_1 rfl rfl ?_
  refine mg_getDeep dl_OO d_OO_init_2 hp ?_
  first | refine mg_aload_n d_OO_init_5 rfl rfl ?_ | refine mg_aload_nN d_OO_init_5 rfl rfl ?_
  refine mg_getDeep dl_OO d_OO_init_6 hq ?_
  refine mg_max ml_OO_7 mt_max_s mt_init mt_max_c d_OO_init_9 (by rw [hR]; decide) (by rw [hR]; exact Nat.le_of_ble_eq_true rfl) (by rw [hR]; exact Nat.le_of_ble_eq_true rfl) (by rw [hR]; exact Nat.le_of_ble_eq_true rfl) ?_
  refine mg_iconst (v := 1) d_OO_init_12 (by decide) ?_
  refine mg_iadd d_OO_init_13 ?_
  refine mg_callI (il_OO_13 rfl) d_OO_init_14 (c_Ge_init_OO h0) rfl rfl (by rw [hR]; decide) (by rw [hR]; decide) (Nat.le_of_ble_eq_true rfl) ?_
  rintro v M1 ⟨rfl, rfl⟩
  rw [max_nI l1 l2]
  first | refine mg_aload_n d_OO_init_17 rfl rfl ?_ | refine mg_aload_nN d_OO_init_17 rfl rfl ?_
  first | refine mg_aload_n d_OO_init_18 rfl rfl ?_ | refine mg_aload_nN d_OO_init_18 rfl rfl ?_
  refine mg_putfield fw_OO_17 d_OO_init_19 (mg_up_s _ _ _) (Nat.le_of_ble_eq_true rfl) (fun _ => ⟨rfl, rfl⟩) ?_
  rw [mg_up_up]
  first | refine mg_aload_n d_OO_init_22 rfl rfl ?_ | refine mg_aload_nN d_OO_init_22 rfl rfl ?_
  first | refine mg_aload_n d_OO_init_23 rfl rfl ?_ | refine mg_aload_nN d_OO_init_23 rfl rfl ?_
  refine mg_putfield fw_OO_23 d_OO_init_24 (mg_up_s _ _ _) (Nat.le_of_ble_eq_true rfl) (fun _ => ⟨rfl, rfl⟩) ?_
  rw [mg_up_up]
  exact mg_return d_OO_init_27 rfl (Nat.le_of_ble_eq_true rfl) (Nat.le_of_ble_eq_true rfl) ⟨rfl, rfl⟩

abbrev pN : Type := Int32 × Int32 × Int32
def prE (p : pN) : va_E := .inr (9, [.int p.1, .int p.2.1, .int p.2.2])
set_option maxHeartbeats 4000000 in
set_option maxRecDepth 100000 in
theorem c_Pr_init {M : mg_M} {h : Nat} {a b c : Int32} (h0 : M h = some (.inr (9, [.int 0, .int 0, .int 0]))) : mg_Ct Y_Pr_init { frames := 1, cells := 0, slots := 0, locals := 12 } [.ref h, .int a, .int b, .int c] M (fun v M' => v = none ∧ M' = mg_up M h (prE (a, b, c))) := by
  refine mg_met [some (.ref h), some (.int a), some (.int b), some (.int c)] (by decide +kernel) rfl (Nat.le_of_ble_eq_true rfl) ?_
  intro X hR _
  first | refine mg_aload_n d_Pr_init_0 rfl rfl ?_ | refine mg_aload_nN d_Pr_init_0 rfl rfl ?_
  refine mg_objInit ol_Pr_3 oi_inst oi_code d_Pr_init_1 (by rw [hR]; decide) (by rw [hR]; exact Nat.le_of_ble_eq_true rfl) ?_
  first | refine mg_aload_n d_Pr_init_4 rfl rfl ?_ | refine mg_aload_nN d_Pr_init_4 rfl rfl ?_
  refine mg_iload_n d_Pr_init_5 rfl rfl ?_
  refine mg_putfield fw_Pr_9 d_Pr_init_6 h0 (Nat.le_of_ble_eq_true rfl) (fun _ => ⟨rfl, rfl⟩) ?_
  first | refine mg_aload_n d_Pr_init_9 rfl rfl ?_ | refine mg_aload_nN d_Pr_init_9 rfl rfl ?_
  refine mg_iload_n d_Pr_init_10 rfl rfl ?_
  refine mg_putfield fw_Pr_15 d_Pr_init_11 (mg_up_s _ _ _) (Nat.le_of_ble_eq_true rfl) (fun _ => ⟨rfl, rfl⟩) ?_
  rw [mg_up_up]
  first | refine mg_aload_n d_Pr_init_14 rfl rfl ?_ | refine mg_aload_nN d_Pr_init_14 rfl rfl ?_
  refine mg_iload_n d_Pr_init_15 rfl rfl ?_
  refine mg_putfield fw_Pr_18 d_Pr_init_16 (mg_up_s _ _ _) (Nat.le_of_ble_eq_true rfl) (fun _ => ⟨rfl, rfl⟩) ?_
  rw [mg_up_up]
  exact mg_return d_Pr_init_19 rfl (Nat.le_of_ble_eq_true rfl) (Nat.le_of_ble_eq_true rfl) ⟨rfl, rfl⟩

theorem cmp_le {x y : Int64} : lg_cmp x y ≤ 0 ↔ ¬ y < x := by
  unfold lg_cmp
  by_cases h : y < x
  · rw [if_pos h]; exact ⟨fun e => absurd e (by decide), fun e => absurd h e⟩
  · rw [if_neg h]
    by_cases h2 : x = y
    · rw [if_pos h2]; exact ⟨fun _ => h, fun _ => by decide⟩
    · rw [if_neg h2]; exact ⟨fun _ => h, fun _ => by decide⟩
/-- what a property says of numbers -/
def vdF (p : pN) (ns : List Int32) : Int32 := if nI ns.length < p.2.2 then 3 else if p.1 = 0 then (if p.2.1.toInt64 < sumF 0 ns then 1 else 0) else if p.1 = 1 then bI (hasL ns p.2.1) else if p.1 = 2 then bI (fallL ns) else if p.1 = 3 then (if nI ns.length < p.2.1 then 0 else 1) else (if hasL ns p.2.1 = true then 2 else 0)
theorem vdF_3 {kd k c : Int32} {ns : List Int32} (h : nI ns.length < c) : vdF (kd, k, c) ns = 3 := by
  show (if nI ns.length < c then (3 : Int32) else _) = 3
  rw [if_pos h]
theorem vdF_k0 {k c : Int32} {ns : List Int32} (h : ¬ nI ns.length < c) : vdF (0, k, c) ns = if k.toInt64 < sumF 0 ns then 1 else 0 := by
  show (if nI ns.length < c then (3 : Int32) else if (0 : Int32) = 0 then _ else _) = _
  rw [if_neg h, if_pos rfl]
theorem vdF_k1 {k c : Int32} {ns : List Int32} (h : ¬ nI ns.length < c) : vdF (1, k, c) ns = bI (hasL ns k) := by
  show (if nI ns.length < c then (3 : Int32) else if (1 : Int32) = 0 then _ else if (1 : Int32) = 1 then _ else _) = _
  rw [if_neg h, if_neg (by decide), if_pos rfl]
theorem vdF_k2 {k c : Int32} {ns : List Int32} (h : ¬ nI ns.length < c) : vdF (2, k, c) ns = bI (fallL ns) := by
  show (if nI ns.length < c then (3 : Int32) else if (2 : Int32) = 0 then _ else if (2 : Int32) = 1 then _ else if (2 : Int32) = 2 then _ else _) = _
  rw [if_neg h, if_neg (by decide), if_neg (by decide), if_pos rfl]
theorem vdF_k3 {k c : Int32} {ns : List Int32} (h : ¬ nI ns.length < c) : vdF (3, k, c) ns = if nI ns.length < k then 0 else 1 := by
  show (if nI ns.length < c then (3 : Int32) else if (3 : Int32) = 0 then _ else if (3 : Int32) = 1 then _ else if (3 : Int32) = 2 then _ else if (3 : Int32) = 3 then _ else _) = _
  rw [if_neg h, if_neg (by decide), if_neg (by decide), if_neg (by decide), if_pos rfl]
theorem vdF_k4 {kd k c : Int32} {ns : List Int32} (h : ¬ nI ns.length < c) (h0 : ¬ kd = 0) (h1 : ¬ kd = 1) (h2 : ¬ kd = 2) (h3 : ¬ kd = 3) : vdF (kd, k, c) ns = if hasL ns k = true then 2 else 0 := by
  show (if nI ns.length < c then (3 : Int32) else if kd = 0 then _ else if kd = 1 then _ else if kd = 2 then _ else if kd = 3 then _ else _) = _
  rw [if_neg h, if_neg h0, if_neg h1, if_neg h2, if_neg h3]

set_option maxHeartbeats 4000000 in
set_option maxRecDepth 100000 in
theorem c_Pr_judge {M : mg_M} {h hn : Nat} {kd k c : Int32} {ns : List Int32} (hP : M h = some (prE (kd, k, c))) (hI : isI M hn ns) : mg_Ct Y_Pr_judge { frames := 2, cells := 0, slots := 0, locals := 46 } [.ref h, .ref hn] M (fun v M' => v = some (.int (vdF (kd, k, c) ns)) ∧ M' = M) := by
  replace hP : M h = some (.inr (9, [.int kd, .int k, .int c])) := hP
  refine mg_met [some (.ref h), some (.ref hn)] (by decide +kernel) rfl (Nat.le_of_ble_eq_true rfl) ?_
  intro X hR _
  first | refine mg_aload_n d_Pr_judge_0 rfl rfl ?_ | refine mg_aload_nN d_Pr_judge_0 rfl rfl ?_
  refine mg_callV (vl_Pr_21 rfl) d_Pr_judge_1 (by obtain ⟨_, e1, -⟩ := hI; exact e1) rfl rfl (c_In_length hI) rfl rfl (by rw [hR]; decide) (by rw [hR]; decide) (Nat.le_of_ble_eq_true rfl) ?_
  rintro v M1 ⟨rfl, rfl⟩
  first | refine mg_aload_n d_Pr_judge_4 rfl rfl ?_ | refine mg_aload_nN d_Pr_judge_4 rfl rfl ?_
  refine mg_getfield fl_Pr_18 d_Pr_judge_5 hP rfl ?_
  refine mg_icmp_ge (tgt := 13) d_Pr_judge_8 (by decide) (fun c_8 => ?_) (fun c_8 => ?_)
  · first | refine mg_aload_n d_Pr_judge_13 rfl rfl ?_ | refine mg_aload_nN d_Pr_judge_13 rfl rfl ?_
    refine mg_getfield fl_Pr_9 d_Pr_judge_14 hP rfl ?_
    have h3 : ¬ nI ns.length < c := Int32.not_lt.mpr c_8
    by_cases k0 : kd = 0
    · subst k0
      refine mg_tableIn (off := 31) (tgt := 48) d_Pr_judge_17 (by decide) (by decide) rfl (by decide) ?_
      first | refine mg_aload_n d_Pr_judge_48 rfl rfl ?_ | refine mg_aload_nN d_Pr_judge_48 rfl rfl ?_
      refine mg_iconst (v := 0) d_Pr_judge_49 (by decide) ?_
      refine mg_callV (vl_Pr_27 rfl) d_Pr_judge_50 (by obtain ⟨_, e1, -⟩ := hI; exact e1) rfl rfl (c_In_totalFrom (a := 0) hI (by decide)) rfl rfl (by rw [hR]; decide) (by rw [hR]; decide) (Nat.le_of_ble_eq_true rfl) ?_
      rintro v M2 ⟨rfl, rfl⟩
      rw [List.drop_zero]
      first | refine mg_aload_n d_Pr_judge_53 rfl rfl ?_ | refine mg_aload_nN d_Pr_judge_53 rfl rfl ?_
      refine mg_getfield fl_Pr_15 d_Pr_judge_54 hP rfl ?_
      refine mg_i2l d_Pr_judge_57 ?_
      refine mg_lcmp d_Pr_judge_58 ?_
      refine mg_if_le (tgt := 66) d_Pr_judge_59 (by decide) (fun c_59 => ?_) (fun c_59 => ?_)
      · refine mg_iconst (v := 0) d_Pr_judge_66 (by decide) ?_
        exact mg_ireturn d_Pr_judge_67 rfl rfl (Nat.le_of_ble_eq_true rfl) (Nat.le_of_ble_eq_true rfl) ⟨by rw [vdF_k0 h3, if_neg (cmp_le.mp c_59)], rfl⟩
      · refine mg_iconst (v := 1) d_Pr_judge_62 (by decide) ?_
        refine mg_goto (tgt := 67) d_Pr_judge_63 (by decide) ?_
        exact mg_ireturn d_Pr_judge_67 rfl rfl (Nat.le_of_ble_eq_true rfl) (Nat.le_of_ble_eq_true rfl) ⟨by rw [vdF_k0 h3, if_pos (Decidable.not_not.mp (fun h => c_59 (cmp_le.mpr h)))], rfl⟩
    · by_cases k1 : kd = 1
      · subst k1
        refine mg_tableIn (off := 51) (tgt := 68) d_Pr_judge_17 (by decide) (by decide) rfl (by decide) ?_
        first | refine mg_aload_n d_Pr_judge_68 rfl rfl ?_ | refine mg_aload_nN d_Pr_judge_68 rfl rfl ?_
        first | refine mg_aload_n d_Pr_judge_69 rfl rfl ?_ | refine mg_aload_nN d_Pr_judge_69 rfl rfl ?_
        refine mg_getfield fl_Pr_15 d_Pr_judge_70 hP rfl ?_
        refine mg_callV (vl_Pr_31 rfl) d_Pr_judge_73 (by obtain ⟨_, e1, -⟩ := hI; exact e1) rfl rfl (c_In_has hI) rfl rfl (by rw [hR]; decide) (by rw [hR]; decide) (Nat.le_of_ble_eq_true rfl) ?_
        rintro v M2 ⟨rfl, rfl⟩
        refine mg_if_eq (tgt := 83) d_Pr_judge_76 (by decide) (fun c_76 => ?_) (fun c_76 => ?_)
        · refine mg_iconst (v := 0) d_Pr_judge_83 (by decide) ?_
          exact mg_ireturn d_Pr_judge_84 rfl rfl (Nat.le_of_ble_eq_true rfl) (Nat.le_of_ble_eq_true rfl) ⟨by rw [vdF_k1 h3, bI_f c_76]; rfl, rfl⟩
        · refine mg_iconst (v := 1) d_Pr_judge_79 (by decide) ?_
          refine mg_goto (tgt := 84) d_Pr_judge_80 (by decide) ?_
          exact mg_ireturn d_Pr_judge_84 rfl rfl (Nat.le_of_ble_eq_true rfl) (Nat.le_of_ble_eq_true rfl) ⟨by rw [vdF_k1 h3, bI_t c_76]; rfl, rfl⟩
      · by_cases k2 : kd = 2
        · subst k2
          refine mg_tableIn (off := 68) (tgt := 85) d_Pr_judge_17 (by decide) (by decide) rfl (by decide) ?_
          first | refine mg_aload_n d_Pr_judge_85 rfl rfl ?_ | refine mg_aload_nN d_Pr_judge_85 rfl rfl ?_
          refine mg_callV (vl_Pr_35 rfl) d_Pr_judge_86 (by obtain ⟨_, e1, -⟩ := hI; exact e1) rfl rfl (c_In_falls hI) rfl rfl (by rw [hR]; decide) (by rw [hR]; decide) (Nat.le_of_ble_eq_true rfl) ?_
          rintro v M2 ⟨rfl, rfl⟩
          refine mg_if_eq (tgt := 96) d_Pr_judge_89 (by decide) (fun c_89 => ?_) (fun c_89 => ?_)
          · refine mg_iconst (v := 0) d_Pr_judge_96 (by decide) ?_
            exact mg_ireturn d_Pr_judge_97 rfl rfl (Nat.le_of_ble_eq_true rfl) (Nat.le_of_ble_eq_true rfl) ⟨by rw [vdF_k2 h3, bI_f c_89]; rfl, rfl⟩
          · refine mg_iconst (v := 1) d_Pr_judge_92 (by decide) ?_
            refine mg_goto (tgt := 97) d_Pr_judge_93 (by decide) ?_
            exact mg_ireturn d_Pr_judge_97 rfl rfl (Nat.le_of_ble_eq_true rfl) (Nat.le_of_ble_eq_true rfl) ⟨by rw [vdF_k2 h3, bI_t c_89]; rfl, rfl⟩
        · by_cases k3 : kd = 3
          · subst k3
            refine mg_tableIn (off := 81) (tgt := 98) d_Pr_judge_17 (by decide) (by decide) rfl (by decide) ?_
            first | refine mg_aload_n d_Pr_judge_98 rfl rfl ?_ | refine mg_aload_nN d_Pr_judge_98 rfl rfl ?_
            refine mg_callV (vl_Pr_21 rfl) d_Pr_judge_99 (by obtain ⟨_, e1, -⟩ := hI; exact e1) rfl rfl (c_In_length hI) rfl rfl (by rw [hR]; decide) (by rw [hR]; decide) (Nat.le_of_ble_eq_true rfl) ?_
            rintro v M2 ⟨rfl, rfl⟩
            first | refine mg_aload_n d_Pr_judge_102 rfl rfl ?_ | refine mg_aload_nN d_Pr_judge_102 rfl rfl ?_
            refine mg_getfield fl_Pr_15 d_Pr_judge_103 hP rfl ?_
            refine mg_icmp_lt (tgt := 113) d_Pr_judge_106 (by decide) (fun c_106 => ?_) (fun c_106 => ?_)
            · refine mg_iconst (v := 0) d_Pr_judge_113 (by decide) ?_
              exact mg_ireturn d_Pr_judge_114 rfl rfl (Nat.le_of_ble_eq_true rfl) (Nat.le_of_ble_eq_true rfl) ⟨by rw [vdF_k3 h3, if_pos c_106], rfl⟩
            · refine mg_iconst (v := 1) d_Pr_judge_109 (by decide) ?_
              refine mg_goto (tgt := 114) d_Pr_judge_110 (by decide) ?_
              exact mg_ireturn d_Pr_judge_114 rfl rfl (Nat.le_of_ble_eq_true rfl) (Nat.le_of_ble_eq_true rfl) ⟨by rw [vdF_k3 h3, if_neg c_106], rfl⟩
          · have hout : kd.toInt < 0 ∨ 3 < kd.toInt := by
              have a0 := lv_neT k0 (a := 0) (by decide)
              have a1 := lv_neT k1 (a := 1) (by decide)
              have a2 := lv_neT k2 (a := 2) (by decide)
              have a3 := lv_neT k3 (a := 3) (by decide)
              omega
            refine mg_tableOut (tgt := 115) d_Pr_judge_17 hout (by decide) ?_
            first | refine mg_aload_n d_Pr_judge_115 rfl rfl ?_ | refine mg_aload_nN d_Pr_judge_115 rfl rfl ?_
            first | refine mg_aload_n d_Pr_judge_116 rfl rfl ?_ | refine mg_aload_nN d_Pr_judge_116 rfl rfl ?_
            refine mg_getfield fl_Pr_15 d_Pr_judge_117 hP rfl ?_
            refine mg_callV (vl_Pr_31 rfl) d_Pr_judge_120 (by obtain ⟨_, e1, -⟩ := hI; exact e1) rfl rfl (c_In_has hI) rfl rfl (by rw [hR]; decide) (by rw [hR]; decide) (Nat.le_of_ble_eq_true rfl) ?_
            rintro v M2 ⟨rfl, rfl⟩
            refine mg_if_eq (tgt := 130) d_Pr_judge_123 (by decide) (fun c_123 => ?_) (fun c_123 => ?_)
            · refine mg_iconst (v := 0) d_Pr_judge_130 (by decide) ?_
              exact mg_ireturn d_Pr_judge_131 rfl rfl (Nat.le_of_ble_eq_true rfl) (Nat.le_of_ble_eq_true rfl) ⟨by rw [vdF_k4 h3 k0 k1 k2 k3, bI_f c_123, if_neg (by decide)], rfl⟩
            · refine mg_iconst (v := 2) d_Pr_judge_126 (by decide) ?_
              refine mg_goto (tgt := 131) d_Pr_judge_127 (by decide) ?_
              exact mg_ireturn d_Pr_judge_131 rfl rfl (Nat.le_of_ble_eq_true rfl) (Nat.le_of_ble_eq_true rfl) ⟨by rw [vdF_k4 h3 k0 k1 k2 k3, if_pos (bI_t c_123)], rfl⟩
  · refine mg_iconst (v := 3) d_Pr_judge_11 (by decide) ?_
    exact mg_ireturn d_Pr_judge_12 rfl rfl (Nat.le_of_ble_eq_true rfl) (Nat.le_of_ble_eq_true rfl) ⟨by rw [vdF_3 (Int32.not_le.mp c_8)], rfl⟩

set_option maxHeartbeats 4000000 in
set_option maxRecDepth 100000 in
theorem c_Kp_initN {M : mg_M} {h r : Nat} {g p : Int32} {ys : List Int32} (h0 : M h = some (.inr (10, [.int 0, .int 0, .null, .null]))) (e1 : M (h + 1) = none) (e2 : M (h + 2) = none) (hY : isI M r ys) (hr : r + 2 ≤ h) : mg_Ct Y_Kp_init { frames := 3, cells := 2, slots := 62, locals := 67 } [.ref h, .int g, .int p, .ref r, .null] M (fun v M' => v = none ∧ M' h = some (.inr (10, [.int g, .int p, .ref (h + 1), .null])) ∧ isI M' (h + 1) ys ∧ sm h (h + 3) M M') := by
  refine mg_met [some (.ref h), some (.int g), some (.int p), some (.ref r), some .null] (by decide +kernel) rfl (Nat.le_of_ble_eq_true rfl) ?_
  intro X hR _
  first | refine mg_aload_n d_Kp_init_0 rfl rfl ?_ | refine mg_aload_nN d_Kp_init_0 rfl rfl ?_
  refine mg_objInit ol_Kp_1 oi_inst oi_code d_Kp_init_1 (by rw [hR]; decide) (by rw [hR]; exact Nat.le_of_ble_eq_true rfl) ?_
  first | refine mg_aload_n d_Kp_init_4 rfl rfl ?_ | refine mg_aload_nN d_Kp_init_4 rfl rfl ?_
  refine mg_new (h := h + 1) nl_Kp_7 d_Kp_init_5 (by omega) e1 (fun v hv => by simp at hv; rcases hv with rfl | rfl <;> trivial) (by rw [hR]; exact Nat.le_of_ble_eq_true rfl) (by rw [hR]; exact Nat.le_of_ble_eq_true rfl) ?_
  refine mg_dup d_Kp_init_8 rfl ?_
  refine mg_callI (il_Kp_9 rfl) d_Kp_init_9 (c_In_init (h := h + 1) (mg_up_s _ _ _) (by rw [mg_up_n _ _ (by omega)]; exact e2)) rfl rfl (by rw [hR]; decide) (by rw [hR]; decide) (Nat.le_of_ble_eq_true rfl) ?_
  rintro v M1 ⟨rfl, hA, s1⟩
  have k1 : ∀ q, (q < h + 1 ∨ h + 3 ≤ q) → M1 q = M q := fun q hq => by rw [s1 q (by omega), mg_up_n _ _ (by omega)]
  have hY1 : isI M1 r ys := hY.sm (lo := h + 1) (hi := h + 3) k1 (by omega)
  clear s1
  refine mg_putfield fw_Kp_10 d_Kp_init_12 (by rw [k1 h (by omega)]; exact h0) (Nat.le_of_ble_eq_true rfl) (fun _ => ⟨rfl, rfl⟩) ?_
  first | refine mg_aload_n d_Kp_init_15 rfl rfl ?_ | refine mg_aload_nN d_Kp_init_15 rfl rfl ?_
  refine mg_iload_n d_Kp_init_16 rfl rfl ?_
  refine mg_putfield fw_Kp_16 d_Kp_init_17 (mg_up_s _ _ _) (Nat.le_of_ble_eq_true rfl) (fun _ => ⟨rfl, rfl⟩) ?_
  rw [mg_up_up]
  first | refine mg_aload_n d_Kp_init_20 rfl rfl ?_ | refine mg_aload_nN d_Kp_init_20 rfl rfl ?_
  refine mg_iload_n d_Kp_init_21 rfl rfl ?_
  refine mg_putfield fw_Kp_20 d_Kp_init_22 (mg_up_s _ _ _) (Nat.le_of_ble_eq_true rfl) (fun _ => ⟨rfl, rfl⟩) ?_
  rw [mg_up_up]
  first | refine mg_aload_n d_Kp_init_25 rfl rfl ?_ | refine mg_aload_nN d_Kp_init_25 rfl rfl ?_
  first | refine mg_aload d_Kp_init_26 rfl ?_ | refine mg_aloadN d_Kp_init_26 rfl ?_
  refine mg_putfield fw_Kp_23 d_Kp_init_28 (mg_up_s _ _ _) (Nat.le_of_ble_eq_true rfl) (fun _ => ⟨rfl, rfl⟩) ?_
  rw [mg_up_up]
  first | refine mg_aload_n d_Kp_init_31 rfl rfl ?_ | refine mg_aload_nN d_Kp_init_31 rfl rfl ?_
  refine mg_getfield fl_Kp_10 d_Kp_init_32 (mg_up_s _ _ _) rfl ?_
  first | refine mg_aload_n d_Kp_init_35 rfl rfl ?_ | refine mg_aload_nN d_Kp_init_35 rfl rfl ?_
  refine mg_callV (vl_Kp_27 rfl) d_Kp_init_36 (by obtain ⟨_, e9, -⟩ := hA; rw [mg_up_n _ _ (by omega)]; exact e9) rfl rfl (c_In_copyFrom (hA.up (by omega) (by omega)) (hY1.up (by omega) (by omega)) (by omega)) rfl rfl (by rw [hR]; decide) (by rw [hR]; decide) (Nat.le_of_ble_eq_true rfl) ?_
  rintro v M2 ⟨rfl, hI2, hs2⟩
  refine mg_return d_Kp_init_39 rfl (Nat.le_of_ble_eq_true rfl) (Nat.le_of_ble_eq_true rfl) ⟨rfl, ?_, hI2, fun q hq => ?_⟩
  · rw [hs2 h (by omega), mg_up_s]; rfl
  · rw [hs2 q (by omega), mg_up_n _ _ (by omega), k1 q (by omega)]

set_option maxHeartbeats 4000000 in
set_option maxRecDepth 100000 in
theorem c_Kp_initR {M : mg_M} {h r ev : Nat} {g p : Int32} {ys : List Int32} (h0 : M h = some (.inr (10, [.int 0, .int 0, .null, .null]))) (e1 : M (h + 1) = none) (e2 : M (h + 2) = none) (hY : isI M r ys) (hr : r + 2 ≤ h) : mg_Ct Y_Kp_init { frames := 3, cells := 2, slots := 62, locals := 67 } [.ref h, .int g, .int p, .ref r, (.ref ev)] M (fun v M' => v = none ∧ M' h = some (.inr (10, [.int g, .int p, .ref (h + 1), (.ref ev)])) ∧ isI M' (h + 1) ys ∧ sm h (h + 3) M M') := by
  refine mg_met [some (.ref h), some (.int g), some (.int p), some (.ref r), some (.ref ev)] (by decide +kernel) rfl (Nat.le_of_ble_eq_true rfl) ?_
  intro X hR _
  first | refine mg_aload_n d_Kp_init_0 rfl rfl ?_ | refine mg_aload_nN d_Kp_init_0 rfl rfl ?_
  refine mg_objInit ol_Kp_1 oi_inst oi_code d_Kp_init_1 (by rw [hR]; decide) (by rw [hR]; exact Nat.le_of_ble_eq_true rfl) ?_
  first | refine mg_aload_n d_Kp_init_4 rfl rfl ?_ | refine mg_aload_nN d_Kp_init_4 rfl rfl ?_
  refine mg_new (h := h + 1) nl_Kp_7 d_Kp_init_5 (by omega) e1 (fun v hv => by simp at hv; rcases hv with rfl | rfl <;> trivial) (by rw [hR]; exact Nat.le_of_ble_eq_true rfl) (by rw [hR]; exact Nat.le_of_ble_eq_true rfl) ?_
  refine mg_dup d_Kp_init_8 rfl ?_
  refine mg_callI (il_Kp_9 rfl) d_Kp_init_9 (c_In_init (h := h + 1) (mg_up_s _ _ _) (by rw [mg_up_n _ _ (by omega)]; exact e2)) rfl rfl (by rw [hR]; decide) (by rw [hR]; decide) (Nat.le_of_ble_eq_true rfl) ?_
  rintro v M1 ⟨rfl, hA, s1⟩
  have k1 : ∀ q, (q < h + 1 ∨ h + 3 ≤ q) → M1 q = M q := fun q hq => by rw [s1 q (by omega), mg_up_n _ _ (by omega)]
  have hY1 : isI M1 r ys := hY.sm (lo := h + 1) (hi := h + 3) k1 (by omega)
  clear s1
  refine mg_putfield fw_Kp_10 d_Kp_init_12 (by rw [k1 h (by omega)]; exact h0) (Nat.le_of_ble_eq_true rfl) (fun _ => ⟨rfl, rfl⟩) ?_
  first | refine mg_aload_n d_Kp_init_15 rfl rfl ?_ | refine mg_aload_nN d_Kp_init_15 rfl rfl ?_
  refine mg_iload_n d_Kp_init_16 rfl rfl ?_
  refine mg_putfield fw_Kp_16 d_Kp_init_17 (mg_up_s _ _ _) (Nat.le_of_ble_eq_true rfl) (fun _ => ⟨rfl, rfl⟩) ?_
  rw [mg_up_up]
  first | refine mg_aload_n d_Kp_init_20 rfl rfl ?_ | refine mg_aload_nN d_Kp_init_20 rfl rfl ?_
  refine mg_iload_n d_Kp_init_21 rfl rfl ?_
  refine mg_putfield fw_Kp_20 d_Kp_init_22 (mg_up_s _ _ _) (Nat.le_of_ble_eq_true rfl) (fun _ => ⟨rfl, rfl⟩) ?_
  rw [mg_up_up]
  first | refine mg_aload_n d_Kp_init_25 rfl rfl ?_ | refine mg_aload_nN d_Kp_init_25 rfl rfl ?_
  first | refine mg_aload d_Kp_init_26 rfl ?_ | refine mg_aloadN d_Kp_init_26 rfl ?_
  refine mg_putfield fw_Kp_23 d_Kp_init_28 (mg_up_s _ _ _) (Nat.le_of_ble_eq_true rfl) (fun _ => ⟨rfl, rfl⟩) ?_
  rw [mg_up_up]
  first | refine mg_aload_n d_Kp_init_31 rfl rfl ?_ | refine mg_aload_nN d_Kp_init_31 rfl rfl ?_
  refine mg_getfield fl_Kp_10 d_Kp_init_32 (mg_up_s _ _ _) rfl ?_
  first | refine mg_aload_n d_Kp_init_35 rfl rfl ?_ | refine mg_aload_nN d_Kp_init_35 rfl rfl ?_
  refine mg_callV (vl_Kp_27 rfl) d_Kp_init_36 (by obtain ⟨_, e9, -⟩ := hA; rw [mg_up_n _ _ (by omega)]; exact e9) rfl rfl (c_In_copyFrom (hA.up (by omega) (by omega)) (hY1.up (by omega) (by omega)) (by omega)) rfl rfl (by rw [hR]; decide) (by rw [hR]; decide) (Nat.le_of_ble_eq_true rfl) ?_
  rintro v M2 ⟨rfl, hI2, hs2⟩
  refine mg_return d_Kp_init_39 rfl (Nat.le_of_ble_eq_true rfl) (Nat.le_of_ble_eq_true rfl) ⟨rfl, ?_, hI2, fun q hq => ?_⟩
  · rw [hs2 h (by omega), mg_up_s]; rfl
  · rw [hs2 q (by omega), mg_up_n _ _ (by omega), k1 q (by omega)]

