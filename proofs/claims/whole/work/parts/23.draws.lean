/-! DRAWS: at the handles d .. d + 7: the object, choices (d + 1), numbers (d + 3), limits (d + 5), given (d + 6) -/
abbrev dM : Type := Int32 × List Int32 × Int32
abbrev dS : Type := List Int32 × List Int32 × Bool × Int64 × (Nat → Int32)
def isD (M : mg_M) (d : Nat) (md : dM) (σ : dS) : Prop := M d = some (.inr (2, [.ref (d + 1), .ref (d + 3), .int (bI σ.2.2.1), .ref (d + 5), .ref (d + 6), .int md.1, .long σ.2.2.2.1, .int md.2.2])) ∧ isI M (d + 1) σ.1 ∧ isI M (d + 3) σ.2.1 ∧ M (d + 5) = some (.inl (0, 60, .inl σ.2.2.2.2)) ∧ isI M (d + 6) md.2.1
theorem isD.fr {M M' : mg_M} {d lo hi : Nat} {md : dM} {σ : dS} (h : isD M d md σ) (hs : sm lo hi M M') (hd : d + 8 ≤ lo ∨ hi ≤ d) : isD M' d md σ :=
  ⟨by rw [hs d (by omega)]; exact h.1, h.2.1.sm hs (by omega), h.2.2.1.sm hs (by omega), by rw [hs (d + 5) (by omega)]; exact h.2.2.2.1, h.2.2.2.2.sm hs (by omega)⟩
theorem isD.up {M : mg_M} {d k : Nat} {md : dM} {σ : dS} {e : va_E} (h : isD M d md σ) (hd : k < d ∨ d + 8 ≤ k) : isD (mg_up M k e) d md σ := h.fr (lo := k) (hi := k + 1) (sm.rf.up (by omega) (by omega)) (by omega)
/-- the object alone has changed -/
theorem isD.obj {M : mg_M} {d : Nat} {md md' : dM} {cs ns : List Int32} {il il' : Bool} {x x' : Int64} {lm : Nat → Int32} (h : isD M d md (cs, ns, il, x, lm)) (hg : md'.2.1 = md.2.1) : isD (mg_up M d (.inr (2, [.ref (d + 1), .ref (d + 3), .int (bI il'), .ref (d + 5), .ref (d + 6), .int md'.1, .long x', .int md'.2.2]))) d md' (cs, ns, il', x', lm) :=
  ⟨mg_up_s _ _ _, h.2.1.up (by omega) (by omega), h.2.2.1.up (by omega) (by omega), by rw [mg_up_n _ _ (by omega)]; exact h.2.2.2.1, by rw [hg]; exact h.2.2.2.2.up (by omega) (by omega)⟩
theorem isD.cs {M M' : mg_M} {d : Nat} {md : dM} {cs cs' ns : List Int32} {il : Bool} {x : Int64} {lm : Nat → Int32} (h : isD M d md (cs, ns, il, x, lm)) (hI : isI M' (d + 1) cs') (hs : sm (d + 1) (d + 1 + 2) M M') : isD M' d md (cs', ns, il, x, lm) :=
  ⟨by rw [hs d (by omega)]; exact h.1, hI, h.2.2.1.sm hs (by omega), by rw [hs (d + 5) (by omega)]; exact h.2.2.2.1, h.2.2.2.2.sm hs (by omega)⟩
theorem isD.ns {M M' : mg_M} {d : Nat} {md : dM} {cs ns ns' : List Int32} {il : Bool} {x : Int64} {lm : Nat → Int32} (h : isD M d md (cs, ns, il, x, lm)) (hI : isI M' (d + 3) ns') (hs : sm (d + 3) (d + 3 + 2) M M') : isD M' d md (cs, ns', il, x, lm) :=
  ⟨by rw [hs d (by omega)]; exact h.1, h.2.1.sm hs (by omega), hI, by rw [hs (d + 5) (by omega)]; exact h.2.2.2.1, h.2.2.2.2.sm hs (by omega)⟩
theorem isD.gv {M M' : mg_M} {d : Nat} {how z : Int32} {gv gv' : List Int32} {σ : dS} (h : isD M d (how, gv, z) σ) (hI : isI M' (d + 6) gv') (hs : sm (d + 6) (d + 6 + 2) M M') : isD M' d (how, gv', z) σ :=
  ⟨by rw [hs d (by omega)]; exact h.1, h.2.1.sm hs (by omega), h.2.2.1.sm hs (by omega), by rw [hs (d + 5) (by omega)]; exact h.2.2.2.1, hI⟩
theorem isD.lm {M : mg_M} {d : Nat} {md : dM} {cs ns : List Int32} {il : Bool} {x : Int64} {lm lm' : Nat → Int32} (h : isD M d md (cs, ns, il, x, lm)) : isD (mg_up M (d + 5) (.inl (0, 60, .inl lm'))) d md (cs, ns, il, x, lm') :=
  ⟨by rw [mg_up_n _ _ (by omega)]; exact h.1, h.2.1.up (by omega) (by omega), h.2.2.1.up (by omega) (by omega), mg_up_s _ _ _, h.2.2.2.2.up (by omega) (by omega)⟩

set_option maxHeartbeats 4000000 in
set_option maxRecDepth 100000 in
theorem c_Dr_begin {M : mg_M} {d : Nat} {how how' z : Int32} {gv cs ns : List Int32} {il : Bool} {x : Int64} {lm : Nat → Int32} (hD : isD M d (how, gv, z) (cs, ns, il, x, lm)) : mg_Ct Y_Dr_begin { frames := 2, cells := 0, slots := 0, locals := 41 } [.ref d, .int how'] M (fun v M' => v = none ∧ isD M' d (how', gv, z) ([], [], false, x, lm) ∧ sm d (d + 8) M M') := by
  refine mg_met [some (.ref d), some (.int how')] (by decide +kernel) rfl (Nat.le_of_ble_eq_true rfl) ?_
  intro X hR _
  first | refine mg_aload_n d_Dr_begin_0 rfl rfl ?_ | refine mg_aload_nN d_Dr_begin_0 rfl rfl ?_
  refine mg_iload_n d_Dr_begin_1 rfl rfl ?_
  refine mg_putfield (fw_Dr_28 _) d_Dr_begin_2 hD.1 (Nat.le_of_ble_eq_true rfl) (fun _ => ⟨rfl, rfl⟩) ?_
  have hs : sm d (d + 8) M (mg_up M d (.inr (2, [.ref (d + 1), .ref (d + 3), .int (bI il), .ref (d + 5), .ref (d + 6), .int how', .long x, .int z]))) := sm.rf.up (by omega) (by omega)
  replace hD := hD.obj (il' := il) (x' := x) (md' := (how', gv, z)) rfl
  refine mg_eqM (M' := mg_up M d (.inr (2, [.ref (d + 1), .ref (d + 3), .int (bI il), .ref (d + 5), .ref (d + 6), .int how', .long x, .int z]))) rfl ?_
  generalize mg_up M d (.inr (2, [.ref (d + 1), .ref (d + 3), .int (bI il), .ref (d + 5), .ref (d + 6), .int how', .long x, .int z])) = M1 at hD hs ⊢
  first | refine mg_aload_n d_Dr_begin_5 rfl rfl ?_ | refine mg_aload_nN d_Dr_begin_5 rfl rfl ?_
  refine mg_getfield fl_Dr_12 d_Dr_begin_6 hD.1 rfl ?_
  refine mg_iconst (v := 0) d_Dr_begin_9 (by decide) ?_
  refine mg_callV (vl_Dr_32 rfl) d_Dr_begin_10 (by obtain ⟨_, e1, -⟩ := hD.2.1; exact e1) rfl rfl (c_In_cutTo hD.2.1) rfl rfl (by rw [hR]; decide) (by rw [hR]; decide) (Nat.le_of_ble_eq_true rfl) ?_
  rintro v M2 ⟨rfl, hI2, hs2⟩
  replace hD := hD.cs hI2 hs2
  replace hs := hs.tr (hs2.wd (by omega) (by omega))
  first | refine mg_aload_n d_Dr_begin_13 rfl rfl ?_ | refine mg_aload_nN d_Dr_begin_13 rfl rfl ?_
  refine mg_getfield fl_Dr_18 d_Dr_begin_14 hD.1 rfl ?_
  refine mg_iconst (v := 0) d_Dr_begin_17 (by decide) ?_
  refine mg_callV (vl_Dr_32 rfl) d_Dr_begin_18 (by obtain ⟨_, e1, -⟩ := hD.2.2.1; exact e1) rfl rfl (c_In_cutTo hD.2.2.1) rfl rfl (by rw [hR]; decide) (by rw [hR]; decide) (Nat.le_of_ble_eq_true rfl) ?_
  rintro v M3 ⟨rfl, hI3, hs3⟩
  replace hD := hD.ns hI3 hs3
  replace hs := hs.tr (hs3.wd (by omega) (by omega))
  first | refine mg_aload_n d_Dr_begin_21 rfl rfl ?_ | refine mg_aload_nN d_Dr_begin_21 rfl rfl ?_
  refine mg_iconst (v := 0) d_Dr_begin_22 (by decide) ?_
  refine mg_putfield (fw_Dr_36 _) d_Dr_begin_23 hD.1 (Nat.le_of_ble_eq_true rfl) (fun _ => ⟨rfl, rfl⟩) ?_
  exact mg_return d_Dr_begin_26 rfl (Nat.le_of_ble_eq_true rfl) (Nat.le_of_ble_eq_true rfl) ⟨rfl, hD.obj (il' := false) (x' := x) (md' := (how', gv, z)) rfl, hs.up (by omega) (by omega)⟩

set_option maxHeartbeats 4000000 in
set_option maxRecDepth 100000 in
theorem c_Dr_beginRow {M : mg_M} {d : Nat} {how z : Int32} {gv cs ns : List Int32} {il : Bool} {x : Int64} {lm : Nat → Int32} (hD : isD M d (how, gv, z) (cs, ns, il, x, lm)) {h : Nat} {ys : List Int32} (hY : isI M h ys) (hd : h + 2 ≤ d ∨ d + 8 ≤ h) : mg_Ct Y_Dr_beginRow { frames := 3, cells := 0, slots := 0, locals := 67 } [.ref d, .ref h] M (fun v M' => v = none ∧ isD M' d (0, ys, z) ([], [], false, x, lm) ∧ sm d (d + 8) M M') := by
  refine mg_met [some (.ref d), some (.ref h)] (by decide +kernel) rfl (Nat.le_of_ble_eq_true rfl) ?_
  intro X hR _
  first | refine mg_aload_n d_Dr_beginRow_0 rfl rfl ?_ | refine mg_aload_nN d_Dr_beginRow_0 rfl rfl ?_
  refine mg_getfield fl_Dr_25 d_Dr_beginRow_1 hD.1 rfl ?_
  first | refine mg_aload_n d_Dr_beginRow_4 rfl rfl ?_ | refine mg_aload_nN d_Dr_beginRow_4 rfl rfl ?_
  refine mg_callV (vl_Dr_40 rfl) d_Dr_beginRow_5 (by obtain ⟨_, e1, -⟩ := hD.2.2.2.2; exact e1) rfl rfl (c_In_copyFrom hD.2.2.2.2 hY (by omega)) rfl rfl (by rw [hR]; decide) (by rw [hR]; decide) (Nat.le_of_ble_eq_true rfl) ?_
  rintro v M2 ⟨rfl, hI2, hs2⟩
  replace hD := hD.gv hI2 hs2
  have hs := (hs2.wd (lo' := d) (hi' := d + 8) (by omega) (by omega))
  first | refine mg_aload_n d_Dr_beginRow_8 rfl rfl ?_ | refine mg_aload_nN d_Dr_beginRow_8 rfl rfl ?_
  refine mg_iconst (v := 0) d_Dr_beginRow_9 (by decide) ?_
  refine mg_callV (vl_Dr_44 rfl) d_Dr_beginRow_10 hD.1 rfl rfl (c_Dr_begin hD) rfl rfl (by rw [hR]; decide) (by rw [hR]; decide) (Nat.le_of_ble_eq_true rfl) ?_
  rintro v M3 ⟨rfl, hD3, hs3⟩
  exact mg_return d_Dr_beginRow_13 rfl (Nat.le_of_ble_eq_true rfl) (Nat.le_of_ble_eq_true rfl) ⟨rfl, hD3, hs.tr hs3⟩

set_option maxHeartbeats 4000000 in
set_option maxRecDepth 100000 in
theorem c_Dr_sow {M : mg_M} {d : Nat} {how z : Int32} {gv cs ns : List Int32} {il : Bool} {x : Int64} {lm : Nat → Int32} (hD : isD M d (how, gv, z) (cs, ns, il, x, lm)) {w : Int64} : mg_Ct Y_Dr_sow { frames := 0, cells := 0, slots := 0, locals := 0 } [.ref d, .long w] M (fun v M' => v = none ∧ isD M' d (how, gv, z) (cs, ns, il, w, lm) ∧ sm d (d + 8) M M') := by
  refine mg_met [some (.ref d), some (.long w), none] (by decide +kernel) rfl (Nat.le_of_ble_eq_true rfl) ?_
  intro X hR _
  first | refine mg_aload_n d_Dr_sow_0 rfl rfl ?_ | refine mg_aload_nN d_Dr_sow_0 rfl rfl ?_
  refine mg_lload_n d_Dr_sow_1 rfl rfl ?_
  refine mg_putfield (fw_Dr_47 _) d_Dr_sow_2 hD.1 (Nat.le_of_ble_eq_true rfl) (fun _ => ⟨rfl, rfl⟩) ?_
  exact mg_return d_Dr_sow_5 rfl (Nat.le_of_ble_eq_true rfl) (Nat.le_of_ble_eq_true rfl) ⟨rfl, hD.obj (il' := il) (x' := w) (md' := (how, gv, z)) rfl, sm.rf.up (by omega) (by omega)⟩

set_option maxHeartbeats 4000000 in
set_option maxRecDepth 100000 in
theorem c_Dr_beginTry {M : mg_M} {d : Nat} {how z : Int32} {gv cs ns : List Int32} {il : Bool} {x : Int64} {lm : Nat → Int32} (hD : isD M d (how, gv, z) (cs, ns, il, x, lm)) {z' : Int32} : mg_Ct Y_Dr_beginTry { frames := 3, cells := 0, slots := 0, locals := 62 } [.ref d, .int z'] M (fun v M' => v = none ∧ isD M' d (1, gv, z') ([], [], false, x, lm) ∧ sm d (d + 8) M M') := by
  refine mg_met [some (.ref d), some (.int z')] (by decide +kernel) rfl (Nat.le_of_ble_eq_true rfl) ?_
  intro X hR _
  first | refine mg_aload_n d_Dr_beginTry_0 rfl rfl ?_ | refine mg_aload_nN d_Dr_beginTry_0 rfl rfl ?_
  refine mg_iload_n d_Dr_beginTry_1 rfl rfl ?_
  refine mg_putfield (fw_Dr_51 _) d_Dr_beginTry_2 hD.1 (Nat.le_of_ble_eq_true rfl) (fun _ => ⟨rfl, rfl⟩) ?_
  have hs : sm d (d + 8) M (mg_up M d (.inr (2, [.ref (d + 1), .ref (d + 3), .int (bI il), .ref (d + 5), .ref (d + 6), .int how, .long x, .int z']))) := sm.rf.up (by omega) (by omega)
  replace hD := hD.obj (il' := il) (x' := x) (md' := (how, gv, z')) rfl
  refine mg_eqM (M' := mg_up M d (.inr (2, [.ref (d + 1), .ref (d + 3), .int (bI il), .ref (d + 5), .ref (d + 6), .int how, .long x, .int z']))) rfl ?_
  generalize mg_up M d (.inr (2, [.ref (d + 1), .ref (d + 3), .int (bI il), .ref (d + 5), .ref (d + 6), .int how, .long x, .int z'])) = M1 at hD hs ⊢
  first | refine mg_aload_n d_Dr_beginTry_5 rfl rfl ?_ | refine mg_aload_nN d_Dr_beginTry_5 rfl rfl ?_
  refine mg_iconst (v := 1) d_Dr_beginTry_6 (by decide) ?_
  refine mg_callV (vl_Dr_44 rfl) d_Dr_beginTry_7 hD.1 rfl rfl (c_Dr_begin hD) rfl rfl (by rw [hR]; decide) (by rw [hR]; decide) (Nat.le_of_ble_eq_true rfl) ?_
  rintro v M3 ⟨rfl, hD3, hs3⟩
  exact mg_return d_Dr_beginTry_10 rfl (Nat.le_of_ble_eq_true rfl) (Nat.le_of_ble_eq_true rfl) ⟨rfl, hD3, hs.tr hs3⟩

set_option maxHeartbeats 4000000 in
set_option maxRecDepth 100000 in
theorem c_Dr_beginFirstTurn {M : mg_M} {d : Nat} {how z : Int32} {gv cs ns : List Int32} {il : Bool} {x : Int64} {lm : Nat → Int32} (hD : isD M d (how, gv, z) (cs, ns, il, x, lm)) : mg_Ct Y_Dr_beginFirstTurn { frames := 3, cells := 0, slots := 0, locals := 62 } [.ref d] M (fun v M' => v = none ∧ isD M' d (2, [], z) ([], [], false, x, lm) ∧ sm d (d + 8) M M') := by
  refine mg_met [some (.ref d)] (by decide +kernel) rfl (Nat.le_of_ble_eq_true rfl) ?_
  intro X hR _
  first | refine mg_aload_n d_Dr_beginFirstTurn_0 rfl rfl ?_ | refine mg_aload_nN d_Dr_beginFirstTurn_0 rfl rfl ?_
  refine mg_getfield fl_Dr_25 d_Dr_beginFirstTurn_1 hD.1 rfl ?_
  refine mg_iconst (v := 0) d_Dr_beginFirstTurn_4 (by decide) ?_
  refine mg_callV (vl_Dr_32 rfl) d_Dr_beginFirstTurn_5 (by obtain ⟨_, e1, -⟩ := hD.2.2.2.2; exact e1) rfl rfl (c_In_cutTo hD.2.2.2.2) rfl rfl (by rw [hR]; decide) (by rw [hR]; decide) (Nat.le_of_ble_eq_true rfl) ?_
  rintro v M2 ⟨rfl, hI2, hs2⟩
  replace hD := hD.gv hI2 hs2
  have hs := (hs2.wd (lo' := d) (hi' := d + 8) (by omega) (by omega))
  first | refine mg_aload_n d_Dr_beginFirstTurn_8 rfl rfl ?_ | refine mg_aload_nN d_Dr_beginFirstTurn_8 rfl rfl ?_
  refine mg_iconst (v := 2) d_Dr_beginFirstTurn_9 (by decide) ?_
  refine mg_callV (vl_Dr_44 rfl) d_Dr_beginFirstTurn_10 hD.1 rfl rfl (c_Dr_begin hD) rfl rfl (by rw [hR]; decide) (by rw [hR]; decide) (Nat.le_of_ble_eq_true rfl) ?_
  rintro v M3 ⟨rfl, hD3, hs3⟩
  exact mg_return d_Dr_beginFirstTurn_13 rfl (Nat.le_of_ble_eq_true rfl) (Nat.le_of_ble_eq_true rfl) ⟨rfl, hD3, hs.tr hs3⟩

def spanF (z most : Int32) : Int32 := if most ≤ z + 1 then most + 1 else z + 2
set_option maxHeartbeats 4000000 in
set_option maxRecDepth 100000 in
theorem c_Dr_sizedSpan {M : mg_M} {d : Nat} {how z : Int32} {gv cs ns : List Int32} {il : Bool} {x : Int64} {lm : Nat → Int32} (hD : isD M d (how, gv, z) (cs, ns, il, x, lm)) {most : Int32} : mg_Ct Y_Dr_sizedSpan { frames := 0, cells := 0, slots := 0, locals := 0 } [.ref d, .int most] M (fun v M' => v = some (.int (spanF z most)) ∧ M' = M) := by
  refine mg_met [some (.ref d), some (.int most)] (by decide +kernel) rfl (Nat.le_of_ble_eq_true rfl) ?_
  intro X hR _
  refine mg_iload_n d_Dr_sizedSpan_0 rfl rfl ?_
  first | refine mg_aload_n d_Dr_sizedSpan_1 rfl rfl ?_ | refine mg_aload_nN d_Dr_sizedSpan_1 rfl rfl ?_
  refine mg_getfield fl_Dr_51 d_Dr_sizedSpan_2 hD.1 rfl ?_
  refine mg_iconst (v := 1) d_Dr_sizedSpan_5 (by decide) ?_
  refine mg_iadd d_Dr_sizedSpan_6 ?_
  refine mg_icmp_le (tgt := 19) d_Dr_sizedSpan_7 (by decide) (fun c_7 => ?_) (fun c_7 => ?_)
  · refine mg_iload_n d_Dr_sizedSpan_19 rfl rfl ?_
    refine mg_iconst (v := 1) d_Dr_sizedSpan_20 (by decide) ?_
    refine mg_iadd d_Dr_sizedSpan_21 ?_
    exact mg_ireturn d_Dr_sizedSpan_22 rfl rfl (Nat.le_of_ble_eq_true rfl) (Nat.le_of_ble_eq_true rfl) ⟨by rw [spanF, if_pos c_7], rfl⟩
  · first | refine mg_aload_n d_Dr_sizedSpan_10 rfl rfl ?_ | refine mg_aload_nN d_Dr_sizedSpan_10 rfl rfl ?_
    refine mg_getfield fl_Dr_51 d_Dr_sizedSpan_11 hD.1 rfl ?_
    refine mg_iconst (v := 2) d_Dr_sizedSpan_14 (by decide) ?_
    refine mg_iadd d_Dr_sizedSpan_15 ?_
    refine mg_goto (tgt := 22) d_Dr_sizedSpan_16 (by decide) ?_
    exact mg_ireturn d_Dr_sizedSpan_22 rfl rfl (Nat.le_of_ble_eq_true rfl) (Nat.le_of_ble_eq_true rfl) ⟨by rw [spanF, if_neg c_7], rfl⟩

def numF (σ : dS) (n : Int32) : dS := if σ.2.2.1 = true then σ else if σ.2.1.length < 60 then (σ.1, σ.2.1 ++ [n], false, σ.2.2.2) else (σ.1, σ.2.1, true, σ.2.2.2)
theorem bI_t {b : Bool} (h : ¬ bI b = 0) : b = true := by cases b with
  | true => rfl
  | false => exact absurd rfl h
theorem bI_f {b : Bool} (h : bI b = 0) : b = false := by cases b with
  | false => rfl
  | true => exact absurd h (by decide)
set_option maxHeartbeats 4000000 in
set_option maxRecDepth 100000 in
theorem c_Dr_giveNumber {M : mg_M} {d : Nat} {how z : Int32} {gv cs ns : List Int32} {il : Bool} {x : Int64} {lm : Nat → Int32} (hD : isD M d (how, gv, z) (cs, ns, il, x, lm)) {n : Int32} : mg_Ct Y_Dr_giveNumber { frames := 1, cells := 0, slots := 0, locals := 21 } [.ref d, .int n] M (fun v M' => v = none ∧ isD M' d (how, gv, z) (numF (cs, ns, il, x, lm) n) ∧ sm d (d + 8) M M') := by
  refine mg_met [some (.ref d), some (.int n)] (by decide +kernel) rfl (Nat.le_of_ble_eq_true rfl) ?_
  intro X hR _
  first | refine mg_aload_n d_Dr_giveNumber_0 rfl rfl ?_ | refine mg_aload_nN d_Dr_giveNumber_0 rfl rfl ?_
  refine mg_getfield fl_Dr_36 d_Dr_giveNumber_1 hD.1 rfl ?_
  refine mg_if_ne (tgt := 18) d_Dr_giveNumber_4 (by decide) (fun c_4 => ?_) (fun c_4 => ?_)
  · obtain rfl := bI_t c_4
    first | refine mg_aload_n d_Dr_giveNumber_18 rfl rfl ?_ | refine mg_aload_nN d_Dr_giveNumber_18 rfl rfl ?_
    refine mg_iconst (v := 1) d_Dr_giveNumber_19 (by decide) ?_
    refine mg_putfield (fw_Dr_36 _) d_Dr_giveNumber_20 hD.1 (Nat.le_of_ble_eq_true rfl) (fun _ => ⟨rfl, rfl⟩) ?_
    exact mg_return d_Dr_giveNumber_23 rfl (Nat.le_of_ble_eq_true rfl) (Nat.le_of_ble_eq_true rfl) ⟨rfl, by simp only [numF]; exact hD.obj (il' := true) (x' := x) (md' := (how, gv, z)) rfl, sm.rf.up (by omega) (by omega)⟩
  · obtain rfl := bI_f c_4
    first | refine mg_aload_n d_Dr_giveNumber_7 rfl rfl ?_ | refine mg_aload_nN d_Dr_giveNumber_7 rfl rfl ?_
    refine mg_getfield fl_Dr_18 d_Dr_giveNumber_8 hD.1 rfl ?_
    refine mg_iload_n d_Dr_giveNumber_11 rfl rfl ?_
    refine mg_callV (vl_Dr_62 rfl) d_Dr_giveNumber_12 (by obtain ⟨_, e1, -⟩ := hD.2.2.1; exact e1) rfl rfl (c_In_add hD.2.2.1) rfl rfl (by rw [hR]; decide) (by rw [hR]; decide) (Nat.le_of_ble_eq_true rfl) ?_
    rintro v M2 ⟨rfl, hI2, hs2⟩
    replace hD := hD.ns hI2 hs2
    have hs := (hs2.wd (lo' := d) (hi' := d + 8) (by omega) (by omega))
    refine mg_if_ne (tgt := 23) d_Dr_giveNumber_15 (by decide) (fun c_15 => ?_) (fun c_15 => ?_)
    · have hlt : ns.length < 60 := by
        rcases Nat.lt_or_ge ns.length 60 with q | q
        · exact q
        · exact absurd (if_neg (show ¬ ns.length < 60 by omega)) c_15
      rw [if_pos hlt] at hD
      exact mg_return d_Dr_giveNumber_23 rfl (Nat.le_of_ble_eq_true rfl) (Nat.le_of_ble_eq_true rfl) ⟨rfl, by simp only [numF, if_pos hlt]; exact hD, hs⟩
    · have hlt : ¬ ns.length < 60 := fun q => by rw [if_pos q] at c_15; exact absurd c_15 (by decide)
      rw [if_neg hlt] at hD
      refine mg_aload_n d_Dr_giveNumber_18 rfl rfl ?_
      refine mg_iconst (v := 1) d_Dr_giveNumber_19 (by decide) ?_
      refine mg_putfield (fw_Dr_36 _) d_Dr_giveNumber_20 hD.1 (Nat.le_of_ble_eq_true rfl) (fun _ => ⟨rfl, rfl⟩) ?_
      exact mg_return d_Dr_giveNumber_23 rfl (Nat.le_of_ble_eq_true rfl) (Nat.le_of_ble_eq_true rfl) ⟨rfl, by simp only [numF, if_neg hlt]; exact hD.obj (il' := true) (x' := x) (md' := (how, gv, z)) rfl, hs.up (by omega) (by omega)⟩

