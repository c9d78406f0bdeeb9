/-! DRAWS: the next turn, and a new one -/
/-- the row that comes next, looking at the first i choices -/
def nextF (cs : List Int32) (lm : Nat → Int32) : Nat → Option (List Int32)
  | 0 => none
  | i + 1 => if cs.getD i 0 < lm i then some (cs.take i ++ [cs.getD i 0 + 1]) else nextF cs lm i
theorem nI_m1 (i : Nat) : nI (i + 1) + Int32.ofInt (-1) = nI i := by
  have h : (Int32.ofInt (-1)) = -1 := by decide
  rw [h]; exact pk_m1 i
def nextP (M : mg_M) (d : Nat) (z : Int32) (gv cs ns : List Int32) (x : Int64) (lm : Nat → Int32) (r : Option (List Int32)) (v : Option Value) (M' : mg_M) : Prop := match r with
  | none => v = some (.int 0) ∧ M' = M
  | some g => v = some (.int 1) ∧ isD M' d (2, g, z) ([], [], false, x, lm) ∧ sm d (d + 8) M M'

set_option maxHeartbeats 4000000 in
set_option maxRecDepth 100000 in
theorem lp_Dr_next {X : mg_X} {M : mg_M} {d : Nat} {how z : Int32} {gv cs ns : List Int32} {il : Bool} {x : Int64} {lm : Nat → Int32} {r : Option (List Int32)} (hR : mg_R X = { frames := 3, cells := 0, slots := 0, locals := 67 }) (hD : isD M d (how, gv, z) (cs, ns, il, x, lm)) : ∀ (n : Nat) (t : Option Value), n ≤ cs.length → nextF cs lm n = r → mg_G X Y_Dr_beginNextTurn (mg_Q X (nextP M d z gv cs ns x lm r) { frames := 3, cells := 0, slots := 0, locals := 67 }) M 0 0 10 [some (.ref d), some (.int (nI n + Int32.ofInt (-1))), t] [] := by
  have hcs : cs.length ≤ 60 := hD.2.1.le
  intro n
  induction n with
  | zero =>
    intro t hn hr
    rw [nextF] at hr
    subst hr
    refine mg_iload_n d_Dr_beginNextTurn_10 rfl rfl ?_
    refine mg_if_lt (tgt := 86) d_Dr_beginNextTurn_11 (by decide) (fun c_11 => ?_) (fun c_11 => absurd (by rw [nI_0]; decide) c_11)
    refine mg_iconst (v := 0) d_Dr_beginNextTurn_86 (by decide) ?_
    exact mg_ireturn d_Dr_beginNextTurn_87 rfl rfl (Nat.le_of_ble_eq_true rfl) (Nat.le_of_ble_eq_true rfl) ⟨rfl, rfl⟩
  | succ i ih =>
    intro t hn hr
    rw [nI_m1]
    have ih0 : nextF cs lm i = r → ∀ u : Option Value, mg_G X Y_Dr_beginNextTurn (mg_Q X (nextP M d z gv cs ns x lm r) { frames := 3, cells := 0, slots := 0, locals := 67 }) M 0 0 10 [some (.ref d), some (.int (nI i + Int32.ofInt (-1))), u] [] := fun h u => ih u (by omega) h
    clear ih
    refine mg_iload_n d_Dr_beginNextTurn_10 rfl rfl ?_
    refine mg_if_lt (tgt := 86) d_Dr_beginNextTurn_11 (by decide) (fun c_11 => ?_) (fun c_11 => ?_)
    · exact absurd c_11 (nI_pos (by omega))
    · refine mg_iload_n d_Dr_beginNextTurn_14 rfl rfl ?_
      first | refine mg_aload_n d_Dr_beginNextTurn_15 rfl rfl ?_ | refine mg_aload_nN d_Dr_beginNextTurn_15 rfl rfl ?_
      refine mg_getfield fl_Dr_21 d_Dr_beginNextTurn_16 (by first | exact hD.1 | exact hD.2.2.2.1) rfl ?_
      refine mg_arrlen (v := nI 60) rfl d_Dr_beginNextTurn_19 (by first | exact hD.1 | exact hD.2.2.2.1) rfl ?_
      refine mg_icmp_ge (tgt := 86) d_Dr_beginNextTurn_20 (by decide) (fun c_20 => ?_) (fun c_20 => ?_)
      · exact absurd c_20 (nI_ge (by omega) (by decide))
      · have hin := nIw (n := 60) (j := i) (by omega) (by decide)
        first | refine mg_aload_n d_Dr_beginNextTurn_23 rfl rfl ?_ | refine mg_aload_nN d_Dr_beginNextTurn_23 rfl rfl ?_
        refine mg_getfield fl_Dr_12 d_Dr_beginNextTurn_24 (by first | exact hD.1 | exact hD.2.2.2.1) rfl ?_
        refine mg_iload_n d_Dr_beginNextTurn_27 rfl rfl ?_
        refine mg_iconst (v := 0) d_Dr_beginNextTurn_28 (by decide) ?_
        refine mg_callV (vl_Dr_58 rfl) d_Dr_beginNextTurn_29 (by obtain ⟨_, e1, -⟩ := hD.2.1; exact e1) rfl rfl (c_In_at (xs := cs) hD.2.1) rfl rfl (by rw [hR]; decide) (by rw [hR]; decide) (Nat.le_of_ble_eq_true rfl) ?_
        rintro v M2 ⟨rfl, rfl⟩
        refine mg_eqi (atI_in hcs (by omega : i < cs.length)) ?_
        refine mg_istore_n d_Dr_beginNextTurn_32 rfl (Nat.le_of_ble_eq_true rfl) rfl ?_
        refine mg_iload_n d_Dr_beginNextTurn_33 rfl rfl ?_
        first | refine mg_aload_n d_Dr_beginNextTurn_34 rfl rfl ?_ | refine mg_aload_nN d_Dr_beginNextTurn_34 rfl rfl ?_
        refine mg_getfield fl_Dr_21 d_Dr_beginNextTurn_35 (by first | exact hD.1 | exact hD.2.2.2.1) rfl ?_
        refine mg_iload_n d_Dr_beginNextTurn_38 rfl rfl ?_
        refine mg_iaload rfl d_Dr_beginNextTurn_39 hD.2.2.2.1 hin ?_
        refine mg_eqi (y := lm i) (by rw [nI_clampN (by omega)]) ?_
        refine mg_icmp_ge (tgt := 80) d_Dr_beginNextTurn_40 (by decide) (fun c_40 => ?_) (fun c_40 => ?_)
        · have hlt : ¬ cs.getD i 0 < lm i := Int32.not_lt.mpr c_40
          rw [nextF, if_neg hlt] at hr
          refine mg_iinc (v := nI i + Int32.ofInt (-1)) d_Dr_beginNextTurn_80 rfl rfl (Nat.le_of_ble_eq_true rfl) rfl ?_
          refine mg_goto (tgt := 10) d_Dr_beginNextTurn_83 (by decide) ?_
          exact ih0 hr _
        · have hlt : cs.getD i 0 < lm i := Int32.not_le.mp c_40
          rw [nextF, if_pos hlt] at hr
          subst hr
          first | refine mg_aload_n d_Dr_beginNextTurn_43 rfl rfl ?_ | refine mg_aload_nN d_Dr_beginNextTurn_43 rfl rfl ?_
          refine mg_getfield fl_Dr_25 d_Dr_beginNextTurn_44 (by first | exact hD.1 | exact hD.2.2.2.1) rfl ?_
          first | refine mg_aload_n d_Dr_beginNextTurn_47 rfl rfl ?_ | refine mg_aload_nN d_Dr_beginNextTurn_47 rfl rfl ?_
          refine mg_getfield fl_Dr_12 d_Dr_beginNextTurn_48 (by first | exact hD.1 | exact hD.2.2.2.1) rfl ?_
          refine mg_callV (vl_Dr_40 rfl) d_Dr_beginNextTurn_51 (by obtain ⟨_, e1, -⟩ := hD.2.2.2.2; exact e1) rfl rfl (c_In_copyFrom (xs := gv) (ys := cs) hD.2.2.2.2 hD.2.1 (by omega)) rfl rfl (by rw [hR]; decide) (by rw [hR]; decide) (Nat.le_of_ble_eq_true rfl) ?_
          rintro v M3 ⟨rfl, hI3, hs3⟩
          replace hD := hD.gv hI3 hs3
          have hs := (hs3.wd (lo' := d) (hi' := d + 8) (by omega) (by omega))
          first | refine mg_aload_n d_Dr_beginNextTurn_54 rfl rfl ?_ | refine mg_aload_nN d_Dr_beginNextTurn_54 rfl rfl ?_
          refine mg_getfield fl_Dr_25 d_Dr_beginNextTurn_55 (by first | exact hD.1 | exact hD.2.2.2.1) rfl ?_
          refine mg_iload_n d_Dr_beginNextTurn_58 rfl rfl ?_
          refine mg_callV (vl_Dr_32 rfl) d_Dr_beginNextTurn_59 (by obtain ⟨_, e1, -⟩ := hD.2.2.2.2; exact e1) rfl rfl (c_In_cutTo (xs := cs) hD.2.2.2.2) rfl rfl (by rw [hR]; decide) (by rw [hR]; decide) (Nat.le_of_ble_eq_true rfl) ?_
          rintro v M4 ⟨rfl, hI4, hs4⟩
          replace hD := hD.gv hI4 hs4
          replace hs := hs.tr (hs4.wd (by omega) (by omega))
          first | refine mg_aload_n d_Dr_beginNextTurn_62 rfl rfl ?_ | refine mg_aload_nN d_Dr_beginNextTurn_62 rfl rfl ?_
          refine mg_getfield fl_Dr_25 d_Dr_beginNextTurn_63 (by first | exact hD.1 | exact hD.2.2.2.1) rfl ?_
          refine mg_iload_n d_Dr_beginNextTurn_66 rfl rfl ?_
          refine mg_iconst (v := 1) d_Dr_beginNextTurn_67 (by decide) ?_
          refine mg_iadd d_Dr_beginNextTurn_68 ?_
          refine mg_callV (vl_Dr_62 rfl) d_Dr_beginNextTurn_69 (by obtain ⟨_, e1, -⟩ := hD.2.2.2.2; exact e1) rfl rfl (c_In_add (xs := cs.take (nI i).toNatClampNeg) hD.2.2.2.2) rfl rfl (by rw [hR]; decide) (by rw [hR]; decide) (Nat.le_of_ble_eq_true rfl) ?_
          rintro v M5 ⟨rfl, hI5, hs5⟩
          have htl : (cs.take (nI i).toNatClampNeg).length < 60 := by rw [nI_clampN (by omega), List.length_take]; omega
          rw [show (if (cs.take (nI i).toNatClampNeg).length < 60 then cs.take (nI i).toNatClampNeg ++ [cs.getD i 0 + 1] else cs.take (nI i).toNatClampNeg) = cs.take i ++ [cs.getD i 0 + 1] from by rw [if_pos htl, nI_clampN (by omega)]] at hI5
          replace hD := hD.gv hI5 hs5
          replace hs := hs.tr (hs5.wd (by omega) (by omega))
          refine mg_pop d_Dr_beginNextTurn_72 rfl ?_
          first | refine mg_aload_n d_Dr_beginNextTurn_73 rfl rfl ?_ | refine mg_aload_nN d_Dr_beginNextTurn_73 rfl rfl ?_
          refine mg_iconst (v := 2) d_Dr_beginNextTurn_74 (by decide) ?_
          refine mg_callV (vl_Dr_44 rfl) d_Dr_beginNextTurn_75 hD.1 rfl rfl (c_Dr_begin hD) rfl rfl (by rw [hR]; decide) (by rw [hR]; decide) (Nat.le_of_ble_eq_true rfl) ?_
          rintro v M6 ⟨rfl, hD6, hs6⟩
          refine mg_iconst (v := 1) d_Dr_beginNextTurn_78 (by decide) ?_
          exact mg_ireturn d_Dr_beginNextTurn_79 rfl rfl (Nat.le_of_ble_eq_true rfl) (Nat.le_of_ble_eq_true rfl) ⟨rfl, hD6, hs.tr hs6⟩

set_option maxHeartbeats 4000000 in
set_option maxRecDepth 100000 in
theorem c_Dr_beginNextTurn {M : mg_M} {d : Nat} {how z : Int32} {gv cs ns : List Int32} {il : Bool} {x : Int64} {lm : Nat → Int32} (hD : isD M d (how, gv, z) (cs, ns, il, x, lm)) : mg_Ct Y_Dr_beginNextTurn { frames := 3, cells := 0, slots := 0, locals := 67 } [.ref d] M (nextP M d z gv cs ns x lm (nextF cs lm cs.length)) := by
  refine mg_met [some (.ref d), none, none] (by decide +kernel) rfl (Nat.le_of_ble_eq_true rfl) ?_
  intro X hR _
  first | refine mg_aload_n d_Dr_beginNextTurn_0 rfl rfl ?_ | refine mg_aload_nN d_Dr_beginNextTurn_0 rfl rfl ?_
  refine mg_getfield fl_Dr_12 d_Dr_beginNextTurn_1 (by first | exact hD.1 | exact hD.2.2.2.1) rfl ?_
  refine mg_callV (vl_Dr_54 rfl) d_Dr_beginNextTurn_4 (by obtain ⟨_, e1, -⟩ := hD.2.1; exact e1) rfl rfl (c_In_length (xs := cs) hD.2.1) rfl rfl (by rw [hR]; decide) (by rw [hR]; decide) (Nat.le_of_ble_eq_true rfl) ?_
  rintro v M2 ⟨rfl, rfl⟩
  refine mg_iconst (v := 1) d_Dr_beginNextTurn_7 (by decide) ?_
  refine mg_isub d_Dr_beginNextTurn_8 ?_
  refine mg_eqi (y := nI cs.length + Int32.ofInt (-1)) (by rw [show (Int32.ofInt (-1)) = -1 by decide, Int32.sub_eq_add_neg]) ?_
  refine mg_istore_n d_Dr_beginNextTurn_9 rfl (Nat.le_of_ble_eq_true rfl) rfl ?_
  exact lp_Dr_next hR hD cs.length none (Nat.le_refl _) rfl

set_option maxHeartbeats 4000000 in
set_option maxRecDepth 100000 in
theorem c_Dr_init {M : mg_M} {d : Nat} (h0 : M d = some (.inr (2, [.null, .null, .int 0, .null, .null, .int 0, .long 0, .int 0]))) (e1 : M (d + 1) = none) (e2 : M (d + 2) = none) (e3 : M (d + 3) = none) (e4 : M (d + 4) = none) (e5 : M (d + 5) = none) (e6 : M (d + 6) = none) (e7 : M (d + 7) = none) : mg_Ct Y_Dr_init { frames := 2, cells := 7, slots := 246, locals := 32 } [.ref d] M (fun v M' => v = none ∧ isD M' d (0, [], 0) ([], [], false, 0, fun _ => 0) ∧ sm d (d + 8) M M') := by
  refine mg_met [some (.ref d)] (by decide +kernel) rfl (Nat.le_of_ble_eq_true rfl) ?_
  intro X hR _
  first | refine mg_aload_n d_Dr_init_0 rfl rfl ?_ | refine mg_aload_nN d_Dr_init_0 rfl rfl ?_
  refine mg_objInit ol_Dr_3 oi_inst oi_code d_Dr_init_1 (by rw [hR]; decide) (by rw [hR]; exact Nat.le_of_ble_eq_true rfl) ?_
  first | refine mg_aload_n d_Dr_init_4 rfl rfl ?_ | refine mg_aload_nN d_Dr_init_4 rfl rfl ?_
  refine mg_new (h := d + 1) nl_Dr_9 d_Dr_init_5 (by omega) e1 (fun v hv => by simp at hv; rcases hv with rfl | rfl <;> trivial) (by rw [hR]; exact Nat.le_of_ble_eq_true rfl) (by rw [hR]; exact Nat.le_of_ble_eq_true rfl) ?_
  refine mg_dup d_Dr_init_8 rfl ?_
  refine mg_callI (il_Dr_11 rfl) d_Dr_init_9 (c_In_init (h := d + 1) (mg_up_s _ _ _) (by rw [mg_up_n _ _ (by omega)]; exact e2)) rfl rfl (by rw [hR]; decide) (by rw [hR]; decide) (Nat.le_of_ble_eq_true rfl) ?_
  rintro v M1 ⟨rfl, hA, s1⟩
  have k1 : ∀ q, (q < d + 1 ∨ d + 3 ≤ q) → M1 q = M q := fun q hq => by rw [s1 q (by omega), mg_up_n _ _ (by omega)]
  clear s1
  refine mg_putfield fw_Dr_12 d_Dr_init_12 (by rw [k1 d (by omega)]; exact h0) (Nat.le_of_ble_eq_true rfl) (fun _ => ⟨rfl, rfl⟩) ?_
  first | refine mg_aload_n d_Dr_init_15 rfl rfl ?_ | refine mg_aload_nN d_Dr_init_15 rfl rfl ?_
  refine mg_new (h := d + 3) nl_Dr_9 d_Dr_init_16 (by omega) (by rw [mg_up_n _ _ (by omega), k1 _ (by omega)]; exact e3) (fun v hv => by simp at hv; rcases hv with rfl | rfl <;> trivial) (by rw [hR]; exact Nat.le_of_ble_eq_true rfl) (by rw [hR]; exact Nat.le_of_ble_eq_true rfl) ?_
  refine mg_dup d_Dr_init_19 rfl ?_
  refine mg_callI (il_Dr_11 rfl) d_Dr_init_20 (c_In_init (h := d + 3) (mg_up_s _ _ _) (by rw [mg_up_n _ _ (by omega), mg_up_n _ _ (by omega), k1 _ (by omega)]; exact e4)) rfl rfl (by rw [hR]; decide) (by rw [hR]; decide) (Nat.le_of_ble_eq_true rfl) ?_
  rintro v M2 ⟨rfl, hB, s2⟩
  have hA := ((hA.up (k := d) (e := .inr (2, [.ref (d + 1), .null, .int 0, .null, .null, .int 0, .long 0, .int 0])) (by omega) (by omega)).up (k := d + 3) (e := .inr (1, [.null, .int 0])) (by omega) (by omega)).sm s2 (by omega)
  have k2 : ∀ q, (q < d ∨ d + 5 ≤ q) → M2 q = M q := fun q hq => by rw [s2 q (by omega), mg_up_n _ _ (by omega), mg_up_n _ _ (by omega), k1 q (by omega)]
  have o2 : M2 d = some (.inr (2, [.ref (d + 1), .null, .int 0, .null, .null, .int 0, .long 0, .int 0])) := by rw [s2 d (by omega), mg_up_n _ _ (by omega), mg_up_s]; rfl
  clear s2 k1
  refine mg_putfield fw_Dr_18 d_Dr_init_23 o2 (Nat.le_of_ble_eq_true rfl) (fun _ => ⟨rfl, rfl⟩) ?_
  first | refine mg_aload_n d_Dr_init_26 rfl rfl ?_ | refine mg_aload_nN d_Dr_init_26 rfl rfl ?_
  refine mg_bipush (v := 60) d_Dr_init_27 (by decide) ?_
  refine mg_newarr (t := 0) (nn := 60) (h := d + 5) rfl ac_int d_Dr_init_29 (by omega) (by rw [mg_up_n _ _ (by omega), k2 _ (by omega)]; exact e5) (by decide) (by decide) (by decide) (by rw [hR]; exact Nat.le_of_ble_eq_true rfl) (by rw [hR]; exact Nat.le_of_ble_eq_true rfl) ?_
  refine mg_putfield fw_Dr_21 d_Dr_init_31 (by rw [mg_up_n _ _ (by omega), mg_up_s]) (Nat.le_of_ble_eq_true rfl) (fun _ => ⟨rfl, rfl⟩) ?_
  first | refine mg_aload_n d_Dr_init_34 rfl rfl ?_ | refine mg_aload_nN d_Dr_init_34 rfl rfl ?_
  obtain ⟨M3, hM3⟩ : ∃ M3, M3 = mg_up (mg_up (mg_up M2 d (.inr (2, [.ref (d + 1), .ref (d + 3), .int 0, .null, .null, .int 0, .long 0, .int 0]))) (d + 5) (.inl (0, 60, .inl (fun _ => 0)))) d (.inr (2, [.ref (d + 1), .ref (d + 3), .int 0, .ref (d + 5), .null, .int 0, .long 0, .int 0])) := ⟨_, rfl⟩
  refine mg_eqM (M' := M3) hM3.symm ?_
  have hA : isI M3 (d + 1) [] := by rw [hM3]; exact ((hA.up (by omega) (by omega)).up (by omega) (by omega)).up (by omega) (by omega)
  have hB : isI M3 (d + 3) [] := by rw [hM3]; exact ((hB.up (by omega) (by omega)).up (by omega) (by omega)).up (by omega) (by omega)
  have k3 : ∀ q, (q < d ∨ d + 6 ≤ q) → M3 q = M q := fun q hq => by rw [hM3, mg_up_n _ _ (by omega), mg_up_n _ _ (by omega), mg_up_n _ _ (by omega), k2 q (by omega)]
  have o3 : M3 d = some (.inr (2, [.ref (d + 1), .ref (d + 3), .int 0, .ref (d + 5), .null, .int 0, .long 0, .int 0])) := by rw [hM3, mg_up_s]
  have l3 : M3 (d + 5) = some (.inl (0, 60, .inl (fun _ => 0))) := by rw [hM3, mg_up_n _ _ (by omega), mg_up_s]
  clear hM3 k2
  refine mg_new (h := d + 6) nl_Dr_9 d_Dr_init_35 (by omega) (by rw [k3 _ (by omega)]; exact e6) (fun v hv => by simp at hv; rcases hv with rfl | rfl <;> trivial) (by rw [hR]; exact Nat.le_of_ble_eq_true rfl) (by rw [hR]; exact Nat.le_of_ble_eq_true rfl) ?_
  refine mg_dup d_Dr_init_38 rfl ?_
  refine mg_callI (il_Dr_11 rfl) d_Dr_init_39 (c_In_init (h := d + 6) (mg_up_s _ _ _) (by rw [mg_up_n _ _ (by omega), k3 _ (by omega)]; exact e7)) rfl rfl (by rw [hR]; decide) (by rw [hR]; decide) (Nat.le_of_ble_eq_true rfl) ?_
  rintro v M4 ⟨rfl, hC, s4⟩
  have hA := (hA.up (k := d + 6) (e := .inr (1, [.null, .int 0])) (by omega) (by omega)).sm s4 (by omega)
  have hB := (hB.up (k := d + 6) (e := .inr (1, [.null, .int 0])) (by omega) (by omega)).sm s4 (by omega)
  have k4 : ∀ q, (q < d ∨ d + 8 ≤ q) → M4 q = M q := fun q hq => by rw [s4 q (by omega), mg_up_n _ _ (by omega), k3 q (by omega)]
  have o4 : M4 d = some (.inr (2, [.ref (d + 1), .ref (d + 3), .int 0, .ref (d + 5), .null, .int 0, .long 0, .int 0])) := by rw [s4 d (by omega), mg_up_n _ _ (by omega)]; exact o3
  have l4 : M4 (d + 5) = some (.inl (0, 60, .inl (fun _ => 0))) := by rw [s4 _ (by omega), mg_up_n _ _ (by omega)]; exact l3
  clear s4 k3 o3 l3
  refine mg_putfield fw_Dr_25 d_Dr_init_42 o4 (Nat.le_of_ble_eq_true rfl) (fun _ => ⟨rfl, rfl⟩) ?_
  first | refine mg_aload_n d_Dr_init_45 rfl rfl ?_ | refine mg_aload_nN d_Dr_init_45 rfl rfl ?_
  refine mg_iconst (v := 0) d_Dr_init_46 (by decide) ?_
  refine mg_putfield (fw_Dr_28 _) d_Dr_init_47 (mg_up_s _ _ _) (Nat.le_of_ble_eq_true rfl) (fun _ => ⟨rfl, rfl⟩) ?_
  rw [mg_up_up]
  refine mg_return d_Dr_init_50 rfl (Nat.le_of_ble_eq_true rfl) (Nat.le_of_ble_eq_true rfl) ⟨rfl, ⟨mg_up_s _ _ _, hA.up (by omega) (by omega), hB.up (by omega) (by omega), by rw [mg_up_n _ _ (by omega)]; exact l4, hC.up (by omega) (by omega)⟩, fun q hq => ?_⟩
  rw [mg_up_n _ _ (by omega)]; exact k4 q hq

