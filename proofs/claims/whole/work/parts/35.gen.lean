/-! NEW GENERATORS -/
def mg_nr (fs : List Value) : Bool := fs.all (fun v => match v with
  | .ref _ => false
  | _ => true)
theorem mg_nr_cl {M : mg_M} {fs : List Value} (h : mg_nr fs = true) : ∀ v ∈ fs, mg_cv M v := fun v hv => by
  have h1 := List.all_eq_true.mp h v hv
  cases v <;> first | trivial | (simp at h1)
/-- the generator that the arguments ask for -/
def mkG (gs : List gN) (kd a b : Int32) : Option gN := if kd = 0 then (if isNr a = true ∧ isNr b = true ∧ a ≤ b then some (0, a, b, 1) else none)
  else if a < 0 ∨ nI gs.length ≤ a then none else match gs[a.toNatClampNeg]? with
    | none => none
    | some ga => if kd = 1 then (if ¬ b < 0 ∧ b ≤ 9 then some (1, a, b, ga.2.2.2 + 1) else none)
      else if kd = 4 then (if b = 0 ∨ b = 1 then some (4, a, b, ga.2.2.2 + 1) else none)
      else if kd = 5 then (if isNr b = true then some (5, a, b, ga.2.2.2 + 1) else none)
      else if b < 0 ∨ nI gs.length ≤ b then none else match gs[b.toNatClampNeg]? with
        | none => none
        | some gb => if kd = 2 then some (2, a, b, max ga.2.2.2 gb.2.2.2 + 1) else if kd = 3 then some (3, a, b, max ga.2.2.2 gb.2.2.2 + 1) else none
def mkP (M : mg_M) (h : Nat) (r : Option gN) : Option Value → mg_M → Prop := fun v M' => match r with
  | none => v = some .null ∧ M' = M
  | some g => v = some (.ref h) ∧ M' = mg_up M h (genE g)

set_option maxHeartbeats 4000000 in
set_option maxRecDepth 100000 in
theorem c_PS_makeOfTwo_N {M : mg_M} {kd : Int32} {p : Nat} : mg_Ct Y_PS_makeOfTwo { frames := 3, cells := 1, slots := 3, locals := 55 } [.int kd, .ref p, .null] M (fun v M' => v = some .null ∧ M' = M) := by
  refine mg_met [some (.int kd), some (.ref p), some .null] (by decide +kernel) rfl (Nat.le_of_ble_eq_true rfl) ?_
  intro X hR _
  first | refine mg_aload_n d_PS_makeOfTwo_0 rfl rfl ?_ | refine mg_aload_nN d_PS_makeOfTwo_0 rfl rfl ?_
  refine mg_ifnull d_PS_makeOfTwo_1 ?_
  first | refine mg_aload_n d_PS_makeOfTwo_4 rfl rfl ?_ | refine mg_aload_nN d_PS_makeOfTwo_4 rfl rfl ?_
  refine mg_ifnonnullN d_PS_makeOfTwo_5 ?_
  refine mg_aconst_null d_PS_makeOfTwo_8 ?_
  exact mg_areturn d_PS_makeOfTwo_9 rfl (Or.inl rfl) (Nat.le_of_ble_eq_true rfl) (Nat.le_of_ble_eq_true rfl) ⟨rfl, rfl⟩

set_option maxHeartbeats 4000000 in
set_option maxRecDepth 100000 in
theorem c_PS_makeOfTwo_2 {M : mg_M} {p q h : Nat} {g g2 : gN} (hk0 : h ≠ 0) (hn : M h = none) (hp : M p = some (genE g)) (hq : M q = some (genE g2)) (l1 : g.2.2.2 ≤ 8) (l2 : g2.2.2.2 ≤ 8) : mg_Ct Y_PS_makeOfTwo { frames := 3, cells := 1, slots := 3, locals := 55 } [.int 2, .ref p, .ref q] M (fun v M' => v = some (.ref h) ∧ M' = mg_up M h (.inr (5, [.int (nI (max g.2.2.2 g2.2.2.2 + 1)), .ref p, .ref q]))) := by
  refine mg_met [some (.int 2), some (.ref p), some (.ref q)] (by decide +kernel) rfl (Nat.le_of_ble_eq_true rfl) ?_
  intro X hR _
  first | refine mg_aload_n d_PS_makeOfTwo_0 rfl rfl ?_ | refine mg_aload_nN d_PS_makeOfTwo_0 rfl rfl ?_
  refine mg_ifnull d_PS_makeOfTwo_1 ?_
  first | refine mg_aload_n d_PS_makeOfTwo_4 rfl rfl ?_ | refine mg_aload_nN d_PS_makeOfTwo_4 rfl rfl ?_
  refine mg_ifnonnull (tgt := 10) d_PS_makeOfTwo_5 (by decide) ?_
  refine mg_iload_n d_PS_makeOfTwo_10 rfl rfl ?_
  refine mg_lookup (off := 25) (tgt := 36) d_PS_makeOfTwo_11 (by decide) rfl (by decide) ?_
  have n1 : p ≠ h := fun e => by rw [e, hn] at hp; cases hp
  have n2 : q ≠ h := fun e => by rw [e, hn] at hq; cases hq
  refine mg_new (h := h) nl_PS_182 d_PS_makeOfTwo_36 hk0 hn (mg_nr_cl rfl) (by rw [hR]; exact Nat.le_of_ble_eq_true rfl) (by rw [hR]; exact Nat.le_of_ble_eq_true rfl) ?_
  refine mg_dup d_PS_makeOfTwo_39 rfl ?_
  first | refine mg_aload_n d_PS_makeOfTwo_40 rfl rfl ?_ | refine mg_aload_nN d_PS_makeOfTwo_40 rfl rfl ?_
  first | refine mg_aload_n d_PS_makeOfTwo_41 rfl rfl ?_ | refine mg_aload_nN d_PS_makeOfTwo_41 rfl rfl ?_
  refine mg_callI (il_PS_184 rfl) d_PS_makeOfTwo_42 (c_PO_init (mg_up_s _ _ _) (by rw [mg_up_n _ _ n1]; exact hp) (by rw [mg_up_n _ _ n2]; exact hq) l1 l2) rfl rfl (by rw [hR]; decide) (by rw [hR]; exact ⟨Nat.le_of_ble_eq_true rfl, Nat.le_of_ble_eq_true rfl⟩) (Nat.le_of_ble_eq_true rfl) ?_
  rintro v M1 ⟨rfl, rfl⟩
  rw [mg_up_up]
  exact mg_areturn d_PS_makeOfTwo_45 rfl (Or.inr ⟨_, rfl⟩) (Nat.le_of_ble_eq_true rfl) (Nat.le_of_ble_eq_true rfl) ⟨rfl, rfl⟩

set_option maxHeartbeats 4000000 in
set_option maxRecDepth 100000 in
theorem c_PS_makeOfTwo_3 {M : mg_M} {p q h : Nat} {g g2 : gN} (hk0 : h ≠ 0) (hn : M h = none) (hp : M p = some (genE g)) (hq : M q = some (genE g2)) (l1 : g.2.2.2 ≤ 8) (l2 : g2.2.2.2 ≤ 8) : mg_Ct Y_PS_makeOfTwo { frames := 3, cells := 1, slots := 3, locals := 55 } [.int 3, .ref p, .ref q] M (fun v M' => v = some (.ref h) ∧ M' = mg_up M h (.inr (6, [.int (nI (max g.2.2.2 g2.2.2.2 + 1)), .ref p, .ref q]))) := by
  refine mg_met [some (.int 3), some (.ref p), some (.ref q)] (by decide +kernel) rfl (Nat.le_of_ble_eq_true rfl) ?_
  intro X hR _
  first | refine mg_aload_n d_PS_makeOfTwo_0 rfl rfl ?_ | refine mg_aload_nN d_PS_makeOfTwo_0 rfl rfl ?_
  refine mg_ifnull d_PS_makeOfTwo_1 ?_
  first | refine mg_aload_n d_PS_makeOfTwo_4 rfl rfl ?_ | refine mg_aload_nN d_PS_makeOfTwo_4 rfl rfl ?_
  refine mg_ifnonnull (tgt := 10) d_PS_makeOfTwo_5 (by decide) ?_
  refine mg_iload_n d_PS_makeOfTwo_10 rfl rfl ?_
  refine mg_lookup (off := 35) (tgt := 46) d_PS_makeOfTwo_11 (by decide) rfl (by decide) ?_
  have n1 : p ≠ h := fun e => by rw [e, hn] at hp; cases hp
  have n2 : q ≠ h := fun e => by rw [e, hn] at hq; cases hq
  refine mg_new (h := h) nl_PS_187 d_PS_makeOfTwo_46 hk0 hn (mg_nr_cl rfl) (by rw [hR]; exact Nat.le_of_ble_eq_true rfl) (by rw [hR]; exact Nat.le_of_ble_eq_true rfl) ?_
  refine mg_dup d_PS_makeOfTwo_49 rfl ?_
  first | refine mg_aload_n d_PS_makeOfTwo_50 rfl rfl ?_ | refine mg_aload_nN d_PS_makeOfTwo_50 rfl rfl ?_
  first | refine mg_aload_n d_PS_makeOfTwo_51 rfl rfl ?_ | refine mg_aload_nN d_PS_makeOfTwo_51 rfl rfl ?_
  refine mg_callI (il_PS_189 rfl) d_PS_makeOfTwo_52 (c_OO_init (mg_up_s _ _ _) (by rw [mg_up_n _ _ n1]; exact hp) (by rw [mg_up_n _ _ n2]; exact hq) l1 l2) rfl rfl (by rw [hR]; decide) (by rw [hR]; exact ⟨Nat.le_of_ble_eq_true rfl, Nat.le_of_ble_eq_true rfl⟩) (Nat.le_of_ble_eq_true rfl) ?_
  rintro v M1 ⟨rfl, rfl⟩
  rw [mg_up_up]
  exact mg_areturn d_PS_makeOfTwo_55 rfl (Or.inr ⟨_, rfl⟩) (Nat.le_of_ble_eq_true rfl) (Nat.le_of_ble_eq_true rfl) ⟨rfl, rfl⟩

set_option maxHeartbeats 4000000 in
set_option maxRecDepth 100000 in
theorem c_PS_makeOfTwo_x {M : mg_M} {kd : Int32} {p q : Nat} (k2 : ¬ kd = 2) (k3 : ¬ kd = 3) : mg_Ct Y_PS_makeOfTwo { frames := 3, cells := 1, slots := 3, locals := 55 } [.int kd, .ref p, .ref q] M (fun v M' => v = some .null ∧ M' = M) := by
  refine mg_met [some (.int kd), some (.ref p), some (.ref q)] (by decide +kernel) rfl (Nat.le_of_ble_eq_true rfl) ?_
  intro X hR _
  first | refine mg_aload_n d_PS_makeOfTwo_0 rfl rfl ?_ | refine mg_aload_nN d_PS_makeOfTwo_0 rfl rfl ?_
  refine mg_ifnull d_PS_makeOfTwo_1 ?_
  first | refine mg_aload_n d_PS_makeOfTwo_4 rfl rfl ?_ | refine mg_aload_nN d_PS_makeOfTwo_4 rfl rfl ?_
  refine mg_ifnonnull (tgt := 10) d_PS_makeOfTwo_5 (by decide) ?_
  refine mg_iload_n d_PS_makeOfTwo_10 rfl rfl ?_
  refine mg_lookup (off := 45) (tgt := 56) d_PS_makeOfTwo_11 (by decide) ((lv_osw (k := 2) k2 (by decide)).trans (lv_osw (k := 3) k3 (by decide))) (by decide) ?_
  refine mg_aconst_null d_PS_makeOfTwo_56 ?_
  exact mg_areturn d_PS_makeOfTwo_57 rfl (Or.inl rfl) (Nat.le_of_ble_eq_true rfl) (Nat.le_of_ble_eq_true rfl) ⟨rfl, rfl⟩

set_option maxHeartbeats 4000000 in
set_option maxRecDepth 100000 in
theorem c_PS_makeG0 {M : mg_M} {np nk : Nat} {lk fg fp : Value} {wa fv : Int32} {le : Bool} {sm0 : Int64} {gs : List gN} {h : Nat} {a b : Int32} (hk0 : h ≠ 0) (hn : M h = none) : mg_Ct Y_PS_makeGenerator { frames := 4, cells := 1, slots := 3, locals := 77 } [.ref 1, .int 0, .int a, .int b] M (mkP M h (mkG gs 0 a b)) := by
  refine mg_met [some (.ref 1), some (.int 0), some (.int a), some (.int b), none] (by decide +kernel) rfl (Nat.le_of_ble_eq_true rfl) ?_
  intro X hR _
  refine mg_iload_n d_PS_makeGenerator_0 rfl rfl ?_
  refine mg_if_ne (tgt := 37) d_PS_makeGenerator_1 (by decide) (fun c_1 => ?_) (fun c_1 => ?_)
  · exact absurd rfl c_1
  · refine mg_iload_n d_PS_makeGenerator_4 rfl rfl ?_
    refine mg_callS (sl_PS_159 rfl) d_PS_makeGenerator_5 (c_PS_isNear) rfl rfl (by rw [hR]; decide) (by rw [hR]; decide) (Nat.le_of_ble_eq_true rfl) ?_
    rintro v M1 ⟨rfl, rfl⟩
    refine mg_if_eq (tgt := 35) d_PS_makeGenerator_8 (by decide) (fun c_8 => ?_) (fun c_8 => ?_)
    · refine mg_aconst_null d_PS_makeGenerator_35 ?_
      exact mg_areturn d_PS_makeGenerator_36 rfl (Or.inl rfl) (Nat.le_of_ble_eq_true rfl) (Nat.le_of_ble_eq_true rfl) (by rw [mkG, if_pos rfl, if_neg (fun h9 => by rw [bI_f c_8] at h9; exact absurd h9.1 (by decide))]; exact ⟨rfl, rfl⟩)
    · refine mg_iload_n d_PS_makeGenerator_11 rfl rfl ?_
      refine mg_callS (sl_PS_159 rfl) d_PS_makeGenerator_12 (c_PS_isNear) rfl rfl (by rw [hR]; decide) (by rw [hR]; decide) (Nat.le_of_ble_eq_true rfl) ?_
      rintro v M1 ⟨rfl, rfl⟩
      refine mg_if_eq (tgt := 35) d_PS_makeGenerator_15 (by decide) (fun c_15 => ?_) (fun c_15 => ?_)
      · refine mg_aconst_null d_PS_makeGenerator_35 ?_
        exact mg_areturn d_PS_makeGenerator_36 rfl (Or.inl rfl) (Nat.le_of_ble_eq_true rfl) (Nat.le_of_ble_eq_true rfl) (by rw [mkG, if_pos rfl, if_neg (fun h9 => by rw [bI_f c_15] at h9; exact absurd h9.2.1 (by decide))]; exact ⟨rfl, rfl⟩)
      · refine mg_iload_n d_PS_makeGenerator_18 rfl rfl ?_
        refine mg_iload_n d_PS_makeGenerator_19 rfl rfl ?_
        refine mg_icmp_gt (tgt := 35) d_PS_makeGenerator_20 (by decide) (fun c_20 => ?_) (fun c_20 => ?_)
        · refine mg_aconst_null d_PS_makeGenerator_35 ?_
          exact mg_areturn d_PS_makeGenerator_36 rfl (Or.inl rfl) (Nat.le_of_ble_eq_true rfl) (Nat.le_of_ble_eq_true rfl) (by rw [mkG, if_pos rfl, if_neg (fun h9 => absurd c_20 (Int32.not_lt.mpr h9.2.2))]; exact ⟨rfl, rfl⟩)
        · refine mg_new (h := h) nl_PS_162 d_PS_makeGenerator_23 hk0 hn (mg_nr_cl rfl) (by rw [hR]; exact Nat.le_of_ble_eq_true rfl) (by rw [hR]; exact Nat.le_of_ble_eq_true rfl) ?_
          refine mg_dup d_PS_makeGenerator_26 rfl ?_
          refine mg_iload_n d_PS_makeGenerator_27 rfl rfl ?_
          refine mg_iload_n d_PS_makeGenerator_28 rfl rfl ?_
          refine mg_callI (il_PS_164 rfl) d_PS_makeGenerator_29 (c_IR_init (mg_up_s _ _ _)) rfl rfl (by rw [hR]; decide) (by rw [hR]; exact ⟨Nat.le_of_ble_eq_true rfl, Nat.le_of_ble_eq_true rfl⟩) (Nat.le_of_ble_eq_true rfl) ?_
          rintro v M1 ⟨rfl, rfl⟩
          rw [mg_up_up]
          refine mg_goto (tgt := 36) d_PS_makeGenerator_32 (by decide) ?_
          exact mg_areturn d_PS_makeGenerator_36 rfl (Or.inr ⟨_, rfl⟩) (Nat.le_of_ble_eq_true rfl) (Nat.le_of_ble_eq_true rfl) (by rw [mkG, if_pos rfl, if_pos ⟨bI_t c_8, bI_t c_15, Int32.not_lt.mp c_20⟩]; exact ⟨rfl, rfl⟩)

set_option maxHeartbeats 4000000 in
set_option maxRecDepth 100000 in
theorem c_PS_makeGn {M : mg_M} {np nk : Nat} {lk fg fp : Value} {wa fv : Int32} {le : Bool} {sm0 : Int64} {gs : List gN} {h : Nat} {kd a b : Int32} (k0 : ¬ kd = 0) (hO : M 1 = some (psF gs.length np lk nk wa fg fp fv le sm0)) (ha : a < 0 ∨ nI gs.length ≤ a) : mg_Ct Y_PS_makeGenerator { frames := 4, cells := 1, slots := 3, locals := 77 } [.ref 1, .int kd, .int a, .int b] M (mkP M h (mkG gs kd a b)) := by
  refine mg_met [some (.ref 1), some (.int kd), some (.int a), some (.int b), none] (by decide +kernel) rfl (Nat.le_of_ble_eq_true rfl) ?_
  intro X hR _
  refine mg_iload_n d_PS_makeGenerator_0 rfl rfl ?_
  refine mg_if_ne (tgt := 37) d_PS_makeGenerator_1 (by decide) (fun c_1 => ?_) (fun c_1 => ?_)
  · first | refine mg_aload_n d_PS_makeGenerator_37 rfl rfl ?_ | refine mg_aload_nN d_PS_makeGenerator_37 rfl rfl ?_
    refine mg_iload_n d_PS_makeGenerator_38 rfl rfl ?_
    refine mg_callV (vl_PS_61 rfl) d_PS_makeGenerator_39 hO rfl rfl (c_PS_generatorAt_out hO ha) rfl rfl (by rw [hR]; decide) (by rw [hR]; decide) (Nat.le_of_ble_eq_true rfl) ?_
    rintro v M1 ⟨rfl, rfl⟩
    first | refine mg_astore d_PS_makeGenerator_42 (Nat.le_of_ble_eq_true rfl) rfl ?_ | refine mg_astoreN d_PS_makeGenerator_42 (Nat.le_of_ble_eq_true rfl) rfl ?_
    first | refine mg_aload d_PS_makeGenerator_44 rfl ?_ | refine mg_aloadN d_PS_makeGenerator_44 rfl ?_
    refine mg_ifnonnullN d_PS_makeGenerator_46 ?_
    refine mg_aconst_null d_PS_makeGenerator_49 ?_
    exact mg_areturn d_PS_makeGenerator_50 rfl (Or.inl rfl) (Nat.le_of_ble_eq_true rfl) (Nat.le_of_ble_eq_true rfl) (by rw [mkG, if_neg k0, if_pos ha]; exact ⟨rfl, rfl⟩)
  · exact absurd c_1 k0

theorem mk_pre {gs : List gN} {kd b : Int32} {ja : Nat} {ga : gN} (ha : ja < gs.length) (h20 : gs.length ≤ 20) (hga : gs[ja]? = some ga) (k0 : ¬ kd = 0) : mkG gs kd (nI ja) b = if kd = 1 then (if ¬ b < 0 ∧ b ≤ 9 then some (1, nI ja, b, ga.2.2.2 + 1) else none)
      else if kd = 4 then (if b = 0 ∨ b = 1 then some (4, nI ja, b, ga.2.2.2 + 1) else none)
      else if kd = 5 then (if isNr b = true then some (5, nI ja, b, ga.2.2.2 + 1) else none)
      else if b < 0 ∨ nI gs.length ≤ b then none else match gs[b.toNatClampNeg]? with
        | none => none
        | some gb => if kd = 2 then some (2, nI ja, b, max ga.2.2.2 gb.2.2.2 + 1) else if kd = 3 then some (3, nI ja, b, max ga.2.2.2 gb.2.2.2 + 1) else none := by
  unfold mkG
  rw [if_neg k0, if_neg (fun h => h.elim (nI_pos (by omega)) (nI_ge ha (by omega))), nI_clamp (by omega : ja < 2 ^ 31), hga]
set_option maxHeartbeats 4000000 in
set_option maxRecDepth 100000 in
theorem c_PS_makeGi {M : mg_M} {np nk : Nat} {lk fg fp : Value} {wa fv : Int32} {le : Bool} {sm0 : Int64} {gs : List gN} {h : Nat} {kd b : Int32} {ja : Nat} {ga : gN} (hw : wfG gs) (k0 : ¬ kd = 0) (hO : M 1 = some (psF gs.length np lk nk wa fg fp fv le sm0)) (hA : M 2 = some (arE 1 20 (gA 100 gs.length))) (hG : isG M gs) (hk0 : h ≠ 0) (hn : M h = none) (hga : gs[ja]? = some ga) : mg_Ct Y_PS_makeGenerator { frames := 4, cells := 1, slots := 3, locals := 77 } [.ref 1, .int kd, .int (nI ja), .int b] M (mkP M h (mkG gs kd (nI ja) b)) := by
  have ha := (List.getElem?_eq_some_iff.mp hga).1
  have h20 := hw.1
  have nj : 100 + ja ≠ h := fun e => by rw [← e, hG ja ga hga] at hn; cases hn
  refine mg_met [some (.ref 1), some (.int kd), some (.int (nI ja)), some (.int b), none] (by decide +kernel) rfl (Nat.le_of_ble_eq_true rfl) ?_
  intro X hR _
  refine mg_iload_n d_PS_makeGenerator_0 rfl rfl ?_
  refine mg_if_ne (tgt := 37) d_PS_makeGenerator_1 (by decide) (fun c_1 => ?_) (fun c_1 => ?_)
  · first | refine mg_aload_n d_PS_makeGenerator_37 rfl rfl ?_ | refine mg_aload_nN d_PS_makeGenerator_37 rfl rfl ?_
    refine mg_iload_n d_PS_makeGenerator_38 rfl rfl ?_
    refine mg_callV (vl_PS_61 rfl) d_PS_makeGenerator_39 hO rfl rfl (c_PS_generatorAt_in hO hA ha h20) rfl rfl (by rw [hR]; decide) (by rw [hR]; decide) (Nat.le_of_ble_eq_true rfl) ?_
    rintro v M1 ⟨rfl, rfl⟩
    first | refine mg_astore d_PS_makeGenerator_42 (Nat.le_of_ble_eq_true rfl) rfl ?_ | refine mg_astoreN d_PS_makeGenerator_42 (Nat.le_of_ble_eq_true rfl) rfl ?_
    first | refine mg_aload d_PS_makeGenerator_44 rfl ?_ | refine mg_aloadN d_PS_makeGenerator_44 rfl ?_
    refine mg_ifnonnull (tgt := 51) d_PS_makeGenerator_46 (by decide) ?_
    refine mg_iload_n d_PS_makeGenerator_51 rfl rfl ?_
    by_cases k1 : kd = 1
    · subst k1
      refine mg_tableIn (off := 36) (tgt := 88) d_PS_makeGenerator_52 (by decide) (by decide) rfl (by decide) ?_
      refine mg_iload_n d_PS_makeGenerator_88 rfl rfl ?_
      refine mg_if_lt (tgt := 111) d_PS_makeGenerator_89 (by decide) (fun c_89 => ?_) (fun c_89 => ?_)
      · refine mg_aconst_null d_PS_makeGenerator_111 ?_
        exact mg_areturn d_PS_makeGenerator_112 rfl (Or.inl rfl) (Nat.le_of_ble_eq_true rfl) (Nat.le_of_ble_eq_true rfl) (by rw [mk_pre ha h20 hga k0, if_pos rfl, if_neg (fun h9 => h9.1 c_89)]; exact ⟨rfl, rfl⟩)
      · refine mg_iload_n d_PS_makeGenerator_92 rfl rfl ?_
        refine mg_bipush (v := 9) d_PS_makeGenerator_93 (by decide) ?_
        refine mg_icmp_gt (tgt := 111) d_PS_makeGenerator_95 (by decide) (fun c_95 => ?_) (fun c_95 => ?_)
        · refine mg_aconst_null d_PS_makeGenerator_111 ?_
          exact mg_areturn d_PS_makeGenerator_112 rfl (Or.inl rfl) (Nat.le_of_ble_eq_true rfl) (Nat.le_of_ble_eq_true rfl) (by rw [mk_pre ha h20 hga k0, if_pos rfl, if_neg (fun h9 => absurd c_95 (Int32.not_lt.mpr h9.2))]; exact ⟨rfl, rfl⟩)
        · refine mg_new (h := h) nl_PS_167 d_PS_makeGenerator_98 hk0 hn (mg_nr_cl rfl) (by rw [hR]; exact Nat.le_of_ble_eq_true rfl) (by rw [hR]; exact Nat.le_of_ble_eq_true rfl) ?_
          refine mg_dup d_PS_makeGenerator_101 rfl ?_
          first | refine mg_aload d_PS_makeGenerator_102 rfl ?_ | refine mg_aloadN d_PS_makeGenerator_102 rfl ?_
          refine mg_iload_n d_PS_makeGenerator_104 rfl rfl ?_
          refine mg_callI (il_PS_169 rfl) d_PS_makeGenerator_105 (c_LO_init (mg_up_s _ _ _) (by rw [mg_up_n _ _ nj]; exact hG ja ga hga)) rfl rfl (by rw [hR]; decide) (by rw [hR]; exact ⟨Nat.le_of_ble_eq_true rfl, Nat.le_of_ble_eq_true rfl⟩) (Nat.le_of_ble_eq_true rfl) ?_
          rintro v M2 ⟨rfl, rfl⟩
          rw [mg_up_up]
          refine mg_goto (tgt := 112) d_PS_makeGenerator_108 (by decide) ?_
          exact mg_areturn d_PS_makeGenerator_112 rfl (Or.inr ⟨_, rfl⟩) (Nat.le_of_ble_eq_true rfl) (Nat.le_of_ble_eq_true rfl) (by rw [mk_pre ha h20 hga k0, if_pos rfl, if_pos ⟨c_89, Int32.not_lt.mp c_95⟩]; refine ⟨rfl, ?_⟩; simp only [genE, nI_clamp (by omega : ja < 2 ^ 31)])
    · by_cases k4 : kd = 4
      · subst k4
        refine mg_tableIn (off := 61) (tgt := 113) d_PS_makeGenerator_52 (by decide) (by decide) rfl (by decide) ?_
        refine mg_iload_n d_PS_makeGenerator_113 rfl rfl ?_
        refine mg_if_eq (tgt := 122) d_PS_makeGenerator_114 (by decide) (fun c_114 => ?_) (fun c_114 => ?_)
        · refine mg_new (h := h) nl_PS_172 d_PS_makeGenerator_122 hk0 hn (mg_nr_cl rfl) (by rw [hR]; exact Nat.le_of_ble_eq_true rfl) (by rw [hR]; exact Nat.le_of_ble_eq_true rfl) ?_
          refine mg_dup d_PS_makeGenerator_125 rfl ?_
          refine mg_aload d_PS_makeGenerator_126 rfl ?_
          refine mg_iload_n d_PS_makeGenerator_128 rfl rfl ?_
          refine mg_callI (il_PS_174 rfl) d_PS_makeGenerator_129 (c_KO_init (mg_up_s _ _ _) (by rw [mg_up_n _ _ nj]; exact hG ja ga hga)) rfl rfl (by rw [hR]; decide) (by rw [hR]; exact ⟨Nat.le_of_ble_eq_true rfl, Nat.le_of_ble_eq_true rfl⟩) (Nat.le_of_ble_eq_true rfl) ?_
          rintro v M2 ⟨rfl, rfl⟩
          rw [mg_up_up]
          refine mg_goto (tgt := 136) d_PS_makeGenerator_132 (by decide) ?_
          exact mg_areturn d_PS_makeGenerator_136 rfl (Or.inr ⟨_, rfl⟩) (Nat.le_of_ble_eq_true rfl) (Nat.le_of_ble_eq_true rfl) (by rw [mk_pre ha h20 hga k0, if_neg k1, if_pos rfl, if_pos (Or.inl c_114)]; refine ⟨rfl, ?_⟩; simp only [genE, nI_clamp (by omega : ja < 2 ^ 31)])
        · refine mg_iload_n d_PS_makeGenerator_117 rfl rfl ?_
          refine mg_iconst (v := 1) d_PS_makeGenerator_118 (by decide) ?_
          refine mg_icmp_ne (tgt := 135) d_PS_makeGenerator_119 (by decide) (fun c_119 => ?_) (fun c_119 => ?_)
          · refine mg_aconst_null d_PS_makeGenerator_135 ?_
            exact mg_areturn d_PS_makeGenerator_136 rfl (Or.inl rfl) (Nat.le_of_ble_eq_true rfl) (Nat.le_of_ble_eq_true rfl) (by rw [mk_pre ha h20 hga k0, if_neg k1, if_pos rfl, if_neg (fun h9 => h9.elim c_114 c_119)]; exact ⟨rfl, rfl⟩)
          · refine mg_new (h := h) nl_PS_172 d_PS_makeGenerator_122 hk0 hn (mg_nr_cl rfl) (by rw [hR]; exact Nat.le_of_ble_eq_true rfl) (by rw [hR]; exact Nat.le_of_ble_eq_true rfl) ?_
            refine mg_dup d_PS_makeGenerator_125 rfl ?_
            refine mg_aload d_PS_makeGenerator_126 rfl ?_
            refine mg_iload_n d_PS_makeGenerator_128 rfl rfl ?_
            refine mg_callI (il_PS_174 rfl) d_PS_makeGenerator_129 (c_KO_init (mg_up_s _ _ _) (by rw [mg_up_n _ _ nj]; exact hG ja ga hga)) rfl rfl (by rw [hR]; decide) (by rw [hR]; exact ⟨Nat.le_of_ble_eq_true rfl, Nat.le_of_ble_eq_true rfl⟩) (Nat.le_of_ble_eq_true rfl) ?_
            rintro v M2 ⟨rfl, rfl⟩
            rw [mg_up_up]
            refine mg_goto (tgt := 136) d_PS_makeGenerator_132 (by decide) ?_
            exact mg_areturn d_PS_makeGenerator_136 rfl (Or.inr ⟨_, rfl⟩) (Nat.le_of_ble_eq_true rfl) (Nat.le_of_ble_eq_true rfl) (by rw [mk_pre ha h20 hga k0, if_neg k1, if_pos rfl, if_pos (Or.inr c_119)]; refine ⟨rfl, ?_⟩; simp only [genE, nI_clamp (by omega : ja < 2 ^ 31)])
      · by_cases k5 : kd = 5
        · subst k5
          refine mg_tableIn (off := 85) (tgt := 137) d_PS_makeGenerator_52 (by decide) (by decide) rfl (by decide) ?_
          refine mg_iload_n d_PS_makeGenerator_137 rfl rfl ?_
          refine mg_callS (sl_PS_159 rfl) d_PS_makeGenerator_138 (c_PS_isNear) rfl rfl (by rw [hR]; decide) (by rw [hR]; decide) (Nat.le_of_ble_eq_true rfl) ?_
          rintro v M2 ⟨rfl, rfl⟩
          refine mg_if_eq (tgt := 157) d_PS_makeGenerator_141 (by decide) (fun c_141 => ?_) (fun c_141 => ?_)
          · refine mg_aconst_null d_PS_makeGenerator_157 ?_
            exact mg_areturn d_PS_makeGenerator_158 rfl (Or.inl rfl) (Nat.le_of_ble_eq_true rfl) (Nat.le_of_ble_eq_true rfl) (by rw [mk_pre ha h20 hga k0, if_neg k1, if_neg k4, if_pos rfl, if_neg (by rw [bI_f c_141]; decide)]; exact ⟨rfl, rfl⟩)
          · refine mg_new (h := h) nl_PS_175 d_PS_makeGenerator_144 hk0 hn (mg_nr_cl rfl) (by rw [hR]; exact Nat.le_of_ble_eq_true rfl) (by rw [hR]; exact Nat.le_of_ble_eq_true rfl) ?_
            refine mg_dup d_PS_makeGenerator_147 rfl ?_
            first | refine mg_aload d_PS_makeGenerator_148 rfl ?_ | refine mg_aloadN d_PS_makeGenerator_148 rfl ?_
            refine mg_iload_n d_PS_makeGenerator_150 rfl rfl ?_
            refine mg_callI (il_PS_177 rfl) d_PS_makeGenerator_151 (c_AT_init (mg_up_s _ _ _) (by rw [mg_up_n _ _ nj]; exact hG ja ga hga)) rfl rfl (by rw [hR]; decide) (by rw [hR]; exact ⟨Nat.le_of_ble_eq_true rfl, Nat.le_of_ble_eq_true rfl⟩) (Nat.le_of_ble_eq_true rfl) ?_
            rintro v M3 ⟨rfl, rfl⟩
            rw [mg_up_up]
            refine mg_goto (tgt := 158) d_PS_makeGenerator_154 (by decide) ?_
            exact mg_areturn d_PS_makeGenerator_158 rfl (Or.inr ⟨_, rfl⟩) (Nat.le_of_ble_eq_true rfl) (Nat.le_of_ble_eq_true rfl) (by rw [mk_pre ha h20 hga k0, if_neg k1, if_neg k4, if_pos rfl, if_pos (bI_t c_141)]; refine ⟨rfl, ?_⟩; simp only [genE, nI_clamp (by omega : ja < 2 ^ 31)])
        · have go : mg_G X Y_PS_makeGenerator (mg_Q X (mkP M1 h (mkG gs kd (nI ja) b)) { frames := 4, cells := 1, slots := 3, locals := 77 }) M1 (0 + 0) (0 + 0) 159 [some (.ref 1), some (.int kd), some (.int (nI ja)), some (.int b), some (.ref (100 + ja))] [] := by
            refine mg_iload_n d_PS_makeGenerator_159 rfl rfl ?_
            first | refine mg_aload d_PS_makeGenerator_160 rfl ?_ | refine mg_aloadN d_PS_makeGenerator_160 rfl ?_
            first | refine mg_aload_n d_PS_makeGenerator_162 rfl rfl ?_ | refine mg_aload_nN d_PS_makeGenerator_162 rfl rfl ?_
            refine mg_iload_n d_PS_makeGenerator_163 rfl rfl ?_
            rcases offR_or b h20 with hb | ⟨jb, hb, rfl⟩
            · refine mg_callV (vl_PS_61 rfl) d_PS_makeGenerator_164 hO rfl rfl (c_PS_generatorAt_out hO hb) rfl rfl (by rw [hR]; decide) (by rw [hR]; decide) (Nat.le_of_ble_eq_true rfl) ?_
              rintro v M2 ⟨rfl, rfl⟩
              refine mg_callS (sl_PS_178 rfl) d_PS_makeGenerator_167 c_PS_makeOfTwo_N rfl rfl (by rw [hR]; decide) (by rw [hR]; exact ⟨Nat.le_of_ble_eq_true rfl, Nat.le_of_ble_eq_true rfl⟩) (Nat.le_of_ble_eq_true rfl) ?_
              rintro v M3 ⟨rfl, rfl⟩
              exact mg_areturn d_PS_makeGenerator_170 rfl (Or.inl rfl) (Nat.le_of_ble_eq_true rfl) (Nat.le_of_ble_eq_true rfl) (by rw [mk_pre ha h20 hga k0, if_neg k1, if_neg k4, if_neg k5, if_pos (show b < 0 ∨ nI gs.length ≤ b from hb)]; exact ⟨rfl, rfl⟩)
            · obtain ⟨gb, hgb⟩ : ∃ gb, gs[jb]? = some gb := ⟨_, List.getElem?_eq_getElem hb⟩
              have nb : 100 + jb ≠ h := fun e => by rw [← e, hG jb gb hgb] at hn; cases hn
              refine mg_callV (vl_PS_61 rfl) d_PS_makeGenerator_164 hO rfl rfl (c_PS_generatorAt_in hO hA hb h20) rfl rfl (by rw [hR]; decide) (by rw [hR]; decide) (Nat.le_of_ble_eq_true rfl) ?_
              rintro v M2 ⟨rfl, rfl⟩
              have em : mkG gs kd (nI ja) (nI jb) = if kd = 2 then some (2, nI ja, nI jb, max ga.2.2.2 gb.2.2.2 + 1) else if kd = 3 then some (3, nI ja, nI jb, max ga.2.2.2 gb.2.2.2 + 1) else none := by rw [mk_pre ha h20 hga k0, if_neg k1, if_neg k4, if_neg k5, if_neg (fun h9 => h9.elim (nI_pos (by omega)) (nI_ge hb (by omega))), nI_clamp (by omega : jb < 2 ^ 31), hgb]
              by_cases k2 : kd = 2
              · subst k2
                refine mg_callS (sl_PS_178 rfl) d_PS_makeGenerator_167 (c_PS_makeOfTwo_2 (h := h) hk0 hn (hG ja ga hga) (hG jb gb hgb) (wf_dp hw hga).2 (wf_dp hw hgb).2) rfl rfl (by rw [hR]; decide) (by rw [hR]; exact ⟨Nat.le_of_ble_eq_true rfl, Nat.le_of_ble_eq_true rfl⟩) (Nat.le_of_ble_eq_true rfl) ?_
                rintro v M3 ⟨rfl, rfl⟩
                exact mg_areturn d_PS_makeGenerator_170 rfl (Or.inr ⟨_, rfl⟩) (Nat.le_of_ble_eq_true rfl) (Nat.le_of_ble_eq_true rfl) (by rw [em, if_pos rfl]; refine ⟨rfl, ?_⟩; simp only [genE, nI_clamp (by omega : ja < 2 ^ 31), nI_clamp (by omega : jb < 2 ^ 31)])
              · by_cases k3 : kd = 3
                · subst k3
                  refine mg_callS (sl_PS_178 rfl) d_PS_makeGenerator_167 (c_PS_makeOfTwo_3 (h := h) hk0 hn (hG ja ga hga) (hG jb gb hgb) (wf_dp hw hga).2 (wf_dp hw hgb).2) rfl rfl (by rw [hR]; decide) (by rw [hR]; exact ⟨Nat.le_of_ble_eq_true rfl, Nat.le_of_ble_eq_true rfl⟩) (Nat.le_of_ble_eq_true rfl) ?_
                  rintro v M3 ⟨rfl, rfl⟩
                  exact mg_areturn d_PS_makeGenerator_170 rfl (Or.inr ⟨_, rfl⟩) (Nat.le_of_ble_eq_true rfl) (Nat.le_of_ble_eq_true rfl) (by rw [em, if_neg k2, if_pos rfl]; refine ⟨rfl, ?_⟩; simp only [genE, nI_clamp (by omega : ja < 2 ^ 31), nI_clamp (by omega : jb < 2 ^ 31)])
                · refine mg_callS (sl_PS_178 rfl) d_PS_makeGenerator_167 (c_PS_makeOfTwo_x k2 k3) rfl rfl (by rw [hR]; decide) (by rw [hR]; exact ⟨Nat.le_of_ble_eq_true rfl, Nat.le_of_ble_eq_true rfl⟩) (Nat.le_of_ble_eq_true rfl) ?_
                  rintro v M3 ⟨rfl, rfl⟩
                  exact mg_areturn d_PS_makeGenerator_170 rfl (Or.inl rfl) (Nat.le_of_ble_eq_true rfl) (Nat.le_of_ble_eq_true rfl) (by rw [em, if_neg k2, if_neg k3]; exact ⟨rfl, rfl⟩)
          by_cases k2 : kd = 2
          · subst k2
            refine mg_tableIn (off := 107) (tgt := 159) d_PS_makeGenerator_52 (by decide) (by decide) rfl (by decide) ?_
            exact go
          · by_cases k3 : kd = 3
            · subst k3
              refine mg_tableIn (off := 107) (tgt := 159) d_PS_makeGenerator_52 (by decide) (by decide) rfl (by decide) ?_
              exact go
            · have hout : kd.toInt < 1 ∨ 5 < kd.toInt := by
                have a1 := lv_neT k1 (a := 1) (by decide)
                have a2 := lv_neT k2 (a := 2) (by decide)
                have a3 := lv_neT k3 (a := 3) (by decide)
                have a4 := lv_neT k4 (a := 4) (by decide)
                have a5 := lv_neT k5 (a := 5) (by decide)
                omega
              refine mg_tableOut (tgt := 159) d_PS_makeGenerator_52 hout (by decide) ?_
              exact go
  · exact absurd c_1 k0

