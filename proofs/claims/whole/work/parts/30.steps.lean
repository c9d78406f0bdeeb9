/-! STEPS of a row -/
theorem pl_eq : ∀ l, l < 61 → ∀ N, N < 9 → (if (0 : Int32) < nI l - nI N + 1 then nI l - nI N + 1 else 0) = nI (l + 1 - N) := by decide +kernel
theorem hf_eq : ∀ N, N < 9 → nI N / 2 = nI (N / 2) := by decide +kernel
/-- made, or how far behind -/
abbrev sR : Type := List Int32 ⊕ Nat
def dropG (row : List Int32) : List Nat → Nat → sR
  | [], left => .inr left
  | N :: r, left => if left < row.length + 1 - N then .inl (cutL row left N) else dropG row r (left - (row.length + 1 - N))
def lowI (v : Int32) (way : Nat) : Int32 := if way = 0 then 0 else if way = 1 then v / 2 else v - 1
def waysN (v : Int32) : Nat := min v.toNatClampNeg 3
def lowG (row : List Int32) : Nat → Nat → Nat → sR
  | 0, _, left => .inr left
  | n + 1, i, left => if left < waysN (row.getD i 0) then .inl (row.set i (lowI (row.getD i 0) left)) else lowG row n (i + 1) (left - waysN (row.getD i 0))
def swapG (row : List Int32) : Nat → Nat → Nat → sR
  | 0, _, left => .inr left
  | n + 1, i, left => if row.getD (i + 1) 0 < row.getD i 0 then (if left = 0 then .inl ((row.set i (row.getD (i + 1) 0)).set (i + 1) (row.getD i 0)) else swapG row n (i + 1) (left - 1)) else swapG row n (i + 1) left
def stepF (row : List Int32) (w : Nat) : Option (List Int32) := match dropG row [8, 4, 2, 1] w with
  | .inl l => some l
  | .inr a => match lowG row row.length 0 a with
    | .inl l => some l
    | .inr b => match swapG row (row.length - 1) 0 b with
      | .inl l => some l
      | .inr _ => none
def sP (M : mg_M) (r : sR) : Option Value → mg_M → Prop := fun v M' => match r with
  | .inl l => v = some (.int (-1)) ∧ isI M' 10 l ∧ sm 10 12 M M'
  | .inr n => v = some (.int (nI n)) ∧ M' = M
def nnL (l : List Int32) : Prop := ∀ x ∈ l, ¬ x < 0
theorem nnL.at {l : List Int32} (h : nnL l) (i : Nat) : ¬ l.getD i 0 < 0 := by
  rcases Nat.lt_or_ge i l.length with q | q
  · have : l.getD i 0 ∈ l := by rw [List.getD_eq_getElem?_getD]; simp [q]
    exact h _ this
  · rw [List.getD_eq_getElem?_getD, List.getElem?_eq_none q]; decide
theorem min3 {v : Int32} (h : ¬ v < 0) : (if (3 : Int32) < v then 3 else v) = nI (waysN v) := by
  obtain ⟨j, hj, rfl⟩ := nI_of h
  unfold waysN
  rw [nI_clamp hj]
  by_cases h3 : 3 < j
  · rw [if_pos (show (3 : Int32) < nI j from nI_lt (a := 3) h3 hj), Nat.min_eq_right (by omega)]; rfl
  · rw [if_neg (show ¬ (3 : Int32) < nI j from nI_nlt (b := j) (a := 3) (by omega) (by decide)), Nat.min_eq_left (by omega)]

set_option maxHeartbeats 4000000 in
set_option maxRecDepth 100000 in
theorem c_PS_lowered {M : mg_M} {v0 : Int32} {way : Nat} (hw : way < 2 ^ 31) : mg_Ct Y_PS_lowered { frames := 0, cells := 0, slots := 0, locals := 0 } [.int v0, .int (nI way)] M (fun v M' => v = some (.int (lowI v0 way)) ∧ M' = M) := by
  refine mg_met [some (.int v0), some (.int (nI way))] (by decide +kernel) rfl (Nat.le_of_ble_eq_true rfl) ?_
  intro X hR _
  refine mg_iload_n d_PS_lowered_0 rfl rfl ?_
  by_cases h0 : way = 0
  · subst h0
    refine mg_lookup (off := 27) (tgt := 28) d_PS_lowered_1 (by decide) rfl (by decide) ?_
    refine mg_iconst (v := 0) d_PS_lowered_28 (by decide) ?_
    exact mg_ireturn d_PS_lowered_29 rfl rfl (Nat.le_of_ble_eq_true rfl) (Nat.le_of_ble_eq_true rfl) ⟨rfl, rfl⟩
  · have n0 : ¬ nI way = 0 := nI_ne0 (by omega) hw
    by_cases h1 : way = 1
    · subst h1
      refine mg_lookup (off := 29) (tgt := 30) d_PS_lowered_1 (by decide) rfl (by decide) ?_
      refine mg_iload_n d_PS_lowered_30 rfl rfl ?_
      refine mg_iconst (v := 2) d_PS_lowered_31 (by decide) ?_
      refine mg_idiv d_PS_lowered_32 (by first | assumption | decide) ?_
      exact mg_ireturn d_PS_lowered_33 rfl rfl (Nat.le_of_ble_eq_true rfl) (Nat.le_of_ble_eq_true rfl) ⟨rfl, rfl⟩
    · have n1 : ¬ nI way = 1 := fun h => h1 ((nI_eq (b := 1) hw (by decide)).mp h)
      refine mg_lookup (off := 33) (tgt := 34) d_PS_lowered_1 (by decide) ((lv_osw (k := 0) n0 (by decide)).trans (lv_osw (k := 1) n1 (by decide))) (by decide) ?_
      refine mg_iload_n d_PS_lowered_34 rfl rfl ?_
      refine mg_iconst (v := 1) d_PS_lowered_35 (by decide) ?_
      refine mg_isub d_PS_lowered_36 ?_
      exact mg_ireturn d_PS_lowered_37 rfl rfl (Nat.le_of_ble_eq_true rfl) (Nat.le_of_ble_eq_true rfl) ⟨by simp only [lowI, if_neg h0, if_neg h1], rfl⟩

set_option maxHeartbeats 4000000 in
set_option maxRecDepth 100000 in
theorem lp_drop {X : mg_X} {M : mg_M} {ng np nk : Nat} {lk fg fp : Value} {wa fv : Int32} {le : Bool} {sm0 : Int64} {row st : List Int32} {r : sR} {w : Int32} (hR : mg_R X = { frames := 2, cells := 0, slots := 0, locals := 46 }) (hO : M 1 = some (psF ng np lk nk wa fg fp fv le sm0)) (hI : isI M 4 row) (hS : isI M 10 st) {N : Nat} {rest : List Nat} (hN : 1 ≤ N) (hN8 : N ≤ 8) (kk : ∀ (left : Nat) (t : Option Value), left < 2 ^ 30 → dropG row rest left = r → mg_G X Y_PS_makeDrop (mg_Q X (sP M r) { frames := 2, cells := 0, slots := 0, locals := 46 }) M 0 0 5 [some (.ref 1), some (.int w), some (.int (nI left)), some (.int (nI (N / 2))), t] []) (left : Nat) (t : Option Value) (hl : left < 2 ^ 30) (hr : dropG row (N :: rest) left = r) : mg_G X Y_PS_makeDrop (mg_Q X (sP M r) { frames := 2, cells := 0, slots := 0, locals := 46 }) M 0 0 5 [some (.ref 1), some (.int w), some (.int (nI left)), some (.int (nI N)), t] [] := by
  refine mg_iload_n d_PS_makeDrop_5 rfl rfl ?_
  refine mg_iconst (v := 1) d_PS_makeDrop_6 (by decide) ?_
  refine mg_icmp_lt (tgt := 60) d_PS_makeDrop_7 (by decide) (fun c_7 => ?_) (fun c_7 => ?_)
  · exact absurd c_7 (nI_nlt (b := 1) (a := N) (by omega) (by omega))
  · refine mg_iconst (v := 0) d_PS_makeDrop_10 (by decide) ?_
    first | refine mg_aload_n d_PS_makeDrop_11 rfl rfl ?_ | refine mg_aload_nN d_PS_makeDrop_11 rfl rfl ?_
    refine mg_getfield fl_PS_24 d_PS_makeDrop_12 hO rfl ?_
    refine mg_callV (vl_PS_134 rfl) d_PS_makeDrop_15 (by obtain ⟨_, e1, -⟩ := hI; exact e1) rfl rfl (c_In_length hI) rfl rfl (by rw [hR]; decide) (by rw [hR]; decide) (Nat.le_of_ble_eq_true rfl) ?_
    rintro v M2 ⟨rfl, rfl⟩
    refine mg_iload_n d_PS_makeDrop_18 rfl rfl ?_
    refine mg_isub d_PS_makeDrop_19 ?_
    refine mg_iconst (v := 1) d_PS_makeDrop_20 (by decide) ?_
    refine mg_iadd d_PS_makeDrop_21 ?_
    refine mg_max ml_PS_238 mt_max_s mt_init mt_max_c d_PS_makeDrop_22 (by rw [hR]; decide) (by rw [hR]; exact Nat.le_of_ble_eq_true rfl) (by rw [hR]; exact Nat.le_of_ble_eq_true rfl) (by rw [hR]; exact Nat.le_of_ble_eq_true rfl) ?_
    refine mg_eqi (pl_eq row.length (by have := hI.le; omega) N (by omega)) ?_
    refine mg_istore d_PS_makeDrop_25 (Nat.le_of_ble_eq_true rfl) rfl ?_
    refine mg_iload_n d_PS_makeDrop_27 rfl rfl ?_
    refine mg_iload d_PS_makeDrop_28 rfl ?_
    refine mg_icmp_ge (tgt := 48) d_PS_makeDrop_30 (by decide) (fun c_30 => ?_) (fun c_30 => ?_)
    · have hge : ¬ left < row.length + 1 - N := fun h => absurd c_30 (nI_ge h (by have := hI.le; omega))
      rw [dropG, if_neg hge] at hr
      refine mg_iload_n d_PS_makeDrop_48 rfl rfl ?_
      refine mg_iload d_PS_makeDrop_49 rfl ?_
      refine mg_isub d_PS_makeDrop_51 ?_
      refine mg_eqi (pk_sub (by omega)) ?_
      refine mg_istore_n d_PS_makeDrop_52 rfl (Nat.le_of_ble_eq_true rfl) rfl ?_
      refine mg_iload_n d_PS_makeDrop_53 rfl rfl ?_
      refine mg_iconst (v := 2) d_PS_makeDrop_54 (by decide) ?_
      refine mg_idiv d_PS_makeDrop_55 (by decide) ?_
      refine mg_eqi (hf_eq N (by omega)) ?_
      refine mg_istore_n d_PS_makeDrop_56 rfl (Nat.le_of_ble_eq_true rfl) rfl ?_
      refine mg_goto (tgt := 5) d_PS_makeDrop_57 (by decide) ?_
      exact kk _ _ (by omega) hr
    · have hlt : left < row.length + 1 - N := by
        rcases Nat.lt_or_ge left (row.length + 1 - N) with q | q
        · exact q
        · exact absurd (nI_le q (by omega)) c_30
      rw [dropG, if_pos hlt] at hr
      subst hr
      first | refine mg_aload_n d_PS_makeDrop_33 rfl rfl ?_ | refine mg_aload_nN d_PS_makeDrop_33 rfl rfl ?_
      refine mg_getfield fl_PS_34 d_PS_makeDrop_34 hO rfl ?_
      first | refine mg_aload_n d_PS_makeDrop_37 rfl rfl ?_ | refine mg_aload_nN d_PS_makeDrop_37 rfl rfl ?_
      refine mg_getfield fl_PS_24 d_PS_makeDrop_38 hO rfl ?_
      refine mg_iload_n d_PS_makeDrop_41 rfl rfl ?_
      refine mg_iload_n d_PS_makeDrop_42 rfl rfl ?_
      refine mg_callV (vl_PS_243 rfl) d_PS_makeDrop_43 (by obtain ⟨_, e1, -⟩ := hS; exact e1) rfl rfl (c_In_copyWithout (a := left) (b := N) hS hI (by omega) (by have := hI.le; omega)) rfl rfl (by rw [hR]; decide) (by rw [hR]; decide) (Nat.le_of_ble_eq_true rfl) ?_
      rintro v M3 ⟨rfl, hI3, hs3⟩
      refine mg_iconst (v := -1) d_PS_makeDrop_46 (by decide) ?_
      exact mg_ireturn d_PS_makeDrop_47 rfl rfl (Nat.le_of_ble_eq_true rfl) (Nat.le_of_ble_eq_true rfl) ⟨rfl, hI3, hs3⟩

set_option maxHeartbeats 4000000 in
set_option maxRecDepth 100000 in
theorem c_PS_makeDrop {M : mg_M} {ng np nk : Nat} {lk fg fp : Value} {wa fv : Int32} {le : Bool} {sm0 : Int64} {row st : List Int32} {w : Nat} (hO : M 1 = some (psF ng np lk nk wa fg fp fv le sm0)) (hI : isI M 4 row) (hS : isI M 10 st) (hw : w < 2 ^ 30) : mg_Ct Y_PS_makeDrop { frames := 2, cells := 0, slots := 0, locals := 46 } [.ref 1, .int (nI w)] M (sP M (dropG row [8, 4, 2, 1] w)) := by
  refine mg_met [some (.ref 1), some (.int (nI w)), none, none, none] (by decide +kernel) rfl (Nat.le_of_ble_eq_true rfl) ?_
  intro X hR _
  refine mg_iload_n d_PS_makeDrop_0 rfl rfl ?_
  refine mg_istore_n d_PS_makeDrop_1 rfl (Nat.le_of_ble_eq_true rfl) rfl ?_
  refine mg_bipush (v := 8) d_PS_makeDrop_2 (by decide) ?_
  refine mg_istore_n d_PS_makeDrop_4 rfl (Nat.le_of_ble_eq_true rfl) rfl ?_
  refine lp_drop (N := 8) hR hO hI hS (by decide) (by decide) (fun l1 t1 b1 e1 => ?_) w none hw rfl
  refine lp_drop (N := 4) hR hO hI hS (by decide) (by decide) (fun l2 t2 b2 e2 => ?_) l1 t1 b1 e1
  refine lp_drop (N := 2) hR hO hI hS (by decide) (by decide) (fun l3 t3 b3 e3 => ?_) l2 t2 b2 e2
  refine lp_drop (N := 1) hR hO hI hS (by decide) (by decide) (fun l4 t4 b4 e4 => ?_) l3 t3 b3 e3
  rw [dropG] at e4
  rw [← e4]
  refine mg_iload_n d_PS_makeDrop_5 rfl rfl ?_
  refine mg_iconst (v := 1) d_PS_makeDrop_6 (by decide) ?_
  refine mg_icmp_lt (tgt := 60) d_PS_makeDrop_7 (by decide) (fun c_7 => ?_) (fun c_7 => absurd (by decide) c_7)
  refine mg_iload_n d_PS_makeDrop_60 rfl rfl ?_
  exact mg_ireturn d_PS_makeDrop_61 rfl rfl (Nat.le_of_ble_eq_true rfl) (Nat.le_of_ble_eq_true rfl) ⟨rfl, rfl⟩

set_option maxHeartbeats 4000000 in
set_option maxRecDepth 100000 in
theorem lp_low {X : mg_X} {M : mg_M} {ng np nk : Nat} {lk fg fp : Value} {wa fv : Int32} {le : Bool} {sm0 : Int64} {row st : List Int32} {r : sR} {w : Int32} (hR : mg_R X = { frames := 3, cells := 0, slots := 0, locals := 67 }) (hO : M 1 = some (psF ng np lk nk wa fg fp fv le sm0)) (hI : isI M 4 row) (hS : isI M 10 st) (hnn : nnL row) : ∀ (n i left : Nat) (t u : Option Value), i + n = row.length → left < 2 ^ 30 → lowG row n i left = r → mg_G X Y_PS_makeLowering (mg_Q X (sP M r) { frames := 3, cells := 0, slots := 0, locals := 67 }) M 0 0 4 [some (.ref 1), some (.int w), some (.int (nI left)), some (.int (nI i)), t, u] [] := by
  intro n
  induction n with
  | zero =>
    intro i left t u hi hl hr
    rw [lowG] at hr
    subst hr
    refine mg_iload_n d_PS_makeLowering_4 rfl rfl ?_
    refine mg_aload_n d_PS_makeLowering_5 rfl rfl ?_
    refine mg_getfield fl_PS_24 d_PS_makeLowering_6 hO rfl ?_
    refine mg_callV (vl_PS_134 rfl) d_PS_makeLowering_9 (by obtain ⟨_, e1, -⟩ := hI; exact e1) rfl rfl (c_In_length hI) rfl rfl (by rw [hR]; decide) (by rw [hR]; decide) (Nat.le_of_ble_eq_true rfl) ?_
    rintro v M2 ⟨rfl, rfl⟩
    refine mg_icmp_ge (tgt := 78) d_PS_makeLowering_12 (by decide) (fun c_12 => ?_) (fun c_12 => absurd (nI_le (by omega) (by have := hI.le; omega)) c_12)
    refine mg_iload_n d_PS_makeLowering_78 rfl rfl ?_
    exact mg_ireturn d_PS_makeLowering_79 rfl rfl (Nat.le_of_ble_eq_true rfl) (Nat.le_of_ble_eq_true rfl) ⟨rfl, rfl⟩
  | succ n ih =>
    intro i left t u hi hl hr
    refine mg_iload_n d_PS_makeLowering_4 rfl rfl ?_
    first | refine mg_aload_n d_PS_makeLowering_5 rfl rfl ?_ | refine mg_aload_nN d_PS_makeLowering_5 rfl rfl ?_
    refine mg_getfield fl_PS_24 d_PS_makeLowering_6 hO rfl ?_
    refine mg_callV (vl_PS_134 rfl) d_PS_makeLowering_9 (by obtain ⟨_, e1, -⟩ := hI; exact e1) rfl rfl (c_In_length hI) rfl rfl (by rw [hR]; decide) (by rw [hR]; decide) (Nat.le_of_ble_eq_true rfl) ?_
    rintro v M2 ⟨rfl, rfl⟩
    refine mg_icmp_ge (tgt := 78) d_PS_makeLowering_12 (by decide) (fun c_12 => ?_) (fun c_12 => ?_)
    · exact absurd c_12 (nI_ge (by omega : i < row.length) (by have := hI.le; omega))
    · first | refine mg_aload_n d_PS_makeLowering_15 rfl rfl ?_ | refine mg_aload_nN d_PS_makeLowering_15 rfl rfl ?_
      refine mg_getfield fl_PS_24 d_PS_makeLowering_16 hO rfl ?_
      refine mg_iload_n d_PS_makeLowering_19 rfl rfl ?_
      refine mg_iconst (v := 0) d_PS_makeLowering_20 (by decide) ?_
      refine mg_callV (vl_PS_130 rfl) d_PS_makeLowering_21 (by obtain ⟨_, e1, -⟩ := hI; exact e1) rfl rfl (c_In_at hI) rfl rfl (by rw [hR]; decide) (by rw [hR]; decide) (Nat.le_of_ble_eq_true rfl) ?_
      rintro v M2 ⟨rfl, rfl⟩
      refine mg_eqi (atI_in hI.le (by omega : i < row.length)) ?_
      refine mg_istore d_PS_makeLowering_24 (Nat.le_of_ble_eq_true rfl) rfl ?_
      refine mg_iload d_PS_makeLowering_26 rfl ?_
      refine mg_iconst (v := 3) d_PS_makeLowering_28 (by decide) ?_
      refine mg_min ml_PS_247 mt_min_s mt_init mt_min_c d_PS_makeLowering_29 (by rw [hR]; decide) (by rw [hR]; exact Nat.le_of_ble_eq_true rfl) (by rw [hR]; exact Nat.le_of_ble_eq_true rfl) (by rw [hR]; exact Nat.le_of_ble_eq_true rfl) ?_
      refine mg_eqi (min3 (hnn.at i)) ?_
      refine mg_istore d_PS_makeLowering_32 (Nat.le_of_ble_eq_true rfl) rfl ?_
      refine mg_iload_n d_PS_makeLowering_34 rfl rfl ?_
      refine mg_iload d_PS_makeLowering_35 rfl ?_
      refine mg_icmp_ge (tgt := 67) d_PS_makeLowering_37 (by decide) (fun c_37 => ?_) (fun c_37 => ?_)
      · have hge : ¬ left < waysN (row.getD i 0) := fun h => absurd c_37 (nI_ge h (by have : waysN (row.getD i 0) ≤ 3 := Nat.min_le_right _ _; omega))
        rw [lowG, if_neg hge] at hr
        refine mg_iload_n d_PS_makeLowering_67 rfl rfl ?_
        refine mg_iload d_PS_makeLowering_68 rfl ?_
        refine mg_isub d_PS_makeLowering_70 ?_
        refine mg_eqi (pk_sub (by omega)) ?_
        refine mg_istore_n d_PS_makeLowering_71 rfl (Nat.le_of_ble_eq_true rfl) rfl ?_
        refine mg_iinc (v := nI (i + 1)) d_PS_makeLowering_72 rfl (nI_1 _) (Nat.le_of_ble_eq_true rfl) rfl ?_
        refine mg_goto (tgt := 4) d_PS_makeLowering_75 (by decide) ?_
        exact ih (i + 1) _ _ _ (by omega) (by omega) hr
      · have hlt : left < waysN (row.getD i 0) := by
          rcases Nat.lt_or_ge left (waysN (row.getD i 0)) with q | q
          · exact q
          · exact absurd (nI_le q (by omega)) c_37
        rw [lowG, if_pos hlt] at hr
        subst hr
        first | refine mg_aload_n d_PS_makeLowering_40 rfl rfl ?_ | refine mg_aload_nN d_PS_makeLowering_40 rfl rfl ?_
        refine mg_getfield fl_PS_34 d_PS_makeLowering_41 hO rfl ?_
        first | refine mg_aload_n d_PS_makeLowering_44 rfl rfl ?_ | refine mg_aload_nN d_PS_makeLowering_44 rfl rfl ?_
        refine mg_getfield fl_PS_24 d_PS_makeLowering_45 hO rfl ?_
        refine mg_callV (vl_PS_123 rfl) d_PS_makeLowering_48 (by obtain ⟨_, e1, -⟩ := hS; exact e1) rfl rfl (c_In_copyFrom hS hI (by omega)) rfl rfl (by rw [hR]; decide) (by rw [hR]; decide) (Nat.le_of_ble_eq_true rfl) ?_
        rintro v M3 ⟨rfl, hS3, hs3⟩
        have hO3 := (hs3 1 (by omega)).trans hO
        first | refine mg_aload_n d_PS_makeLowering_51 rfl rfl ?_ | refine mg_aload_nN d_PS_makeLowering_51 rfl rfl ?_
        refine mg_getfield fl_PS_34 d_PS_makeLowering_52 hO3 rfl ?_
        refine mg_iload_n d_PS_makeLowering_55 rfl rfl ?_
        refine mg_iload d_PS_makeLowering_56 rfl ?_
        refine mg_iload_n d_PS_makeLowering_58 rfl rfl ?_
        refine mg_callS (sl_PS_250 rfl) d_PS_makeLowering_59 (c_PS_lowered (way := left) (by omega)) rfl rfl (by rw [hR]; decide) (by rw [hR]; decide) (Nat.le_of_ble_eq_true rfl) ?_
        rintro v M4 ⟨rfl, rfl⟩
        refine mg_callV (vl_PS_253 rfl) d_PS_makeLowering_62 (by obtain ⟨_, e1, -⟩ := hS3; exact e1) rfl rfl (c_In_set hS3) rfl rfl (by rw [hR]; decide) (by rw [hR]; decide) (Nat.le_of_ble_eq_true rfl) ?_
        rintro v M5 ⟨rfl, hI5, hs5⟩
        rw [setI_in hI.le (by omega : i < row.length)] at hI5
        refine mg_iconst (v := -1) d_PS_makeLowering_65 (by decide) ?_
        exact mg_ireturn d_PS_makeLowering_66 rfl rfl (Nat.le_of_ble_eq_true rfl) (Nat.le_of_ble_eq_true rfl) ⟨rfl, hI5, hs3.tr hs5⟩

set_option maxHeartbeats 4000000 in
set_option maxRecDepth 100000 in
theorem c_PS_makeLowering {M : mg_M} {ng np nk : Nat} {lk fg fp : Value} {wa fv : Int32} {le : Bool} {sm0 : Int64} {row st : List Int32} {w : Nat} (hO : M 1 = some (psF ng np lk nk wa fg fp fv le sm0)) (hI : isI M 4 row) (hS : isI M 10 st) (hnn : nnL row) (hw : w < 2 ^ 30) : mg_Ct Y_PS_makeLowering { frames := 3, cells := 0, slots := 0, locals := 67 } [.ref 1, .int (nI w)] M (sP M (lowG row row.length 0 w)) := by
  refine mg_met [some (.ref 1), some (.int (nI w)), none, none, none, none] (by decide +kernel) rfl (Nat.le_of_ble_eq_true rfl) ?_
  intro X hR _
  refine mg_iload_n d_PS_makeLowering_0 rfl rfl ?_
  refine mg_istore_n d_PS_makeLowering_1 rfl (Nat.le_of_ble_eq_true rfl) rfl ?_
  refine mg_iconst (v := 0) d_PS_makeLowering_2 (by decide) ?_
  refine mg_istore_n d_PS_makeLowering_3 rfl (Nat.le_of_ble_eq_true rfl) rfl ?_
  exact lp_low hR hO hI hS hnn row.length 0 w none none (by omega) hw rfl

set_option maxHeartbeats 4000000 in
set_option maxRecDepth 100000 in
theorem lp_swap {X : mg_X} {M : mg_M} {ng np nk : Nat} {lk fg fp : Value} {wa fv : Int32} {le : Bool} {sm0 : Int64} {row st : List Int32} {r : sR} {w : Int32} (hR : mg_R X = { frames := 3, cells := 0, slots := 0, locals := 67 }) (hO : M 1 = some (psF ng np lk nk wa fg fp fv le sm0)) (hI : isI M 4 row) (hS : isI M 10 st) : ∀ (n i left : Nat) (t u : Option Value), (n = row.length - 1 - i ∧ (i = 0 ∨ i + 1 ≤ row.length)) → left < 2 ^ 30 → swapG row n i left = r → mg_G X Y_PS_makeSwap (mg_Q X (sP M r) { frames := 3, cells := 0, slots := 0, locals := 67 }) M 0 0 4 [some (.ref 1), some (.int w), some (.int (nI left)), some (.int (nI i)), t, u] [] := by
  intro n
  induction n with
  | zero =>
    intro i left t u hi hl hr
    rw [swapG] at hr
    subst hr
    refine mg_iload_n d_PS_makeSwap_4 rfl rfl ?_
    refine mg_iconst (v := 1) d_PS_makeSwap_5 (by decide) ?_
    refine mg_iadd d_PS_makeSwap_6 ?_
    refine mg_eqi (nI_1 i) ?_
    refine mg_aload_n d_PS_makeSwap_7 rfl rfl ?_
    refine mg_getfield fl_PS_24 d_PS_makeSwap_8 hO rfl ?_
    refine mg_callV (vl_PS_134 rfl) d_PS_makeSwap_11 (by obtain ⟨_, e1, -⟩ := hI; exact e1) rfl rfl (c_In_length hI) rfl rfl (by rw [hR]; decide) (by rw [hR]; decide) (Nat.le_of_ble_eq_true rfl) ?_
    rintro v M2 ⟨rfl, rfl⟩
    refine mg_icmp_ge (tgt := 96) d_PS_makeSwap_14 (by decide) (fun c_14 => ?_) (fun c_14 => absurd (nI_le (by omega) (by have := hI.le; omega)) c_14)
    refine mg_iload_n d_PS_makeSwap_96 rfl rfl ?_
    exact mg_ireturn d_PS_makeSwap_97 rfl rfl (Nat.le_of_ble_eq_true rfl) (Nat.le_of_ble_eq_true rfl) ⟨rfl, rfl⟩
  | succ n ih =>
    intro i left t u hi hl hr
    refine mg_iload_n d_PS_makeSwap_4 rfl rfl ?_
    refine mg_iconst (v := 1) d_PS_makeSwap_5 (by decide) ?_
    refine mg_iadd d_PS_makeSwap_6 ?_
    refine mg_eqi (nI_1 i) ?_
    first | refine mg_aload_n d_PS_makeSwap_7 rfl rfl ?_ | refine mg_aload_nN d_PS_makeSwap_7 rfl rfl ?_
    refine mg_getfield fl_PS_24 d_PS_makeSwap_8 hO rfl ?_
    refine mg_callV (vl_PS_134 rfl) d_PS_makeSwap_11 (by obtain ⟨_, e1, -⟩ := hI; exact e1) rfl rfl (c_In_length hI) rfl rfl (by rw [hR]; decide) (by rw [hR]; decide) (Nat.le_of_ble_eq_true rfl) ?_
    rintro v M2 ⟨rfl, rfl⟩
    refine mg_icmp_ge (tgt := 96) d_PS_makeSwap_14 (by decide) (fun c_14 => ?_) (fun c_14 => ?_)
    · exact absurd c_14 (nI_ge (by omega : i + 1 < row.length) (by have := hI.le; omega))
    · first | refine mg_aload_n d_PS_makeSwap_17 rfl rfl ?_ | refine mg_aload_nN d_PS_makeSwap_17 rfl rfl ?_
      refine mg_getfield fl_PS_24 d_PS_makeSwap_18 hO rfl ?_
      refine mg_iload_n d_PS_makeSwap_21 rfl rfl ?_
      refine mg_iconst (v := 0) d_PS_makeSwap_22 (by decide) ?_
      refine mg_callV (vl_PS_130 rfl) d_PS_makeSwap_23 (by obtain ⟨_, e1, -⟩ := hI; exact e1) rfl rfl (c_In_at hI) rfl rfl (by rw [hR]; decide) (by rw [hR]; decide) (Nat.le_of_ble_eq_true rfl) ?_
      rintro v M2 ⟨rfl, rfl⟩
      refine mg_eqi (atI_in hI.le (by omega : i < row.length)) ?_
      refine mg_istore d_PS_makeSwap_26 (Nat.le_of_ble_eq_true rfl) rfl ?_
      first | refine mg_aload_n d_PS_makeSwap_28 rfl rfl ?_ | refine mg_aload_nN d_PS_makeSwap_28 rfl rfl ?_
      refine mg_getfield fl_PS_24 d_PS_makeSwap_29 hO rfl ?_
      refine mg_iload_n d_PS_makeSwap_32 rfl rfl ?_
      refine mg_iconst (v := 1) d_PS_makeSwap_33 (by decide) ?_
      refine mg_iadd d_PS_makeSwap_34 ?_
      refine mg_eqi (nI_1 i) ?_
      refine mg_iconst (v := 0) d_PS_makeSwap_35 (by decide) ?_
      refine mg_callV (vl_PS_130 rfl) d_PS_makeSwap_36 (by obtain ⟨_, e1, -⟩ := hI; exact e1) rfl rfl (c_In_at hI) rfl rfl (by rw [hR]; decide) (by rw [hR]; decide) (Nat.le_of_ble_eq_true rfl) ?_
      rintro v M2 ⟨rfl, rfl⟩
      refine mg_eqi (atI_in hI.le (by omega : i + 1 < row.length)) ?_
      refine mg_istore d_PS_makeSwap_39 (Nat.le_of_ble_eq_true rfl) rfl ?_
      refine mg_iload d_PS_makeSwap_41 rfl ?_
      refine mg_iload d_PS_makeSwap_43 rfl ?_
      refine mg_icmp_le (tgt := 90) d_PS_makeSwap_45 (by decide) (fun c_45 => ?_) (fun c_45 => ?_)
      · rw [swapG, if_neg (Int32.not_lt.mpr c_45)] at hr
        refine mg_iinc (v := nI (i + 1)) d_PS_makeSwap_90 rfl (nI_1 _) (Nat.le_of_ble_eq_true rfl) rfl ?_
        refine mg_goto (tgt := 4) d_PS_makeSwap_93 (by decide) ?_
        exact ih (i + 1) _ _ _ (by omega) (by omega) hr
      · rw [swapG, if_pos (Int32.not_le.mp c_45)] at hr
        refine mg_iload_n d_PS_makeSwap_48 rfl rfl ?_
        refine mg_if_ne (tgt := 87) d_PS_makeSwap_49 (by decide) (fun c_49 => ?_) (fun c_49 => ?_)
        · have hne : ¬ left = 0 := fun h => by subst h; exact c_49 nI_0
          rw [if_neg hne] at hr
          obtain ⟨left, rfl⟩ : ∃ e, left = e + 1 := ⟨left - 1, by omega⟩
          refine mg_iinc (v := nI left) d_PS_makeSwap_87 rfl (nI_m1 left) (Nat.le_of_ble_eq_true rfl) rfl ?_
          refine mg_iinc (v := nI (i + 1)) d_PS_makeSwap_90 rfl (nI_1 _) (Nat.le_of_ble_eq_true rfl) rfl ?_
          refine mg_goto (tgt := 4) d_PS_makeSwap_93 (by decide) ?_
          exact ih (i + 1) _ _ _ (by omega) (by omega) hr
        · have hz : left = 0 := (nI_eq (b := 0) (by omega) (by decide)).mp (c_49.trans nI_0.symm)
          rw [if_pos hz] at hr
          subst hr
          first | refine mg_aload_n d_PS_makeSwap_52 rfl rfl ?_ | refine mg_aload_nN d_PS_makeSwap_52 rfl rfl ?_
          refine mg_getfield fl_PS_34 d_PS_makeSwap_53 hO rfl ?_
          first | refine mg_aload_n d_PS_makeSwap_56 rfl rfl ?_ | refine mg_aload_nN d_PS_makeSwap_56 rfl rfl ?_
          refine mg_getfield fl_PS_24 d_PS_makeSwap_57 hO rfl ?_
          refine mg_callV (vl_PS_123 rfl) d_PS_makeSwap_60 (by obtain ⟨_, e1, -⟩ := hS; exact e1) rfl rfl (c_In_copyFrom hS hI (by omega)) rfl rfl (by rw [hR]; decide) (by rw [hR]; decide) (Nat.le_of_ble_eq_true rfl) ?_
          rintro v M3 ⟨rfl, hS3, hs3⟩
          have hO3 := (hs3 1 (by omega)).trans hO
          first | refine mg_aload_n d_PS_makeSwap_63 rfl rfl ?_ | refine mg_aload_nN d_PS_makeSwap_63 rfl rfl ?_
          refine mg_getfield fl_PS_34 d_PS_makeSwap_64 hO3 rfl ?_
          refine mg_iload_n d_PS_makeSwap_67 rfl rfl ?_
          refine mg_iload d_PS_makeSwap_68 rfl ?_
          refine mg_callV (vl_PS_253 rfl) d_PS_makeSwap_70 (by obtain ⟨_, e1, -⟩ := hS3; exact e1) rfl rfl (c_In_set hS3) rfl rfl (by rw [hR]; decide) (by rw [hR]; decide) (Nat.le_of_ble_eq_true rfl) ?_
          rintro v M5 ⟨rfl, hI5, hs5⟩
          rw [setI_in hI.le (by omega : i < row.length)] at hI5
          have hO5 := (hs5 1 (by omega)).trans hO3
          first | refine mg_aload_n d_PS_makeSwap_73 rfl rfl ?_ | refine mg_aload_nN d_PS_makeSwap_73 rfl rfl ?_
          refine mg_getfield fl_PS_34 d_PS_makeSwap_74 hO5 rfl ?_
          refine mg_iload_n d_PS_makeSwap_77 rfl rfl ?_
          refine mg_iconst (v := 1) d_PS_makeSwap_78 (by decide) ?_
          refine mg_iadd d_PS_makeSwap_79 ?_
          refine mg_eqi (nI_1 i) ?_
          refine mg_iload d_PS_makeSwap_80 rfl ?_
          refine mg_callV (vl_PS_253 rfl) d_PS_makeSwap_82 (by obtain ⟨_, e1, -⟩ := hI5; exact e1) rfl rfl (c_In_set hI5) rfl rfl (by rw [hR]; decide) (by rw [hR]; decide) (Nat.le_of_ble_eq_true rfl) ?_
          rintro v M6 ⟨rfl, hI6, hs6⟩
          rw [setI_in hI5.le (by rw [List.length_set]; omega : i + 1 < (row.set i (row.getD (i + 1) 0)).length)] at hI6
          refine mg_iconst (v := -1) d_PS_makeSwap_85 (by decide) ?_
          exact mg_ireturn d_PS_makeSwap_86 rfl rfl (Nat.le_of_ble_eq_true rfl) (Nat.le_of_ble_eq_true rfl) ⟨rfl, hI6, (hs3.tr hs5).tr hs6⟩

set_option maxHeartbeats 4000000 in
set_option maxRecDepth 100000 in
theorem c_PS_makeSwap {M : mg_M} {ng np nk : Nat} {lk fg fp : Value} {wa fv : Int32} {le : Bool} {sm0 : Int64} {row st : List Int32} {w : Nat} (hO : M 1 = some (psF ng np lk nk wa fg fp fv le sm0)) (hI : isI M 4 row) (hS : isI M 10 st) (hw : w < 2 ^ 30) : mg_Ct Y_PS_makeSwap { frames := 3, cells := 0, slots := 0, locals := 67 } [.ref 1, .int (nI w)] M (sP M (swapG row (row.length - 1) 0 w)) := by
  refine mg_met [some (.ref 1), some (.int (nI w)), none, none, none, none] (by decide +kernel) rfl (Nat.le_of_ble_eq_true rfl) ?_
  intro X hR _
  refine mg_iload_n d_PS_makeSwap_0 rfl rfl ?_
  refine mg_istore_n d_PS_makeSwap_1 rfl (Nat.le_of_ble_eq_true rfl) rfl ?_
  refine mg_iconst (v := 0) d_PS_makeSwap_2 (by decide) ?_
  refine mg_istore_n d_PS_makeSwap_3 rfl (Nat.le_of_ble_eq_true rfl) rfl ?_
  exact lp_swap hR hO hI hS (row.length - 1) 0 w none none ⟨by omega, Or.inl rfl⟩ hw rfl

