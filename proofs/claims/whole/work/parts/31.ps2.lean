/-! makeStep, the sum of rows, the kept rows -/
theorem ne_m1 {a : Nat} (h : a < 2 ^ 31) : ¬ nI a = -1 := fun e => nI_pos h (by rw [e]; decide)
theorem dropG_le {row : List Int32} : ∀ {l : List Nat} {w a : Nat}, dropG row l w = .inr a → a ≤ w
  | [], w, a, h => by
    rw [dropG] at h
    have := Sum.inr.inj h
    omega
  | N :: r, w, a, h => by
    rw [dropG] at h
    split at h
    · cases h
    · have := dropG_le h
      omega
theorem lowG_le {row : List Int32} : ∀ {n i w a : Nat}, lowG row n i w = .inr a → a ≤ w
  | 0, i, w, a, h => by
    rw [lowG] at h
    have := Sum.inr.inj h
    omega
  | n + 1, i, w, a, h => by
    rw [lowG] at h
    split at h
    · cases h
    · have := lowG_le h
      omega
def stP (M : mg_M) (r : Option (List Int32)) : Option Value → mg_M → Prop := fun v M' => match r with
  | some l => v = some (.int 1) ∧ isI M' 10 l ∧ sm 10 12 M M'
  | none => v = some (.int 0) ∧ M' = M

theorem swapG_le {row : List Int32} : ∀ {n i w a : Nat}, swapG row n i w = .inr a → a ≤ w
  | 0, i, w, a, h => by
    rw [swapG] at h
    have := Sum.inr.inj h
    omega
  | n + 1, i, w, a, h => by
    rw [swapG] at h
    split at h
    · split at h
      · cases h
      · have := swapG_le h
        omega
    · exact swapG_le h
set_option maxHeartbeats 4000000 in
set_option maxRecDepth 100000 in
theorem c_PS_makeStep {M : mg_M} {ng np nk : Nat} {lk fg fp : Value} {wa fv : Int32} {le : Bool} {sm0 : Int64} {row st : List Int32} {w : Nat} (hO : M 1 = some (psF ng np lk nk wa fg fp fv le sm0)) (hI : isI M 4 row) (hS : isI M 10 st) (hnn : nnL row) (hw : w < 2 ^ 30) : mg_Ct Y_PS_makeStep { frames := 4, cells := 0, slots := 0, locals := 92 } [.ref 1, .int (nI w)] M (stP M (stepF row w)) := by
  refine mg_met [some (.ref 1), some (.int (nI w)), none] (by decide +kernel) rfl (Nat.le_of_ble_eq_true rfl) ?_
  intro X hR _
  unfold stepF
  refine mg_aload_n d_PS_makeStep_0 rfl rfl ?_
  refine mg_iload_n d_PS_makeStep_1 rfl rfl ?_
  refine mg_callV (vl_PS_228 rfl) d_PS_makeStep_2 hO rfl rfl (c_PS_makeDrop hO hI hS hw) rfl rfl (by rw [hR]; decide) (by rw [hR]; decide) (Nat.le_of_ble_eq_true rfl) ?_
  intro v M2 hp
  generalize hd : dropG row [8, 4, 2, 1] w = r1 at hp ⊢
  cases r1 with
  | inl l =>
    obtain ⟨rfl, hI2, hs2⟩ := hp
    refine mg_istore_n d_PS_makeStep_5 rfl (Nat.le_of_ble_eq_true rfl) rfl ?_
    refine mg_iload_n d_PS_makeStep_6 rfl rfl ?_
    refine mg_iconst (v := -1) d_PS_makeStep_7 (by decide) ?_
    refine mg_icmp_eq (tgt := 17) d_PS_makeStep_8 (by decide) (fun _ => ?_) (fun c => absurd rfl c)
    refine mg_iload_n d_PS_makeStep_17 rfl rfl ?_
    refine mg_iconst (v := -1) d_PS_makeStep_18 (by decide) ?_
    refine mg_icmp_eq (tgt := 28) d_PS_makeStep_19 (by decide) (fun _ => ?_) (fun c => absurd rfl c)
    refine mg_iload_n d_PS_makeStep_28 rfl rfl ?_
    refine mg_iconst (v := -1) d_PS_makeStep_29 (by decide) ?_
    refine mg_icmp_ne (tgt := 37) d_PS_makeStep_30 (by decide) (fun c => absurd rfl c) (fun _ => ?_)
    refine mg_iconst (v := 1) d_PS_makeStep_33 (by decide) ?_
    refine mg_goto (tgt := 38) d_PS_makeStep_34 (by decide) ?_
    exact mg_ireturn d_PS_makeStep_38 rfl rfl (Nat.le_of_ble_eq_true rfl) (Nat.le_of_ble_eq_true rfl) ⟨rfl, hI2, hs2⟩
  | inr a1 =>
    obtain ⟨rfl, rfl⟩ := hp
    have l1 := dropG_le hd
    dsimp only
    refine mg_istore_n d_PS_makeStep_5 rfl (Nat.le_of_ble_eq_true rfl) rfl ?_
    refine mg_iload_n d_PS_makeStep_6 rfl rfl ?_
    refine mg_iconst (v := -1) d_PS_makeStep_7 (by decide) ?_
    refine mg_icmp_eq (tgt := 17) d_PS_makeStep_8 (by decide) (fun c => absurd c (ne_m1 (by omega))) (fun _ => ?_)
    refine mg_aload_n d_PS_makeStep_11 rfl rfl ?_
    refine mg_iload_n d_PS_makeStep_12 rfl rfl ?_
    refine mg_callV (vl_PS_232 rfl) d_PS_makeStep_13 hO rfl rfl (c_PS_makeLowering (w := a1) hO hI hS hnn (by omega)) rfl rfl (by rw [hR]; decide) (by rw [hR]; decide) (Nat.le_of_ble_eq_true rfl) ?_
    intro v M3 hp
    generalize hd2 : lowG row row.length 0 a1 = r2 at hp ⊢
    cases r2 with
    | inl l =>
      obtain ⟨rfl, hI2, hs2⟩ := hp
      refine mg_istore_n d_PS_makeStep_16 rfl (Nat.le_of_ble_eq_true rfl) rfl ?_
      refine mg_iload_n d_PS_makeStep_17 rfl rfl ?_
      refine mg_iconst (v := -1) d_PS_makeStep_18 (by decide) ?_
      refine mg_icmp_eq (tgt := 28) d_PS_makeStep_19 (by decide) (fun _ => ?_) (fun c => absurd rfl c)
      refine mg_iload_n d_PS_makeStep_28 rfl rfl ?_
      refine mg_iconst (v := -1) d_PS_makeStep_29 (by decide) ?_
      refine mg_icmp_ne (tgt := 37) d_PS_makeStep_30 (by decide) (fun c => absurd rfl c) (fun _ => ?_)
      refine mg_iconst (v := 1) d_PS_makeStep_33 (by decide) ?_
      refine mg_goto (tgt := 38) d_PS_makeStep_34 (by decide) ?_
      exact mg_ireturn d_PS_makeStep_38 rfl rfl (Nat.le_of_ble_eq_true rfl) (Nat.le_of_ble_eq_true rfl) ⟨rfl, hI2, hs2⟩
    | inr a2 =>
      obtain ⟨rfl, rfl⟩ := hp
      have l2 := lowG_le hd2
      dsimp only
      refine mg_istore_n d_PS_makeStep_16 rfl (Nat.le_of_ble_eq_true rfl) rfl ?_
      refine mg_iload_n d_PS_makeStep_17 rfl rfl ?_
      refine mg_iconst (v := -1) d_PS_makeStep_18 (by decide) ?_
      refine mg_icmp_eq (tgt := 28) d_PS_makeStep_19 (by decide) (fun c => absurd c (ne_m1 (by omega))) (fun _ => ?_)
      refine mg_aload_n d_PS_makeStep_22 rfl rfl ?_
      refine mg_iload_n d_PS_makeStep_23 rfl rfl ?_
      refine mg_callV (vl_PS_235 rfl) d_PS_makeStep_24 hO rfl rfl (c_PS_makeSwap (w := a2) hO hI hS (by omega)) rfl rfl (by rw [hR]; decide) (by rw [hR]; decide) (Nat.le_of_ble_eq_true rfl) ?_
      intro v M4 hp
      generalize hd3 : swapG row (row.length - 1) 0 a2 = r3 at hp ⊢
      cases r3 with
      | inl l =>
        obtain ⟨rfl, hI2, hs2⟩ := hp
        refine mg_istore_n d_PS_makeStep_27 rfl (Nat.le_of_ble_eq_true rfl) rfl ?_
        refine mg_iload_n d_PS_makeStep_28 rfl rfl ?_
        refine mg_iconst (v := -1) d_PS_makeStep_29 (by decide) ?_
        refine mg_icmp_ne (tgt := 37) d_PS_makeStep_30 (by decide) (fun c => absurd rfl c) (fun _ => ?_)
        refine mg_iconst (v := 1) d_PS_makeStep_33 (by decide) ?_
        refine mg_goto (tgt := 38) d_PS_makeStep_34 (by decide) ?_
        exact mg_ireturn d_PS_makeStep_38 rfl rfl (Nat.le_of_ble_eq_true rfl) (Nat.le_of_ble_eq_true rfl) ⟨rfl, hI2, hs2⟩
      | inr a3 =>
        obtain ⟨rfl, rfl⟩ := hp
        have l3 := swapG_le hd3
        refine mg_istore_n d_PS_makeStep_27 rfl (Nat.le_of_ble_eq_true rfl) rfl ?_
        refine mg_iload_n d_PS_makeStep_28 rfl rfl ?_
        refine mg_iconst (v := -1) d_PS_makeStep_29 (by decide) ?_
        refine mg_icmp_ne (tgt := 37) d_PS_makeStep_30 (by decide) (fun _ => ?_) (fun c => absurd c (ne_m1 (by omega)))
        refine mg_iconst (v := 0) d_PS_makeStep_37 (by decide) ?_
        exact mg_ireturn d_PS_makeStep_38 rfl rfl (Nat.le_of_ble_eq_true rfl) (Nat.le_of_ble_eq_true rfl) ⟨rfl, rfl⟩

def addS (s : Int64) (xs : List Int32) : Int64 := 31 * (xs.foldl (fun s x => 31 * s + x.toInt64) s) + 7
set_option maxHeartbeats 4000000 in
set_option maxRecDepth 100000 in
theorem lp_addS {X : mg_X} {M0 : mg_M} {ng np nk : Nat} {lk fg fp : Value} {wa fv : Int32} {le : Bool} {sm0 : Int64} {h : Nat} {xs : List Int32} {r : Int64} (hR : mg_R X = { frames := 1, cells := 0, slots := 0, locals := 22 }) (hh : 2 ≤ h) : ∀ (n i : Nat) (M : mg_M) (s : Int64), xs.length - i < n → i ≤ xs.length → M 1 = some (psF ng np lk nk wa fg fp fv le s) → isI M h xs → sm 1 2 M0 M → (xs.drop i).foldl (fun s x => 31 * s + x.toInt64) s = r → mg_G X Y_PS_addToRowsSum (mg_Q X (fun v M' => v = none ∧ M' 1 = some (psF ng np lk nk wa fg fp fv le (31 * r + 7)) ∧ sm 1 2 M0 M') { frames := 1, cells := 0, slots := 0, locals := 22 }) M 0 0 2 [some (.ref 1), some (.ref h), some (.int (nI i))] [] := by
  intro n
  induction n with
  | zero =>
    intro i M s hn
    exact absurd hn (by omega)
  | succ n ih =>
    intro i M s hn hil hO hI hs hr
    refine mg_iload_n d_PS_addToRowsSum_2 rfl rfl ?_
    first | refine mg_aload_n d_PS_addToRowsSum_3 rfl rfl ?_ | refine mg_aload_nN d_PS_addToRowsSum_3 rfl rfl ?_
    refine mg_callV (vl_PS_134 rfl) d_PS_addToRowsSum_4 (by obtain ⟨_, e1, -⟩ := hI; exact e1) rfl rfl (c_In_length hI) rfl rfl (by rw [hR]; decide) (by rw [hR]; decide) (Nat.le_of_ble_eq_true rfl) ?_
    rintro v M2 ⟨rfl, rfl⟩
    refine mg_icmp_ge (tgt := 36) d_PS_addToRowsSum_7 (by decide) (fun c_7 => ?_) (fun c_7 => ?_)
    · have hge : xs.length ≤ i := by
        rcases Nat.lt_or_ge i xs.length with q | q
        · exact absurd c_7 (nI_ge q (by have := hI.le; omega))
        · exact q
      rw [List.drop_of_length_le hge] at hr
      refine mg_aload_n d_PS_addToRowsSum_36 rfl rfl ?_
      refine mg_ldc2 d_PS_addToRowsSum_37 kl_PS_256 ?_
      refine mg_aload_n d_PS_addToRowsSum_40 rfl rfl ?_
      refine mg_getfield fl_PS_138 d_PS_addToRowsSum_41 hO rfl ?_
      refine mg_lmul d_PS_addToRowsSum_44 ?_
      refine mg_ldc2 d_PS_addToRowsSum_45 kl_PS_258 ?_
      refine mg_ladd d_PS_addToRowsSum_48 ?_
      refine mg_putfield (fw_PS_138 _) d_PS_addToRowsSum_49 hO (Nat.le_of_ble_eq_true rfl) (fun _ => ⟨rfl, rfl⟩) ?_
      refine mg_return d_PS_addToRowsSum_52 rfl (Nat.le_of_ble_eq_true rfl) (Nat.le_of_ble_eq_true rfl) ⟨rfl, ?_, hs.up (by omega) (by omega)⟩
      rw [mg_up_s, ← hr]; rfl
    · have hi2 : i < xs.length := by
        rcases Nat.lt_or_ge i xs.length with q | q
        · exact q
        · exact absurd (nI_le q (by have := hI.le; omega)) c_7
      rw [drop_cons hi2, List.foldl_cons] at hr
      first | refine mg_aload_n d_PS_addToRowsSum_10 rfl rfl ?_ | refine mg_aload_nN d_PS_addToRowsSum_10 rfl rfl ?_
      refine mg_ldc2 d_PS_addToRowsSum_11 kl_PS_256 ?_
      first | refine mg_aload_n d_PS_addToRowsSum_14 rfl rfl ?_ | refine mg_aload_nN d_PS_addToRowsSum_14 rfl rfl ?_
      refine mg_getfield fl_PS_138 d_PS_addToRowsSum_15 hO rfl ?_
      refine mg_lmul d_PS_addToRowsSum_18 ?_
      first | refine mg_aload_n d_PS_addToRowsSum_19 rfl rfl ?_ | refine mg_aload_nN d_PS_addToRowsSum_19 rfl rfl ?_
      refine mg_iload_n d_PS_addToRowsSum_20 rfl rfl ?_
      refine mg_iconst (v := 0) d_PS_addToRowsSum_21 (by decide) ?_
      refine mg_callV (vl_PS_130 rfl) d_PS_addToRowsSum_22 (by obtain ⟨_, e1, -⟩ := hI; exact e1) rfl rfl (c_In_at hI) rfl rfl (by rw [hR]; decide) (by rw [hR]; decide) (Nat.le_of_ble_eq_true rfl) ?_
      rintro v M2 ⟨rfl, rfl⟩
      refine mg_eqi (atI_in hI.le hi2) ?_
      refine mg_i2l d_PS_addToRowsSum_25 ?_
      refine mg_ladd d_PS_addToRowsSum_26 ?_
      refine mg_putfield (fw_PS_138 _) d_PS_addToRowsSum_27 hO (Nat.le_of_ble_eq_true rfl) (fun _ => ⟨rfl, rfl⟩) ?_
      refine mg_iinc (v := nI (i + 1)) d_PS_addToRowsSum_30 rfl (nI_1 _) (Nat.le_of_ble_eq_true rfl) rfl ?_
      refine mg_goto (tgt := 2) d_PS_addToRowsSum_33 (by decide) ?_
      exact ih (i + 1) _ _ (by omega) (by omega) (mg_up_s _ _ _) (hI.up (by omega) (by omega)) (hs.up (by omega) (by omega)) hr

set_option maxHeartbeats 4000000 in
set_option maxRecDepth 100000 in
theorem c_PS_addToRowsSum {M : mg_M} {ng np nk : Nat} {lk fg fp : Value} {wa fv : Int32} {le : Bool} {sm0 : Int64} {h : Nat} {xs : List Int32} (hO : M 1 = some (psF ng np lk nk wa fg fp fv le sm0)) (hI : isI M h xs) (hh : 2 ≤ h) : mg_Ct Y_PS_addToRowsSum { frames := 1, cells := 0, slots := 0, locals := 22 } [.ref 1, .ref h] M (fun v M' => v = none ∧ M' 1 = some (psF ng np lk nk wa fg fp fv le (addS sm0 xs)) ∧ sm 1 2 M M') := by
  refine mg_met [some (.ref 1), some (.ref h), none] (by decide +kernel) rfl (Nat.le_of_ble_eq_true rfl) ?_
  intro X hR _
  refine mg_iconst (v := 0) d_PS_addToRowsSum_0 (by decide) ?_
  refine mg_istore_n d_PS_addToRowsSum_1 rfl (Nat.le_of_ble_eq_true rfl) rfl ?_
  exact lp_addS (sm0 := 0) (M0 := M) hR hh (xs.length + 1) 0 M sm0 (by omega) (by omega) hO hI sm.rf rfl

abbrev kN : Type := Int32 × Int32 × List Int32
def kpV : Nat → Value
  | 0 => .null
  | n + 1 => .ref (200 + 3 * n)
def isK (M : mg_M) (ks : List kN) : Prop := ∀ (i : Nat) (k : kN), ks[i]? = some k → M (200 + 3 * i) = some (.inr (10, [.int k.1, .int k.2.1, .ref (200 + 3 * i + 1), kpV i])) ∧ isI M (200 + 3 * i + 1) k.2.2
theorem isK.fr {M M' : mg_M} {ks : List kN} {lo hi : Nat} (h : isK M ks) (hs : sm lo hi M M') (hd : hi ≤ 200 ∨ 200 + 3 * ks.length ≤ lo) : isK M' ks := fun i k hk => by
  have hl := (List.getElem?_eq_some_iff.mp hk).1
  obtain ⟨h1, h2⟩ := h i k hk
  exact ⟨by rw [hs _ (by omega)]; exact h1, h2.sm hs (by omega)⟩
/-- the latest of the first n kept rows of this pair that fails: the verdict, and the draws behind the search -/
def findKF (gs : List gN) (p : pN) (i : Nat) (gi pi : Int32) (ks : List kN) : Nat → dM → dS → Option Int32 × dM × dS
  | 0, md, σ => (none, md, σ)
  | n + 1, md, σ => match ks[n]? with
    | none => (none, md, σ)
    | some (a, b, ys) => if a = gi ∧ b = pi then
        (if isBd (vdS p (runR gs ys md.2.2 i σ.2.2.2.1 σ.2.2.2.2)) = true then (some (vdS p (runR gs ys md.2.2 i σ.2.2.2.1 σ.2.2.2.2)), (0, ys, md.2.2), runR gs ys md.2.2 i σ.2.2.2.1 σ.2.2.2.2)
          else findKF gs p i gi pi ks n (0, ys, md.2.2) (runR gs ys md.2.2 i σ.2.2.2.1 σ.2.2.2.2))
      else findKF gs p i gi pi ks n md σ

def fkP (M : mg_M) (i j : Nat) (o : va_E) (o2 : Int32 → va_E) (r : Option Int32 × dM × dS) : Option Value → mg_M → Prop := fun v M' => match r with
  | (none, md, σ) => v = some (.int 0) ∧ isD M' 12 md σ ∧ sm 12 20 M M'
  | (some w, md, σ) => v = some (.int 1) ∧ M' 1 = some (o2 w) ∧ isI M' 4 σ.1 ∧ isI M' 6 σ.2.1 ∧ isD M' 12 md σ ∧ ∀ k, k ≠ 1 → (k < 4 ∨ 8 ≤ k) → (k < 12 ∨ 20 ≤ k) → M' k = M k
set_option maxHeartbeats 4000000 in
set_option maxRecDepth 100000 in
theorem lp_findKept {X : mg_X} {M0 : mg_M} {ng np nk : Nat} {lk fg fp : Value} {wa fv : Int32} {le : Bool} {sm0 : Int64} {gs : List gN} {i j : Nat} {g : gN} {p : pN} {gi pi : Int32} {ks : List kN} {r : Option Int32 × dM × dS} {rw0 nu : List Int32} (hR : mg_R X = { frames := 12, cells := 0, slots := 0, locals := 282 }) (hw : wfG gs) (hg : gs[i]? = some g) : ∀ (n : Nat) (M : mg_M) (md : dM) (σ : dS) (t : Option Value), M 1 = some (psF ng np lk nk wa fg fp fv le sm0) → isG M gs → isD M 12 md σ → M (150 + j) = some (prE p) → isK M ks → isI M 4 rw0 → isI M 6 nu → sm 12 20 M0 M → n ≤ ks.length → findKF gs p i gi pi ks n md σ = r → mg_G X Y_PS_findAmongKept (mg_Q X (fkP M0 i j (psF ng np lk nk wa fg fp fv le sm0) (fun vv => psF ng np lk nk wa (.ref (100 + i)) (.ref (150 + j)) vv false sm0) r) { frames := 12, cells := 0, slots := 0, locals := 282 }) M 0 0 30 [some (.ref 1), some (.int gi), some (.int pi), some (.ref (100 + i)), some (.ref (150 + j)), some (kpV n), t] [] := by
  intro n
  induction n with
  | zero =>
    intro M md σ t hO hG hD hP hK hI hN hs hn hr
    rw [findKF] at hr
    subst hr
    refine mg_aloadN d_PS_findAmongKept_30 rfl ?_
    refine mg_ifnullN (tgt := 96) d_PS_findAmongKept_32 (by decide) ?_
    refine mg_iconst (v := 0) d_PS_findAmongKept_96 (by decide) ?_
    exact mg_ireturn d_PS_findAmongKept_97 rfl rfl (Nat.le_of_ble_eq_true rfl) (Nat.le_of_ble_eq_true rfl) ⟨rfl, hD, hs⟩
  | succ n ih =>
    intro M md σ t hO hG hD hP hK hI hN hs hn hr
    obtain ⟨how, gv, z⟩ := md
    obtain ⟨cs, ns, il, x, lm⟩ := σ
    obtain ⟨⟨ka, kb, ys⟩, hk⟩ : ∃ k, ks[n]? = some k := ⟨_, List.getElem?_eq_getElem (by omega)⟩
    obtain ⟨hK1, hK2⟩ := hK n _ hk
    rw [findKF, hk] at hr
    dsimp only at hr hK1 hK2
    first | refine mg_aload d_PS_findAmongKept_30 rfl ?_ | refine mg_aloadN d_PS_findAmongKept_30 rfl ?_
    refine mg_ifnull d_PS_findAmongKept_32 ?_
    first | refine mg_aload d_PS_findAmongKept_35 rfl ?_ | refine mg_aloadN d_PS_findAmongKept_35 rfl ?_
    refine mg_getfield fl_PS_201 d_PS_findAmongKept_37 hK1 rfl ?_
    refine mg_iload_n d_PS_findAmongKept_40 rfl rfl ?_
    refine mg_icmp_ne (tgt := 86) d_PS_findAmongKept_41 (by decide) (fun c_41 => ?_) (fun c_41 => ?_)
    · rw [if_neg (fun h => c_41 h.1)] at hr
      refine mg_aload d_PS_findAmongKept_86 rfl ?_
      refine mg_getfield fl_PS_217 d_PS_findAmongKept_88 hK1 rfl ?_
      cases n with
      | zero =>
        refine mg_astoreN d_PS_findAmongKept_91 (Nat.le_of_ble_eq_true rfl) rfl ?_
        refine mg_goto (tgt := 30) d_PS_findAmongKept_93 (by decide) ?_
        exact ih _ _ _ _ hO hG hD hP hK hI hN hs (by omega) hr
      | succ n =>
        refine mg_astore d_PS_findAmongKept_91 (Nat.le_of_ble_eq_true rfl) rfl ?_
        refine mg_goto (tgt := 30) d_PS_findAmongKept_93 (by decide) ?_
        exact ih _ _ _ _ hO hG hD hP hK hI hN hs (by omega) hr
    · first | refine mg_aload d_PS_findAmongKept_44 rfl ?_ | refine mg_aloadN d_PS_findAmongKept_44 rfl ?_
      refine mg_getfield fl_PS_204 d_PS_findAmongKept_46 hK1 rfl ?_
      refine mg_iload_n d_PS_findAmongKept_49 rfl rfl ?_
      refine mg_icmp_ne (tgt := 86) d_PS_findAmongKept_50 (by decide) (fun c_50 => ?_) (fun c_50 => ?_)
      · rw [if_neg (fun h => c_50 h.2)] at hr
        refine mg_aload d_PS_findAmongKept_86 rfl ?_
        refine mg_getfield fl_PS_217 d_PS_findAmongKept_88 hK1 rfl ?_
        cases n with
        | zero =>
          refine mg_astoreN d_PS_findAmongKept_91 (Nat.le_of_ble_eq_true rfl) rfl ?_
          refine mg_goto (tgt := 30) d_PS_findAmongKept_93 (by decide) ?_
          exact ih _ _ _ _ hO hG hD hP hK hI hN hs (by omega) hr
        | succ n =>
          refine mg_astore d_PS_findAmongKept_91 (Nat.le_of_ble_eq_true rfl) rfl ?_
          refine mg_goto (tgt := 30) d_PS_findAmongKept_93 (by decide) ?_
          exact ih _ _ _ _ hO hG hD hP hK hI hN hs (by omega) hr
      · rw [if_pos ⟨c_41, c_50⟩] at hr
        first | refine mg_aload_n d_PS_findAmongKept_53 rfl rfl ?_ | refine mg_aload_nN d_PS_findAmongKept_53 rfl rfl ?_
        first | refine mg_aload_n d_PS_findAmongKept_54 rfl rfl ?_ | refine mg_aload_nN d_PS_findAmongKept_54 rfl rfl ?_
        first | refine mg_aload d_PS_findAmongKept_55 rfl ?_ | refine mg_aloadN d_PS_findAmongKept_55 rfl ?_
        first | refine mg_aload d_PS_findAmongKept_57 rfl ?_ | refine mg_aloadN d_PS_findAmongKept_57 rfl ?_
        refine mg_getfield fl_PS_207 d_PS_findAmongKept_59 hK1 rfl ?_
        refine mg_callV (vl_PS_100 rfl) d_PS_findAmongKept_62 hO rfl rfl (c_PS_replayRow hw hg hO hG hD hP (by omega) hK2 (by omega)) rfl rfl (by rw [hR]; decide) (by rw [hR]; decide) (Nat.le_of_ble_eq_true rfl) ?_
        rintro v M2 ⟨rfl, hD2, hs2⟩
        replace hO := (hs2 1 (by omega)).trans hO
        replace hG := hG.fr hs2 (by omega)
        replace hP := (hs2 (150 + j) (by omega)).trans hP
        replace hK := hK.fr hs2 (by omega)
        replace hK1 := (hs2 (200 + 3 * n) (by omega)).trans hK1
        replace hI := hI.sm hs2 (by omega)
        replace hN := hN.sm hs2 (by omega)
        replace hs := hs.tr hs2
        generalize runR gs ys z i x lm = σ2 at hD2 hr ⊢
        refine mg_istore d_PS_findAmongKept_65 (Nat.le_of_ble_eq_true rfl) rfl ?_
        refine mg_iload d_PS_findAmongKept_67 rfl ?_
        refine mg_callS (sl_PS_210 rfl) d_PS_findAmongKept_69 (c_PS_isBad) rfl rfl (by rw [hR]; decide) (by rw [hR]; decide) (Nat.le_of_ble_eq_true rfl) ?_
        rintro v M3 ⟨rfl, rfl⟩
        refine mg_if_eq (tgt := 86) d_PS_findAmongKept_72 (by decide) (fun c_72 => ?_) (fun c_72 => ?_)
        · rw [if_neg (by rw [bI_f c_72]; decide)] at hr
          refine mg_aload d_PS_findAmongKept_86 rfl ?_
          refine mg_getfield fl_PS_217 d_PS_findAmongKept_88 hK1 rfl ?_
          cases n with
          | zero =>
            refine mg_astoreN d_PS_findAmongKept_91 (Nat.le_of_ble_eq_true rfl) rfl ?_
            refine mg_goto (tgt := 30) d_PS_findAmongKept_93 (by decide) ?_
            exact ih _ _ _ _ hO hG hD2 hP hK hI hN hs (by omega) hr
          | succ n =>
            refine mg_astore d_PS_findAmongKept_91 (Nat.le_of_ble_eq_true rfl) rfl ?_
            refine mg_goto (tgt := 30) d_PS_findAmongKept_93 (by decide) ?_
            exact ih _ _ _ _ hO hG hD2 hP hK hI hN hs (by omega) hr
        · rw [if_pos (bI_t c_72)] at hr
          subst hr
          first | refine mg_aload_n d_PS_findAmongKept_75 rfl rfl ?_ | refine mg_aload_nN d_PS_findAmongKept_75 rfl rfl ?_
          first | refine mg_aload_n d_PS_findAmongKept_76 rfl rfl ?_ | refine mg_aload_nN d_PS_findAmongKept_76 rfl rfl ?_
          first | refine mg_aload d_PS_findAmongKept_77 rfl ?_ | refine mg_aloadN d_PS_findAmongKept_77 rfl ?_
          refine mg_iload d_PS_findAmongKept_79 rfl ?_
          refine mg_callV (vl_PS_213 rfl) d_PS_findAmongKept_81 hO rfl rfl (c_PS_takeFound hO hD2 hI hN) rfl rfl (by rw [hR]; decide) (by rw [hR]; decide) (Nat.le_of_ble_eq_true rfl) ?_
          rintro v M4 ⟨rfl, hO4, hI4, hN4, hs4⟩
          refine mg_iconst (v := 1) d_PS_findAmongKept_84 (by decide) ?_
          refine mg_ireturn d_PS_findAmongKept_85 rfl rfl (Nat.le_of_ble_eq_true rfl) (Nat.le_of_ble_eq_true rfl) ⟨rfl, hO4, hI4, hN4, hD2.fr (lo := 0) (hi := 8) (fun k hk => hs4 k (by omega) (by omega)) (by omega), fun k h1 h2 h3 => ?_⟩
          rw [hs4 k h1 h2]; exact hs k h3

set_option maxHeartbeats 4000000 in
set_option maxRecDepth 100000 in
theorem c_PS_findAmongKept {M : mg_M} {ng np nk : Nat} {lk fg fp : Value} {wa fv : Int32} {le : Bool} {sm0 : Int64} {gs : List gN} {i j : Nat} {g : gN} {p : pN} {ks : List kN} {md : dM} {σ : dS} {rw0 nu : List Int32} (hw : wfG gs) (hg : gs[i]? = some g) (hi : i < ng) (hj : j < np) (hng : ng ≤ 20) (hnp : np ≤ 10) (hlk : lk = kpV ks.length) (hO : M 1 = some (psF ng np lk nk wa fg fp fv le sm0)) (hA : M 2 = some (arE 1 20 (gA 100 ng))) (hB : M 3 = some (arE 2 10 (gA 150 np))) (hG : isG M gs) (hD : isD M 12 md σ) (hP : M (150 + j) = some (prE p)) (hK : isK M ks) (hI : isI M 4 rw0) (hN : isI M 6 nu) : mg_Ct Y_PS_findAmongKept { frames := 12, cells := 0, slots := 0, locals := 282 } [.ref 1, .int (nI i), .int (nI j)] M (fkP M i j (psF ng np lk nk wa fg fp fv le sm0) (fun vv => psF ng np lk nk wa (.ref (100 + i)) (.ref (150 + j)) vv false sm0) (findKF gs p i (nI i) (nI j) ks ks.length md σ)) := by
  refine mg_met [some (.ref 1), some (.int (nI i)), some (.int (nI j)), none, none, none, none] (by decide +kernel) rfl (Nat.le_of_ble_eq_true rfl) ?_
  intro X hR _
  refine mg_aload_n d_PS_findAmongKept_0 rfl rfl ?_
  refine mg_iload_n d_PS_findAmongKept_1 rfl rfl ?_
  refine mg_callV (vl_PS_61 rfl) d_PS_findAmongKept_2 hO rfl rfl (c_PS_generatorAt_in hO hA hi hng) rfl rfl (by rw [hR]; decide) (by rw [hR]; decide) (Nat.le_of_ble_eq_true rfl) ?_
  rintro v M2 ⟨rfl, rfl⟩
  refine mg_astore_n d_PS_findAmongKept_5 rfl (Nat.le_of_ble_eq_true rfl) rfl ?_
  refine mg_aload_n d_PS_findAmongKept_6 rfl rfl ?_
  refine mg_iload_n d_PS_findAmongKept_7 rfl rfl ?_
  refine mg_callV (vl_PS_65 rfl) d_PS_findAmongKept_8 hO rfl rfl (c_PS_propertyAt_in hO hB hj hnp) rfl rfl (by rw [hR]; decide) (by rw [hR]; decide) (Nat.le_of_ble_eq_true rfl) ?_
  rintro v M3 ⟨rfl, rfl⟩
  refine mg_astore d_PS_findAmongKept_11 (Nat.le_of_ble_eq_true rfl) rfl ?_
  refine mg_aload_n d_PS_findAmongKept_13 rfl rfl ?_
  refine mg_ifnull d_PS_findAmongKept_14 ?_
  refine mg_aload d_PS_findAmongKept_17 rfl ?_
  refine mg_ifnonnull (tgt := 24) d_PS_findAmongKept_19 (by decide) ?_
  refine mg_aload_n d_PS_findAmongKept_24 rfl rfl ?_
  refine mg_getfield fl_PS_82 d_PS_findAmongKept_25 hO rfl ?_
  have K := lp_findKept (X := X) (M0 := M3) (lk := lk) (gi := nI i) (pi := nI j) (ng := ng) (np := np) (nk := nk) (fg := fg) (fp := fp) (wa := wa) (fv := fv) (le := le) (sm0 := sm0) hR hw hg ks.length M3 md σ none hO hG hD hP hK hI hN sm.rf (Nat.le_refl _) rfl
  rw [hlk] at K ⊢
  generalize ks.length = n at K ⊢
  cases n with
  | zero =>
    refine mg_astoreN d_PS_findAmongKept_28 (Nat.le_of_ble_eq_true rfl) rfl ?_
    exact K
  | succ n =>
    refine mg_astore d_PS_findAmongKept_28 (Nat.le_of_ble_eq_true rfl) rfl ?_
    exact K

