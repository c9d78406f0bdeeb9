/-! THE REFERENCE: all -/
/-- no choice is above its limit -/
def leS (σ : dS) : Prop := ∀ j, j < σ.1.length → σ.1.getD j 0 ≤ σ.2.2.2.2 j
theorem le_draw {md : dM} {σ : dS} {m sp : Int32} (h : leS σ) : leS (drawF md σ m sp).2 := by
  unfold drawF
  by_cases hil : σ.2.2.1 = true
  · rw [if_pos hil]; exact h
  · rw [if_neg hil]
    generalize pickF md.1 md.2.1 (nI σ.1.length) sp σ.2.2.2.1 = a
    by_cases hb : a.1 < 0 ∨ m < a.1 ∨ 60 ≤ σ.1.length
    · rw [if_pos hb]; exact h
    · rw [if_neg hb]
      intro j hj
      replace hj : j < (σ.1 ++ [a.1]).length := hj
      rw [List.length_append] at hj
      replace hj : j < σ.1.length + 1 := hj
      show (σ.1 ++ [a.1]).getD j 0 ≤ upd σ.2.2.2.2 σ.1.length m j
      by_cases e : j = σ.1.length
      · subst e
        rw [pk_us, List.getD_eq_getElem?_getD, List.getElem?_append_right (Nat.le_refl _), Nat.sub_self]
        exact Int32.not_lt.mp (fun e => hb (Or.inr (Or.inl e)))
      · rw [pk_un e, List.getD_eq_getElem?_getD, List.getElem?_append_left (by omega), ← List.getD_eq_getElem?_getD]
        exact h j (by omega)
theorem le_num {σ : dS} {n : Int32} (h : leS σ) : leS (numF σ n) := by
  unfold numF
  split
  · exact h
  · split
    · exact h
    · exact h
theorem le_list {md : dM} {s : dS → dS} (hs : ∀ σ, leS σ → leS (s σ)) : ∀ (n : Nat) (σ : dS), leS σ → leS (listF s md n σ) := by
  intro n
  induction n with
  | zero => intro σ h; exact h
  | succ n ih =>
    intro σ h
    rw [listF]
    split
    · exact ih _ (hs _ (le_draw h))
    · exact le_draw h
theorem le_keep {s : dS → dS} {st : Nat} {b : Int32} (hs : ∀ σ, leS σ → leS (s σ)) : ∀ (n : Nat) (σ : dS), leS σ → leS (keepF s st b n σ) := by
  intro n
  induction n with
  | zero => intro σ h; exact h
  | succ n ih =>
    intro σ h
    have h2 : leS (s (cutF σ st)) := hs _ h
    rw [keepF]
    split
    · exact h
    · split
      · exact h2
      · exact ih _ h2
theorem le_give {gs : List gN} {md : dM} : ∀ (d i : Nat) (σ : dS), leS σ → leS (giveF gs md d i σ) := by
  intro d
  induction d with
  | zero => intro i σ h; exact h
  | succ d ih =>
    intro i σ h
    cases hg : gs[i]? with
    | none => rw [gF_none hg]; exact h
    | some g =>
      obtain ⟨k, a, b, dp⟩ := g
      match k, hg with
      | 0, hg => rw [gF_0 hg]; exact le_num (le_draw h)
      | 1, hg => rw [gF_1 hg]; exact le_list (ih _) _ _ h
      | 2, hg =>
        rw [gF_2 hg]
        split
        · exact ih _ _ h
        · exact ih _ _ (ih _ _ h)
      | 3, hg =>
        rw [gF_3 hg]
        split
        · exact le_draw h
        · split
          · exact ih _ _ (le_draw h)
          · exact ih _ _ (le_draw h)
      | 4, hg => rw [gF_4 hg]; exact le_keep (ih _) _ _ h
      | k + 5, hg => rw [gF_5 hg]; exact ih _ _ h
theorem nn_next {cs : List Int32} {lm : Nat → Int32} (h : nnL cs) : ∀ (n : Nat) (l : List Int32), nextF cs lm n = some l → nnL l
  | 0, l, e => by rw [nextF] at e; cases e
  | n + 1, l, e => by
    rw [nextF] at e
    split at e
    · rename_i hlt
      have e2 := Option.some.inj e
      subst e2
      intro x hx
      rcases List.mem_append.mp hx with hx | hx
      · exact h x (List.mem_of_mem_take hx)
      · rw [List.mem_singleton] at hx
        subst hx
        have h0 := h.at n
        have hs := (lm n).toInt_lt
        rw [Int32.lt_iff_toInt_lt] at h0 hlt ⊢
        rw [Int32.toInt_add, show (1 : Int32).toInt = 1 by decide]
        rw [show (0 : Int32).toInt = 0 by decide] at h0 ⊢
        rw [Int.bmod_eq_of_le (by omega) (by omega)]
        omega
    · exact nn_next h n l e
theorem isRun.sum {M M' : mg_M} {si : Nat → Int32} {x s s' : Int64} {md : dM} {σ : dS} (h : isRun M si x s md σ) (h0 : M' 1000 = some (moE si x s')) (hs : ∀ k, k ≠ 1000 → M' k = M k) : isRun M' si x s' md σ := by
  obtain ⟨a1, a2, a3, a4, a5, a6, a7, a8, a9, a10, a11, a12⟩ := h
  exact ⟨h0, a2, a3, a4, a5, a6, a7, a8, a9.eq (hs _ (by decide)), a10.eq (hs _ (by decide)), (hs _ (by decide)).trans a11, a12.eq (hs _ (by decide))⟩
def addF (s : Int64) (l : List Int32) : Int64 := l.foldl (fun s x => 31 * s + x.toInt64) s

set_option maxHeartbeats 4000000 in
set_option maxRecDepth 100000 in
theorem lp_Mo_sum {X : mg_X} {M : mg_M} {si : Nat → Int32} {x s0 R : Int64} {md : dM} {σ : dS} {Q : State → Prop} {i most c lk : Nat} (h : isRun M si x s0 md σ) (hil : σ.2.2.1 = false) (kk : ∀ (M' : mg_M) (t6 : Int32), M' 1000 = some (moE si x (R)) → (∀ k, k ≠ 1000 → M' k = M k) → mg_G X Y_Mo_all Q M' 0 0 118 [some (.ref 1000), some (.int (nI i)), some (.int (nI most)), some (.int (nI c)), some (.int (nI lk)), some (.int 1), some (.int t6)] []) : ∀ n : Nat, ∀ (t : Nat) (M' : mg_M) (s : Int64), σ.2.1.length - t < n → t ≤ σ.2.1.length → M' 1000 = some (moE si x s) → (∀ k, k ≠ 1000 → M' k = M k) → addF s (σ.2.1.drop t) = R → mg_G X Y_Mo_all Q M' 0 0 75 [some (.ref 1000), some (.int (nI i)), some (.int (nI most)), some (.int (nI c)), some (.int (nI lk)), some (.int 1), some (.int (nI t))] [] := by
  intro n
  induction n with
  | zero =>
    intro t M' s hn ht hO hfr hr
    exact absurd hn (by omega)
  | succ n ih =>
    intro t M' s hn ht hO hfr hr
    obtain ⟨a1, a2, a3, a4, a5, a6, a7, a8, a9, a10, a11, ⟨nf, n1, n2, n3⟩⟩ := id h
    refine mg_iload d_Mo_all_75 rfl ?_
    first | refine mg_aload_n d_Mo_all_77 rfl rfl ?_ | refine mg_aload_nN d_Mo_all_77 rfl rfl ?_
    refine mg_getfield fl_Mo_124 d_Mo_all_78 (by first | assumption | exact mg_up_s _ _ _ | (rw [mg_up_n _ _ (by decide)]; first | assumption | exact mg_up_s _ _ _ | (rw [mg_up_n _ _ (by decide)]; first | assumption | exact mg_up_s _ _ _ | (rw [mg_up_n _ _ (by decide)]; first | assumption | exact mg_up_s _ _ _ | (rw [mg_up_n _ _ (by decide)]; first | assumption | exact mg_up_s _ _ _ | (rw [mg_up_n _ _ (by decide)]; first | assumption | exact mg_up_s _ _ _ | (rw [mg_up_n _ _ (by decide)]; first | assumption | exact mg_up_s _ _ _))))))) rfl ?_
    refine mg_icmp_ge (tgt := 118) d_Mo_all_81 (by decide) (fun c_81 => ?_) (fun c_81 => ?_)
    · have e : t = σ.2.1.length := by
        rw [a4] at c_81
        have := (nI_leI (by omega) (by omega)).mp c_81
        omega
      subst e
      rw [List.drop_of_length_le (Nat.le_refl _)] at hr
      have hr2 : s = R := hr
      subst hr2
      exact kk M' _ hO hfr
    · have hi2 : t < σ.2.1.length := by
        rw [a4] at c_81
        exact Nat.lt_of_not_le (fun q => c_81 (nI_le q (by omega)))
      have hin : vp_in (nI t) 60 := nIw hi2 n2
      have hn1 := (hfr 1011 (by decide)).trans n1
      first | refine mg_aload_n d_Mo_all_84 rfl rfl ?_ | refine mg_aload_nN d_Mo_all_84 rfl rfl ?_
      refine mg_getfield fl_Mo_114 d_Mo_all_85 (by first | assumption | exact mg_up_s _ _ _ | (rw [mg_up_n _ _ (by decide)]; first | assumption | exact mg_up_s _ _ _ | (rw [mg_up_n _ _ (by decide)]; first | assumption | exact mg_up_s _ _ _ | (rw [mg_up_n _ _ (by decide)]; first | assumption | exact mg_up_s _ _ _ | (rw [mg_up_n _ _ (by decide)]; first | assumption | exact mg_up_s _ _ _ | (rw [mg_up_n _ _ (by decide)]; first | assumption | exact mg_up_s _ _ _ | (rw [mg_up_n _ _ (by decide)]; first | assumption | exact mg_up_s _ _ _))))))) rfl ?_
      refine mg_if_ne (tgt := 118) d_Mo_all_88 (by decide) (fun c_88 => ?_) (fun c_88 => ?_)
      · exact absurd (show si 15 = 0 by rw [a7, hil]; rfl) c_88
      · first | refine mg_aload_n d_Mo_all_91 rfl rfl ?_ | refine mg_aload_nN d_Mo_all_91 rfl rfl ?_
        refine mg_ldc2 d_Mo_all_92 kl_Mo_202 ?_
        first | refine mg_aload_n d_Mo_all_95 rfl rfl ?_ | refine mg_aload_nN d_Mo_all_95 rfl rfl ?_
        refine mg_getfield fl_Mo_199 d_Mo_all_96 (by first | assumption | exact mg_up_s _ _ _ | (rw [mg_up_n _ _ (by decide)]; first | assumption | exact mg_up_s _ _ _ | (rw [mg_up_n _ _ (by decide)]; first | assumption | exact mg_up_s _ _ _ | (rw [mg_up_n _ _ (by decide)]; first | assumption | exact mg_up_s _ _ _ | (rw [mg_up_n _ _ (by decide)]; first | assumption | exact mg_up_s _ _ _ | (rw [mg_up_n _ _ (by decide)]; first | assumption | exact mg_up_s _ _ _ | (rw [mg_up_n _ _ (by decide)]; first | assumption | exact mg_up_s _ _ _))))))) rfl ?_
        refine mg_lmul d_Mo_all_99 ?_
        first | refine mg_aload_n d_Mo_all_100 rfl rfl ?_ | refine mg_aload_nN d_Mo_all_100 rfl rfl ?_
        refine mg_getfield fl_Mo_40 d_Mo_all_101 (by first | assumption | exact mg_up_s _ _ _ | (rw [mg_up_n _ _ (by decide)]; first | assumption | exact mg_up_s _ _ _ | (rw [mg_up_n _ _ (by decide)]; first | assumption | exact mg_up_s _ _ _ | (rw [mg_up_n _ _ (by decide)]; first | assumption | exact mg_up_s _ _ _ | (rw [mg_up_n _ _ (by decide)]; first | assumption | exact mg_up_s _ _ _ | (rw [mg_up_n _ _ (by decide)]; first | assumption | exact mg_up_s _ _ _ | (rw [mg_up_n _ _ (by decide)]; first | assumption | exact mg_up_s _ _ _))))))) rfl ?_
        refine mg_iload d_Mo_all_104 rfl ?_
        refine mg_iaload rfl d_Mo_all_106 (by first | assumption | exact mg_up_s _ _ _ | (rw [mg_up_n _ _ (by decide)]; first | assumption | exact mg_up_s _ _ _ | (rw [mg_up_n _ _ (by decide)]; first | assumption | exact mg_up_s _ _ _ | (rw [mg_up_n _ _ (by decide)]; first | assumption | exact mg_up_s _ _ _ | (rw [mg_up_n _ _ (by decide)]; first | assumption | exact mg_up_s _ _ _ | (rw [mg_up_n _ _ (by decide)]; first | assumption | exact mg_up_s _ _ _ | (rw [mg_up_n _ _ (by decide)]; first | assumption | exact mg_up_s _ _ _))))))) hin ?_
        refine mg_eqi (y := σ.2.1.getD t 0) (by rw [nI_clamp (by omega)]; exact n3 t hi2) ?_
        refine mg_i2l d_Mo_all_107 ?_
        refine mg_ladd d_Mo_all_108 ?_
        refine mg_putfield (fw_Mo_199 _) d_Mo_all_109 (by first | assumption | exact mg_up_s _ _ _ | (rw [mg_up_n _ _ (by decide)]; first | assumption | exact mg_up_s _ _ _ | (rw [mg_up_n _ _ (by decide)]; first | assumption | exact mg_up_s _ _ _ | (rw [mg_up_n _ _ (by decide)]; first | assumption | exact mg_up_s _ _ _ | (rw [mg_up_n _ _ (by decide)]; first | assumption | exact mg_up_s _ _ _ | (rw [mg_up_n _ _ (by decide)]; first | assumption | exact mg_up_s _ _ _ | (rw [mg_up_n _ _ (by decide)]; first | assumption | exact mg_up_s _ _ _))))))) (Nat.le_of_ble_eq_true rfl) (fun _ => ⟨rfl, rfl⟩) ?_
        refine mg_eqM (M' := mg_up M' 1000 (moE si x (31 * s + (σ.2.1.getD t 0).toInt64))) rfl ?_
        refine mg_iinc (v := nI (t + 1)) d_Mo_all_112 rfl (nI_1 _) (Nat.le_of_ble_eq_true rfl) rfl ?_
        refine mg_goto (tgt := 75) d_Mo_all_115 (by decide) ?_
        refine ih (t + 1) _ _ (by omega) (by omega) (mg_up_s _ _ _) (fun k hk => (mg_up_n _ _ hk).trans (hfr k hk)) ?_
        rw [drop_cons hi2] at hr
        exact hr

set_option maxHeartbeats 4000000 in
set_option maxRecDepth 100000 in
theorem all_ill {X : mg_X} {M : mg_M} {si : Nat → Int32} {x s : Int64} {md : dM} {σ : dS} {Q : State → Prop} {i most c lk : Nat} {t : Int32} (h : isRun M si x s md σ) (hil : σ.2.2.1 = true) (kk : ∀ (M' : mg_M) (t6 : Int32), M' 1000 = some (moE si x (s)) → (∀ k, k ≠ 1000 → M' k = M k) → mg_G X Y_Mo_all Q M' 0 0 118 [some (.ref 1000), some (.int (nI i)), some (.int (nI most)), some (.int (nI c)), some (.int (nI lk)), some (.int 1), some (.int t6)] []) : mg_G X Y_Mo_all Q M 0 0 75 [some (.ref 1000), some (.int (nI i)), some (.int (nI most)), some (.int (nI c)), some (.int (nI lk)), some (.int 1), some (.int t)] [] := by
  obtain ⟨a1, a2, a3, a4, a5, a6, a7, a8, a9, a10, a11, ⟨nf, n1, n2, n3⟩⟩ := id h
  refine mg_iload d_Mo_all_75 rfl ?_
  first | refine mg_aload_n d_Mo_all_77 rfl rfl ?_ | refine mg_aload_nN d_Mo_all_77 rfl rfl ?_
  refine mg_getfield fl_Mo_124 d_Mo_all_78 (by first | assumption | exact mg_up_s _ _ _ | (rw [mg_up_n _ _ (by decide)]; first | assumption | exact mg_up_s _ _ _ | (rw [mg_up_n _ _ (by decide)]; first | assumption | exact mg_up_s _ _ _ | (rw [mg_up_n _ _ (by decide)]; first | assumption | exact mg_up_s _ _ _ | (rw [mg_up_n _ _ (by decide)]; first | assumption | exact mg_up_s _ _ _ | (rw [mg_up_n _ _ (by decide)]; first | assumption | exact mg_up_s _ _ _ | (rw [mg_up_n _ _ (by decide)]; first | assumption | exact mg_up_s _ _ _))))))) rfl ?_
  refine mg_icmp_ge (tgt := 118) d_Mo_all_81 (by decide) (fun c_81 => ?_) (fun c_81 => ?_)
  · exact kk M _ a1 (fun _ _ => rfl)
  · first | refine mg_aload_n d_Mo_all_84 rfl rfl ?_ | refine mg_aload_nN d_Mo_all_84 rfl rfl ?_
    refine mg_getfield fl_Mo_114 d_Mo_all_85 (by first | assumption | exact mg_up_s _ _ _ | (rw [mg_up_n _ _ (by decide)]; first | assumption | exact mg_up_s _ _ _ | (rw [mg_up_n _ _ (by decide)]; first | assumption | exact mg_up_s _ _ _ | (rw [mg_up_n _ _ (by decide)]; first | assumption | exact mg_up_s _ _ _ | (rw [mg_up_n _ _ (by decide)]; first | assumption | exact mg_up_s _ _ _ | (rw [mg_up_n _ _ (by decide)]; first | assumption | exact mg_up_s _ _ _ | (rw [mg_up_n _ _ (by decide)]; first | assumption | exact mg_up_s _ _ _))))))) rfl ?_
    refine mg_if_ne (tgt := 118) d_Mo_all_88 (by decide) (fun c_88 => ?_) (fun c_88 => ?_)
    · exact kk M _ a1 (fun _ _ => rfl)
    · exact absurd (show si 15 = 0 from (by first | exact c_88 | exact Decidable.not_not.mp c_88)) (by rw [a7, hil]; decide)

def alP (M0 : mg_M) (gs : List gN) (ps : List pN) (ks : List kN) (wa : Nat) (fo : fO) (le : Bool) (row nu pu : List Int32) (r : Nat × Int64) : Option Value → mg_M → Prop := fun v M' => v = some (.int (nI r.1)) ∧ isMo M' gs ps ks wa fo le row nu pu r.2 ∧ sm 1000 1023 M0 M'

set_option maxHeartbeats 4000000 in
set_option maxRecDepth 100000 in
theorem all_mid {X : mg_X} {M : mg_M} {si : Nat → Int32} {x s : Int64} {md : dM} {σ T : dS} {Q : State → Prop} {i most c lk : Nat} (h : isRun M si x s md σ) (hT1 : σ.2.2.1 = T.2.2.1) (hT2 : σ.2.2.1 = false → σ.2.1 = T.2.1) (kk : ∀ (M' : mg_M) (t6 : Int32), M' 1000 = some (moE si x (cntF T c s).2) → (∀ k, k ≠ 1000 → M' k = M k) → mg_G X Y_Mo_all Q M' 0 0 144 [some (.ref 1000), some (.int (nI i)), some (.int (nI most)), some (.int (nI (cntF T c s).1)), some (.int (nI lk)), some (.int 1), some (.int t6)] []) : mg_G X Y_Mo_all Q M 0 0 75 [some (.ref 1000), some (.int (nI i)), some (.int (nI most)), some (.int (nI c)), some (.int (nI lk)), some (.int 1), some (.int (nI 0))] [] := by
  obtain ⟨a1, a2, a3, a4, a5, a6, a7, a8, a9, a10, a11, ⟨nf, n1, n2, n3⟩⟩ := id h
  cases hil : σ.2.2.1 with
  | false =>
    refine lp_Mo_sum (R := addF s σ.2.1) h hil (fun M2 t6 hM2 hfr2 => ?_) (σ.2.1.length + 1) 0 M s (by omega) (by omega) a1 (fun _ _ => rfl) rfl
    first | refine mg_aload_n d_Mo_all_118 rfl rfl ?_ | refine mg_aload_nN d_Mo_all_118 rfl rfl ?_
    refine mg_getfield fl_Mo_114 d_Mo_all_119 (by first | assumption | exact mg_up_s _ _ _ | (rw [mg_up_n _ _ (by decide)]; first | assumption | exact mg_up_s _ _ _ | (rw [mg_up_n _ _ (by decide)]; first | assumption | exact mg_up_s _ _ _ | (rw [mg_up_n _ _ (by decide)]; first | assumption | exact mg_up_s _ _ _ | (rw [mg_up_n _ _ (by decide)]; first | assumption | exact mg_up_s _ _ _ | (rw [mg_up_n _ _ (by decide)]; first | assumption | exact mg_up_s _ _ _ | (rw [mg_up_n _ _ (by decide)]; first | assumption | exact mg_up_s _ _ _))))))) rfl ?_
    refine mg_if_ne (tgt := 144) d_Mo_all_122 (by decide) (fun c_122 => ?_) (fun c_122 => ?_)
    · exact absurd (show si 15 = 0 by rw [a7, hil]; rfl) c_122
    · first | refine mg_aload_n d_Mo_all_125 rfl rfl ?_ | refine mg_aload_nN d_Mo_all_125 rfl rfl ?_
      refine mg_ldc2 d_Mo_all_126 kl_Mo_202 ?_
      first | refine mg_aload_n d_Mo_all_129 rfl rfl ?_ | refine mg_aload_nN d_Mo_all_129 rfl rfl ?_
      refine mg_getfield fl_Mo_199 d_Mo_all_130 (by first | assumption | exact mg_up_s _ _ _ | (rw [mg_up_n _ _ (by decide)]; first | assumption | exact mg_up_s _ _ _ | (rw [mg_up_n _ _ (by decide)]; first | assumption | exact mg_up_s _ _ _ | (rw [mg_up_n _ _ (by decide)]; first | assumption | exact mg_up_s _ _ _ | (rw [mg_up_n _ _ (by decide)]; first | assumption | exact mg_up_s _ _ _ | (rw [mg_up_n _ _ (by decide)]; first | assumption | exact mg_up_s _ _ _ | (rw [mg_up_n _ _ (by decide)]; first | assumption | exact mg_up_s _ _ _))))))) rfl ?_
      refine mg_lmul d_Mo_all_133 ?_
      refine mg_ldc2 d_Mo_all_134 kl_Mo_204 ?_
      refine mg_ladd d_Mo_all_137 ?_
      refine mg_putfield (fw_Mo_199 _) d_Mo_all_138 (by first | assumption | exact mg_up_s _ _ _ | (rw [mg_up_n _ _ (by decide)]; first | assumption | exact mg_up_s _ _ _ | (rw [mg_up_n _ _ (by decide)]; first | assumption | exact mg_up_s _ _ _ | (rw [mg_up_n _ _ (by decide)]; first | assumption | exact mg_up_s _ _ _ | (rw [mg_up_n _ _ (by decide)]; first | assumption | exact mg_up_s _ _ _ | (rw [mg_up_n _ _ (by decide)]; first | assumption | exact mg_up_s _ _ _ | (rw [mg_up_n _ _ (by decide)]; first | assumption | exact mg_up_s _ _ _))))))) (Nat.le_of_ble_eq_true rfl) (fun _ => ⟨rfl, rfl⟩) ?_
      refine mg_eqM (M' := mg_up M2 1000 (moE si x (31 * addF s σ.2.1 + 7))) rfl ?_
      refine mg_iinc (v := nI (c + 1)) d_Mo_all_141 rfl (nI_1 _) (Nat.le_of_ble_eq_true rfl) rfl ?_
      have e2 : cntF T c s = (c + 1, 31 * addF s σ.2.1 + 7) := by
        unfold cntF
        rw [if_neg (by rw [← hT1, hil]; decide), ← hT2 hil]; rfl
      rw [e2] at kk
      exact kk _ _ (mg_up_s _ _ _) (fun k hk => (mg_up_n _ _ hk).trans (hfr2 k hk))
  | true =>
    refine all_ill h hil (fun M2 t6 hM2 hfr2 => ?_)
    first | refine mg_aload_n d_Mo_all_118 rfl rfl ?_ | refine mg_aload_nN d_Mo_all_118 rfl rfl ?_
    refine mg_getfield fl_Mo_114 d_Mo_all_119 (by first | assumption | exact mg_up_s _ _ _ | (rw [mg_up_n _ _ (by decide)]; first | assumption | exact mg_up_s _ _ _ | (rw [mg_up_n _ _ (by decide)]; first | assumption | exact mg_up_s _ _ _ | (rw [mg_up_n _ _ (by decide)]; first | assumption | exact mg_up_s _ _ _ | (rw [mg_up_n _ _ (by decide)]; first | assumption | exact mg_up_s _ _ _ | (rw [mg_up_n _ _ (by decide)]; first | assumption | exact mg_up_s _ _ _ | (rw [mg_up_n _ _ (by decide)]; first | assumption | exact mg_up_s _ _ _))))))) rfl ?_
    refine mg_if_ne (tgt := 144) d_Mo_all_122 (by decide) (fun c_122 => ?_) (fun c_122 => ?_)
    · have e2 : cntF T c s = (c, s) := by
        unfold cntF
        rw [if_pos (by rw [← hT1, hil])]
      rw [e2] at kk
      exact kk _ _ hM2 hfr2
    · exact absurd (show si 15 = 0 from (by first | exact c_122 | exact Decidable.not_not.mp c_122)) (by rw [a7, hil]; decide)

set_option maxHeartbeats 4000000 in
set_option maxRecDepth 100000 in
theorem lp_Mo_all {X : mg_X} {M0 : mg_M} {gs : List gN} {ps : List pN} {ks : List kN} {wa : Nat} {fo : fO} {le : Bool} {row nu pu : List Int32}  {i most : Nat} {g : gN} {r : Nat × Int64} (hR : mg_R X = { frames := 4, cells := 0, slots := 0, locals := 93 }) (hw : wfG gs) (hg : gs[i]? = some g) (hmo : most ≤ 200) : ∀ (n c lk : Nat) (M : mg_M) (si : Nat → Int32) (x sm0 : Int64) (gv : List Int32) (T6 : Option Value), lk + n = 2000 → c ≤ lk → M 1000 = some (moE si x sm0) → isMoS M si gs ps ks wa fo le row nu pu → isWk M → isA M 1008 60 gv → si 20 = nI gv.length → nnL gv → sm 1000 1023 M0 M → (T6 = none ∨ ∃ z : Int32, T6 = some (.int z)) → allF gs i most n c gv sm0 = r → mg_G X Y_Mo_all (mg_Q X (alP M0 gs ps ks wa fo le row nu pu r) { frames := 4, cells := 0, slots := 0, locals := 93 }) M 0 0 45 [some (.ref 1000), some (.int (nI i)), some (.int (nI most)), some (.int (nI c)), some (.int (nI lk)), some (.int 1), T6] [] := by
  intro n
  induction n with
  | zero =>
    intro c lk M si x sm0 gv T6 hl hc hO hS hWk hI h20 hnn hs0 h6 hr
    rcases h6 with rfl | ⟨z6, rfl⟩
    · refine mg_iload d_Mo_all_45 rfl ?_
      refine mg_if_eq (tgt := 153) d_Mo_all_47 (by decide) (fun c_47 => ?_) (fun c_47 => ?_)
      · exact absurd (by first | exact c_47 | exact Decidable.not_not.mp c_47) (by decide)
      · refine mg_iload_n d_Mo_all_50 rfl rfl ?_
        refine mg_iload_n d_Mo_all_51 rfl rfl ?_
        refine mg_icmp_ge (tgt := 153) d_Mo_all_52 (by decide) (fun c_52 => ?_) (fun c_52 => ?_)
        · rw [allF] at hr
          refine mg_iload_n d_Mo_all_153 rfl rfl ?_
          exact mg_ireturn d_Mo_all_154 rfl rfl (Nat.le_of_ble_eq_true rfl) (Nat.le_of_ble_eq_true rfl) ⟨by rw [← hr], by rw [← hr]; exact ⟨si, x, hO, hS, hWk, gv, hI, h20⟩, hs0⟩
        · refine mg_iload d_Mo_all_55 rfl ?_
          refine mg_sipush (v := 2000) d_Mo_all_57 (by decide) ?_
          refine mg_icmp_ge (tgt := 153) d_Mo_all_60 (by decide) (fun c_60 => ?_) (fun c_60 => ?_)
          · rw [allF] at hr
            refine mg_iload_n d_Mo_all_153 rfl rfl ?_
            exact mg_ireturn d_Mo_all_154 rfl rfl (Nat.le_of_ble_eq_true rfl) (Nat.le_of_ble_eq_true rfl) ⟨by rw [← hr], by rw [← hr]; exact ⟨si, x, hO, hS, hWk, gv, hI, h20⟩, hs0⟩
          · exact absurd (nI_le (a := 2000) (by omega) (by omega)) c_60
    · refine mg_iload d_Mo_all_45 rfl ?_
      refine mg_if_eq (tgt := 153) d_Mo_all_47 (by decide) (fun c_47 => ?_) (fun c_47 => ?_)
      · exact absurd (by first | exact c_47 | exact Decidable.not_not.mp c_47) (by decide)
      · refine mg_iload_n d_Mo_all_50 rfl rfl ?_
        refine mg_iload_n d_Mo_all_51 rfl rfl ?_
        refine mg_icmp_ge (tgt := 153) d_Mo_all_52 (by decide) (fun c_52 => ?_) (fun c_52 => ?_)
        · rw [allF] at hr
          refine mg_iload_n d_Mo_all_153 rfl rfl ?_
          exact mg_ireturn d_Mo_all_154 rfl rfl (Nat.le_of_ble_eq_true rfl) (Nat.le_of_ble_eq_true rfl) ⟨by rw [← hr], by rw [← hr]; exact ⟨si, x, hO, hS, hWk, gv, hI, h20⟩, hs0⟩
        · refine mg_iload d_Mo_all_55 rfl ?_
          refine mg_sipush (v := 2000) d_Mo_all_57 (by decide) ?_
          refine mg_icmp_ge (tgt := 153) d_Mo_all_60 (by decide) (fun c_60 => ?_) (fun c_60 => ?_)
          · rw [allF] at hr
            refine mg_iload_n d_Mo_all_153 rfl rfl ?_
            exact mg_ireturn d_Mo_all_154 rfl rfl (Nat.le_of_ble_eq_true rfl) (Nat.le_of_ble_eq_true rfl) ⟨by rw [← hr], by rw [← hr]; exact ⟨si, x, hO, hS, hWk, gv, hI, h20⟩, hs0⟩
          · exact absurd (nI_le (a := 2000) (by omega) (by omega)) c_60
  | succ n ih =>
    intro c lk M si x sm0 gv T6 hl hc hO hS hWk hI h20 hnn hs0 h6 hr
    rcases h6 with rfl | ⟨z6, rfl⟩
    · refine mg_iload d_Mo_all_45 rfl ?_
      refine mg_if_eq (tgt := 153) d_Mo_all_47 (by decide) (fun c_47 => ?_) (fun c_47 => ?_)
      · exact absurd (by first | exact c_47 | exact Decidable.not_not.mp c_47) (by decide)
      · refine mg_iload_n d_Mo_all_50 rfl rfl ?_
        refine mg_iload_n d_Mo_all_51 rfl rfl ?_
        refine mg_icmp_ge (tgt := 153) d_Mo_all_52 (by decide) (fun c_52 => ?_) (fun c_52 => ?_)
        · have hmc : most ≤ c := (nI_leI (by omega) (by omega)).mp c_52
          rw [allF, if_pos hmc] at hr
          refine mg_iload_n d_Mo_all_153 rfl rfl ?_
          exact mg_ireturn d_Mo_all_154 rfl rfl (Nat.le_of_ble_eq_true rfl) (Nat.le_of_ble_eq_true rfl) ⟨by rw [← hr], by rw [← hr]; exact ⟨si, x, hO, hS, hWk, gv, hI, h20⟩, hs0⟩
        · refine mg_iload d_Mo_all_55 rfl ?_
          refine mg_sipush (v := 2000) d_Mo_all_57 (by decide) ?_
          refine mg_icmp_ge (tgt := 153) d_Mo_all_60 (by decide) (fun c_60 => ?_) (fun c_60 => ?_)
          · exact absurd ((nI_leI (a := 2000) (by decide) (by omega)).mp c_60) (by omega)
          · have hmc : ¬ most ≤ c := fun e => c_52 (nI_le e (by omega))
            rw [allF, if_neg hmc] at hr
            first | refine mg_aload_n d_Mo_all_63 rfl rfl ?_ | refine mg_aload_nN d_Mo_all_63 rfl rfl ?_
            refine mg_iload_n d_Mo_all_64 rfl rfl ?_
            refine mg_iconst (v := 2) d_Mo_all_65 (by decide) ?_
            refine mg_callV (vl_Mo_161 rfl) d_Mo_all_66 (by first | assumption | exact mg_up_s _ _ _ | (rw [mg_up_n _ _ (by decide)]; first | assumption | exact mg_up_s _ _ _ | (rw [mg_up_n _ _ (by decide)]; first | assumption | exact mg_up_s _ _ _ | (rw [mg_up_n _ _ (by decide)]; first | assumption | exact mg_up_s _ _ _ | (rw [mg_up_n _ _ (by decide)]; first | assumption | exact mg_up_s _ _ _ | (rw [mg_up_n _ _ (by decide)]; first | assumption | exact mg_up_s _ _ _ | (rw [mg_up_n _ _ (by decide)]; first | assumption | exact mg_up_s _ _ _))))))) rfl rfl (c_Mo_go (gs := gs) (i := i) (g := g) (how := 2) hO hI h20 hWk hS.1.2.2.1 hw hg (okM2 hnn)) rfl rfl (by rw [hR]; decide) (by rw [hR]; decide) (Nat.le_of_ble_eq_true rfl) ?_
            rintro v M2 ⟨rfl, si2, τ, lm, g1, g2, g3, g4, g5⟩
            have hle0 : leS (giveF gs (2, gv, si 13) 8 i ([], [], false, x, lm)) := le_give 8 i _ (fun j hj => absurd hj (Nat.not_lt_zero _))
            have hnn0 : nnL (giveF gs (2, gv, si 13) 8 i ([], [], false, x, lm)).1 := nn_give 8 i _ nnL_nil
            obtain ⟨y1, y2, y3⟩ := turn_eq gs i gv (si 13) x lm
            generalize giveF gs (2, gv, si 13) 8 i ([], [], false, x, lm) = T at g3 hle0 hnn0 y1 y2 y3
            obtain ⟨z1, z2, z3⟩ := g3
            have hle : leS τ := fun j hj => by rw [z1, z2]; rw [z1] at hj; exact hle0 j hj
            have hT1 : τ.2.2.1 = (turnC gs i gv).2.2.1 := by rw [z2]; exact y2
            have hT2 : τ.2.2.1 = false → τ.2.1 = (turnC gs i gv).2.1 := fun e => by rw [z2] at e; rw [z3 e]; exact y1
            have hnx : nextF τ.1 τ.2.2.2.2 τ.1.length = nextF (turnC gs i gv).1 (turnC gs i gv).2.2.2.2 (turnC gs i gv).1.length := by rw [z1, z2]; exact y3
            have hnnT : nnL τ.1 := by rw [z1]; exact hnn0
            rw [← hnx] at hr
            have hO2 := g1.1
            refine mg_iinc (v := nI (lk + 1)) d_Mo_all_69 rfl (nI_1 _) (Nat.le_of_ble_eq_true rfl) rfl ?_
            refine mg_iconst (v := 0) d_Mo_all_72 (by decide) ?_
            refine mg_istore d_Mo_all_73 (Nat.le_of_ble_eq_true rfl) rfl ?_
            refine mg_eql (lv' := [some (.ref 1000), some (.int (nI i)), some (.int (nI most)), some (.int (nI c)), some (.int (nI (lk + 1))), some (.int 1), some (.int (nI 0))]) rfl ?_
            refine all_mid (T := turnC gs i gv) g1 hT1 hT2 (fun M3 t6 hM3 hfr3 => ?_)
            have h3 : isRun M3 si2 τ.2.2.2.1 (cntF (turnC gs i gv) c sm0).2 (2, gv, si 13) τ := g1.sum hM3 hfr3
            have hc2 : (cntF (turnC gs i gv) c sm0).1 ≤ c + 1 := by unfold cntF; split <;> omega
            generalize cntF (turnC gs i gv) c sm0 = cs2 at hr hM3 h3 hc2 ⊢
            have hS3 : isMoS M3 si2 gs ps ks wa fo le row nu pu := hS.fr (fun k hk => g4 k (by omega) (by omega) (by omega) (by omega) (by omega)) (fun k hk => (hfr3 k (by omega)).trans (g5 k (by omega) (by omega)))
            have hs3 : sm 1000 1023 M0 M3 := fun k hk => (hfr3 k (by omega)).trans ((g5 k (by omega) (by omega)).trans (hs0 k hk))
            have hWk3 : isWk M3 := g2.eq (fun k _ _ => hfr3 k (by omega))
            first | refine mg_aload_n d_Mo_all_144 rfl rfl ?_ | refine mg_aload_nN d_Mo_all_144 rfl rfl ?_
            refine mg_callV (vl_Mo_206 rfl) d_Mo_all_145 (by first | assumption | exact mg_up_s _ _ _ | (rw [mg_up_n _ _ (by decide)]; first | assumption | exact mg_up_s _ _ _ | (rw [mg_up_n _ _ (by decide)]; first | assumption | exact mg_up_s _ _ _ | (rw [mg_up_n _ _ (by decide)]; first | assumption | exact mg_up_s _ _ _ | (rw [mg_up_n _ _ (by decide)]; first | assumption | exact mg_up_s _ _ _ | (rw [mg_up_n _ _ (by decide)]; first | assumption | exact mg_up_s _ _ _ | (rw [mg_up_n _ _ (by decide)]; first | assumption | exact mg_up_s _ _ _))))))) rfl rfl (c_Mo_raise h3 hle) rfl rfl (by rw [hR]; decide) (by rw [hR]; decide) (Nat.le_of_ble_eq_true rfl) ?_
            rintro v M4 hv
            cases hnx2 : nextF τ.1 τ.2.2.2.2 τ.1.length with
            | none =>
              rw [hnx2] at hv hr
              obtain ⟨rfl, rfl⟩ := hv
              refine mg_istore d_Mo_all_148 (Nat.le_of_ble_eq_true rfl) rfl ?_
              refine mg_goto (tgt := 45) d_Mo_all_150 (by decide) ?_
              refine mg_iload d_Mo_all_45 rfl ?_
              refine mg_if_eq (tgt := 153) d_Mo_all_47 (by decide) (fun _ => ?_) (fun e => absurd rfl e)
              refine mg_iload_n d_Mo_all_153 rfl rfl ?_
              exact mg_ireturn d_Mo_all_154 rfl rfl (Nat.le_of_ble_eq_true rfl) (Nat.le_of_ble_eq_true rfl) ⟨by rw [← hr], by rw [← hr]; exact ⟨si2, _, hM3, hS3, hWk3, gv, h3.2.2.2.2.2.2.2.2.1, h3.2.2.2.2.2.2.2.1⟩, hs3⟩
            | some l =>
              rw [hnx2] at hv hr
              obtain ⟨rfl, w1, w2, w3⟩ := hv
              refine mg_istore d_Mo_all_148 (Nat.le_of_ble_eq_true rfl) rfl ?_
              refine mg_goto (tgt := 45) d_Mo_all_150 (by decide) ?_
              exact ih cs2.1 (lk + 1) M4 _ _ cs2.2 l _ (by omega) (by omega) w1 (hS3.fr (fun k hk => pk_un (by omega)) (fun k hk => w3 k (by omega) (by omega))) (hWk3.eq (fun k _ _ => w3 k (by omega) (by omega))) w2 pk_us (nn_next hnnT _ _ hnx2) (fun k hk => (w3 k (by omega) (by omega)).trans (hs3 k hk)) (Or.inr ⟨_, rfl⟩) hr
    · refine mg_iload d_Mo_all_45 rfl ?_
      refine mg_if_eq (tgt := 153) d_Mo_all_47 (by decide) (fun c_47 => ?_) (fun c_47 => ?_)
      · exact absurd (by first | exact c_47 | exact Decidable.not_not.mp c_47) (by decide)
      · refine mg_iload_n d_Mo_all_50 rfl rfl ?_
        refine mg_iload_n d_Mo_all_51 rfl rfl ?_
        refine mg_icmp_ge (tgt := 153) d_Mo_all_52 (by decide) (fun c_52 => ?_) (fun c_52 => ?_)
        · have hmc : most ≤ c := (nI_leI (by omega) (by omega)).mp c_52
          rw [allF, if_pos hmc] at hr
          refine mg_iload_n d_Mo_all_153 rfl rfl ?_
          exact mg_ireturn d_Mo_all_154 rfl rfl (Nat.le_of_ble_eq_true rfl) (Nat.le_of_ble_eq_true rfl) ⟨by rw [← hr], by rw [← hr]; exact ⟨si, x, hO, hS, hWk, gv, hI, h20⟩, hs0⟩
        · refine mg_iload d_Mo_all_55 rfl ?_
          refine mg_sipush (v := 2000) d_Mo_all_57 (by decide) ?_
          refine mg_icmp_ge (tgt := 153) d_Mo_all_60 (by decide) (fun c_60 => ?_) (fun c_60 => ?_)
          · exact absurd ((nI_leI (a := 2000) (by decide) (by omega)).mp c_60) (by omega)
          · have hmc : ¬ most ≤ c := fun e => c_52 (nI_le e (by omega))
            rw [allF, if_neg hmc] at hr
            first | refine mg_aload_n d_Mo_all_63 rfl rfl ?_ | refine mg_aload_nN d_Mo_all_63 rfl rfl ?_
            refine mg_iload_n d_Mo_all_64 rfl rfl ?_
            refine mg_iconst (v := 2) d_Mo_all_65 (by decide) ?_
            refine mg_callV (vl_Mo_161 rfl) d_Mo_all_66 (by first | assumption | exact mg_up_s _ _ _ | (rw [mg_up_n _ _ (by decide)]; first | assumption | exact mg_up_s _ _ _ | (rw [mg_up_n _ _ (by decide)]; first | assumption | exact mg_up_s _ _ _ | (rw [mg_up_n _ _ (by decide)]; first | assumption | exact mg_up_s _ _ _ | (rw [mg_up_n _ _ (by decide)]; first | assumption | exact mg_up_s _ _ _ | (rw [mg_up_n _ _ (by decide)]; first | assumption | exact mg_up_s _ _ _ | (rw [mg_up_n _ _ (by decide)]; first | assumption | exact mg_up_s _ _ _))))))) rfl rfl (c_Mo_go (gs := gs) (i := i) (g := g) (how := 2) hO hI h20 hWk hS.1.2.2.1 hw hg (okM2 hnn)) rfl rfl (by rw [hR]; decide) (by rw [hR]; decide) (Nat.le_of_ble_eq_true rfl) ?_
            rintro v M2 ⟨rfl, si2, τ, lm, g1, g2, g3, g4, g5⟩
            have hle0 : leS (giveF gs (2, gv, si 13) 8 i ([], [], false, x, lm)) := le_give 8 i _ (fun j hj => absurd hj (Nat.not_lt_zero _))
            have hnn0 : nnL (giveF gs (2, gv, si 13) 8 i ([], [], false, x, lm)).1 := nn_give 8 i _ nnL_nil
            obtain ⟨y1, y2, y3⟩ := turn_eq gs i gv (si 13) x lm
            generalize giveF gs (2, gv, si 13) 8 i ([], [], false, x, lm) = T at g3 hle0 hnn0 y1 y2 y3
            obtain ⟨z1, z2, z3⟩ := g3
            have hle : leS τ := fun j hj => by rw [z1, z2]; rw [z1] at hj; exact hle0 j hj
            have hT1 : τ.2.2.1 = (turnC gs i gv).2.2.1 := by rw [z2]; exact y2
            have hT2 : τ.2.2.1 = false → τ.2.1 = (turnC gs i gv).2.1 := fun e => by rw [z2] at e; rw [z3 e]; exact y1
            have hnx : nextF τ.1 τ.2.2.2.2 τ.1.length = nextF (turnC gs i gv).1 (turnC gs i gv).2.2.2.2 (turnC gs i gv).1.length := by rw [z1, z2]; exact y3
            have hnnT : nnL τ.1 := by rw [z1]; exact hnn0
            rw [← hnx] at hr
            have hO2 := g1.1
            refine mg_iinc (v := nI (lk + 1)) d_Mo_all_69 rfl (nI_1 _) (Nat.le_of_ble_eq_true rfl) rfl ?_
            refine mg_iconst (v := 0) d_Mo_all_72 (by decide) ?_
            refine mg_istore d_Mo_all_73 (Nat.le_of_ble_eq_true rfl) rfl ?_
            refine mg_eql (lv' := [some (.ref 1000), some (.int (nI i)), some (.int (nI most)), some (.int (nI c)), some (.int (nI (lk + 1))), some (.int 1), some (.int (nI 0))]) rfl ?_
            refine all_mid (T := turnC gs i gv) g1 hT1 hT2 (fun M3 t6 hM3 hfr3 => ?_)
            have h3 : isRun M3 si2 τ.2.2.2.1 (cntF (turnC gs i gv) c sm0).2 (2, gv, si 13) τ := g1.sum hM3 hfr3
            have hc2 : (cntF (turnC gs i gv) c sm0).1 ≤ c + 1 := by unfold cntF; split <;> omega
            generalize cntF (turnC gs i gv) c sm0 = cs2 at hr hM3 h3 hc2 ⊢
            have hS3 : isMoS M3 si2 gs ps ks wa fo le row nu pu := hS.fr (fun k hk => g4 k (by omega) (by omega) (by omega) (by omega) (by omega)) (fun k hk => (hfr3 k (by omega)).trans (g5 k (by omega) (by omega)))
            have hs3 : sm 1000 1023 M0 M3 := fun k hk => (hfr3 k (by omega)).trans ((g5 k (by omega) (by omega)).trans (hs0 k hk))
            have hWk3 : isWk M3 := g2.eq (fun k _ _ => hfr3 k (by omega))
            first | refine mg_aload_n d_Mo_all_144 rfl rfl ?_ | refine mg_aload_nN d_Mo_all_144 rfl rfl ?_
            refine mg_callV (vl_Mo_206 rfl) d_Mo_all_145 (by first | assumption | exact mg_up_s _ _ _ | (rw [mg_up_n _ _ (by decide)]; first | assumption | exact mg_up_s _ _ _ | (rw [mg_up_n _ _ (by decide)]; first | assumption | exact mg_up_s _ _ _ | (rw [mg_up_n _ _ (by decide)]; first | assumption | exact mg_up_s _ _ _ | (rw [mg_up_n _ _ (by decide)]; first | assumption | exact mg_up_s _ _ _ | (rw [mg_up_n _ _ (by decide)]; first | assumption | exact mg_up_s _ _ _ | (rw [mg_up_n _ _ (by decide)]; first | assumption | exact mg_up_s _ _ _))))))) rfl rfl (c_Mo_raise h3 hle) rfl rfl (by rw [hR]; decide) (by rw [hR]; decide) (Nat.le_of_ble_eq_true rfl) ?_
            rintro v M4 hv
            cases hnx2 : nextF τ.1 τ.2.2.2.2 τ.1.length with
            | none =>
              rw [hnx2] at hv hr
              obtain ⟨rfl, rfl⟩ := hv
              refine mg_istore d_Mo_all_148 (Nat.le_of_ble_eq_true rfl) rfl ?_
              refine mg_goto (tgt := 45) d_Mo_all_150 (by decide) ?_
              refine mg_iload d_Mo_all_45 rfl ?_
              refine mg_if_eq (tgt := 153) d_Mo_all_47 (by decide) (fun _ => ?_) (fun e => absurd rfl e)
              refine mg_iload_n d_Mo_all_153 rfl rfl ?_
              exact mg_ireturn d_Mo_all_154 rfl rfl (Nat.le_of_ble_eq_true rfl) (Nat.le_of_ble_eq_true rfl) ⟨by rw [← hr], by rw [← hr]; exact ⟨si2, _, hM3, hS3, hWk3, gv, h3.2.2.2.2.2.2.2.2.1, h3.2.2.2.2.2.2.2.1⟩, hs3⟩
            | some l =>
              rw [hnx2] at hv hr
              obtain ⟨rfl, w1, w2, w3⟩ := hv
              refine mg_istore d_Mo_all_148 (Nat.le_of_ble_eq_true rfl) rfl ?_
              refine mg_goto (tgt := 45) d_Mo_all_150 (by decide) ?_
              exact ih cs2.1 (lk + 1) M4 _ _ cs2.2 l _ (by omega) (by omega) w1 (hS3.fr (fun k hk => pk_un (by omega)) (fun k hk => w3 k (by omega) (by omega))) (hWk3.eq (fun k _ _ => w3 k (by omega) (by omega))) w2 pk_us (nn_next hnnT _ _ hnx2) (fun k hk => (w3 k (by omega) (by omega)).trans (hs3 k hk)) (Or.inr ⟨_, rfl⟩) hr

set_option maxHeartbeats 4000000 in
set_option maxRecDepth 100000 in
theorem c_Mo_all_no {M : mg_M} {gs : List gN} {ps : List pN} {ks : List kN} {wa : Nat} {fo : fO} {le : Bool} {row nu pu : List Int32} {s : Int64} {gi mo : Int32} (h : isMo M gs ps ks wa fo le row nu pu s) (hb : offR gi gs.length ∨ mo < 1 ∨ 200 < mo) : mg_Ct Y_Mo_all { frames := 4, cells := 0, slots := 0, locals := 93 } [.ref 1000, .int gi, .int mo] M (fun v M' => v = some (.int (-1)) ∧ isMo M' gs ps ks wa fo le row nu pu s ∧ sm 1000 1023 M M') := by
  obtain ⟨si, x, hO, hS, hWk, hI⟩ := id h
  obtain ⟨⟨a1, a2, a3, a4⟩, ⟨b1, ⟨ff, b2, b3, b4⟩⟩, ⟨c1, c2, c3⟩, d1, ⟨e1, ⟨tf, e2, e3, e4⟩⟩, f1, ⟨pf, f2, f3, f4⟩⟩ := id hS
  have hz := isMo.c0 (x := x) (s := s) hS hWk hI
  refine mg_met [some (.ref 1000), some (.int gi), some (.int mo), none, none, none, none] (by decide +kernel) rfl (Nat.le_of_ble_eq_true rfl) ?_
  intro X hR _
  first | refine mg_aload_n d_Mo_all_0 rfl rfl ?_ | refine mg_aload_nN d_Mo_all_0 rfl rfl ?_
  refine mg_iconst (v := 0) d_Mo_all_1 (by decide) ?_
  refine mg_putfield (fw_Mo_80 _) d_Mo_all_2 (by first | assumption | exact mg_up_s _ _ _ | (rw [mg_up_n _ _ (by decide)]; first | assumption | exact mg_up_s _ _ _ | (rw [mg_up_n _ _ (by decide)]; first | assumption | exact mg_up_s _ _ _ | (rw [mg_up_n _ _ (by decide)]; first | assumption | exact mg_up_s _ _ _ | (rw [mg_up_n _ _ (by decide)]; first | assumption | exact mg_up_s _ _ _ | (rw [mg_up_n _ _ (by decide)]; first | assumption | exact mg_up_s _ _ _ | (rw [mg_up_n _ _ (by decide)]; first | assumption | exact mg_up_s _ _ _))))))) (Nat.le_of_ble_eq_true rfl) (fun _ => ⟨rfl, rfl⟩) ?_
  refine mg_eqM (M' := c0M M si x s) rfl ?_
  have hO1 : (c0M M si x s) 1000 = some (moE (upd si 0 0) x s) := mg_up_s _ _ _
  have hT1 : (c0M M si x s) 1021 = some (iaE 60 tf) := (mg_up_n _ _ (by decide)).trans e2
  have hF1 : (c0M M si x s) 1016 = some (iaE 60 ff) := (mg_up_n _ _ (by decide)).trans b2
  have hP1 : (c0M M si x s) 1022 = some (iaE 60 pf) := (mg_up_n _ _ (by decide)).trans f2
  first | refine mg_aload_n d_Mo_all_5 rfl rfl ?_ | refine mg_aload_nN d_Mo_all_5 rfl rfl ?_
  refine mg_iload_n d_Mo_all_6 rfl rfl ?_
  refine mg_callV (vl_Mo_90 rfl) d_Mo_all_7 (by first | assumption | exact mg_up_s _ _ _ | (rw [mg_up_n _ _ (by decide)]; first | assumption | exact mg_up_s _ _ _ | (rw [mg_up_n _ _ (by decide)]; first | assumption | exact mg_up_s _ _ _ | (rw [mg_up_n _ _ (by decide)]; first | assumption | exact mg_up_s _ _ _ | (rw [mg_up_n _ _ (by decide)]; first | assumption | exact mg_up_s _ _ _ | (rw [mg_up_n _ _ (by decide)]; first | assumption | exact mg_up_s _ _ _ | (rw [mg_up_n _ _ (by decide)]; first | assumption | exact mg_up_s _ _ _))))))) rfl rfl (c_Mo_isGenerator hO1) rfl rfl (by rw [hR]; decide) (by rw [hR]; decide) (Nat.le_of_ble_eq_true rfl) ?_
  rintro v M1 ⟨rfl, rfl⟩
  refine mg_if_eq (tgt := 25) d_Mo_all_10 (by decide) (fun c_10 => ?_) (fun c_10 => ?_)
  · refine mg_iconst (v := -1) d_Mo_all_25 (by decide) ?_
    exact mg_ireturn d_Mo_all_26 rfl rfl (Nat.le_of_ble_eq_true rfl) (Nat.le_of_ble_eq_true rfl) ⟨rfl, hz⟩
  · have hgo : ¬ offR gi gs.length := fun e => c_10 (by rw [show (upd si 0 0) 1 = nI gs.length from a1, ig_f e]; rfl)
    refine mg_iload_n d_Mo_all_13 rfl rfl ?_
    refine mg_iconst (v := 1) d_Mo_all_14 (by decide) ?_
    refine mg_icmp_lt (tgt := 25) d_Mo_all_15 (by decide) (fun c_15 => ?_) (fun c_15 => ?_)
    · refine mg_iconst (v := -1) d_Mo_all_25 (by decide) ?_
      exact mg_ireturn d_Mo_all_26 rfl rfl (Nat.le_of_ble_eq_true rfl) (Nat.le_of_ble_eq_true rfl) ⟨rfl, hz⟩
    · refine mg_iload_n d_Mo_all_18 rfl rfl ?_
      refine mg_sipush (v := 200) d_Mo_all_19 (by decide) ?_
      refine mg_icmp_le (tgt := 27) d_Mo_all_22 (by decide) (fun c_22 => ?_) (fun c_22 => ?_)
      · rcases hb with hb | hb | hb
        · exact absurd hb hgo
        · exact absurd hb c_15
        · exact absurd c_22 (Int32.not_le.mpr hb)
      · refine mg_iconst (v := -1) d_Mo_all_25 (by decide) ?_
        exact mg_ireturn d_Mo_all_26 rfl rfl (Nat.le_of_ble_eq_true rfl) (Nat.le_of_ble_eq_true rfl) ⟨rfl, hz⟩

set_option maxHeartbeats 4000000 in
set_option maxRecDepth 100000 in
theorem c_Mo_all {M : mg_M} {gs : List gN} {ps : List pN} {ks : List kN} {wa : Nat} {fo : fO} {le : Bool} {row nu pu : List Int32} {s : Int64} {i most : Nat} {g : gN} (h : isMo M gs ps ks wa fo le row nu pu s) (hw : wfG gs) (hg : gs[i]? = some g) (hm1 : 1 ≤ most) (hm2 : most ≤ 200) : mg_Ct Y_Mo_all { frames := 4, cells := 0, slots := 0, locals := 93 } [.ref 1000, .int (nI i), .int (nI most)] M (alP M gs ps ks wa fo le row nu pu (allF gs i most 2000 0 [] 0)) := by
  obtain ⟨si, x, hO, hS, hWk, hI⟩ := id h
  obtain ⟨⟨a1, a2, a3, a4⟩, ⟨b1, ⟨ff, b2, b3, b4⟩⟩, ⟨c1, c2, c3⟩, d1, ⟨e1, ⟨tf, e2, e3, e4⟩⟩, f1, ⟨pf, f2, f3, f4⟩⟩ := id hS
  have hz := isMo.c0 (x := x) (s := s) hS hWk hI
  have hi : i < gs.length := (List.getElem?_eq_some_iff.mp hg).1
  refine mg_met [some (.ref 1000), some (.int (nI i)), some (.int (nI most)), none, none, none, none] (by decide +kernel) rfl (Nat.le_of_ble_eq_true rfl) ?_
  intro X hR _
  first | refine mg_aload_n d_Mo_all_0 rfl rfl ?_ | refine mg_aload_nN d_Mo_all_0 rfl rfl ?_
  refine mg_iconst (v := 0) d_Mo_all_1 (by decide) ?_
  refine mg_putfield (fw_Mo_80 _) d_Mo_all_2 (by first | assumption | exact mg_up_s _ _ _ | (rw [mg_up_n _ _ (by decide)]; first | assumption | exact mg_up_s _ _ _ | (rw [mg_up_n _ _ (by decide)]; first | assumption | exact mg_up_s _ _ _ | (rw [mg_up_n _ _ (by decide)]; first | assumption | exact mg_up_s _ _ _ | (rw [mg_up_n _ _ (by decide)]; first | assumption | exact mg_up_s _ _ _ | (rw [mg_up_n _ _ (by decide)]; first | assumption | exact mg_up_s _ _ _ | (rw [mg_up_n _ _ (by decide)]; first | assumption | exact mg_up_s _ _ _))))))) (Nat.le_of_ble_eq_true rfl) (fun _ => ⟨rfl, rfl⟩) ?_
  refine mg_eqM (M' := c0M M si x s) rfl ?_
  have hO1 : (c0M M si x s) 1000 = some (moE (upd si 0 0) x s) := mg_up_s _ _ _
  have hT1 : (c0M M si x s) 1021 = some (iaE 60 tf) := (mg_up_n _ _ (by decide)).trans e2
  have hF1 : (c0M M si x s) 1016 = some (iaE 60 ff) := (mg_up_n _ _ (by decide)).trans b2
  have hP1 : (c0M M si x s) 1022 = some (iaE 60 pf) := (mg_up_n _ _ (by decide)).trans f2
  first | refine mg_aload_n d_Mo_all_5 rfl rfl ?_ | refine mg_aload_nN d_Mo_all_5 rfl rfl ?_
  refine mg_iload_n d_Mo_all_6 rfl rfl ?_
  refine mg_callV (vl_Mo_90 rfl) d_Mo_all_7 (by first | assumption | exact mg_up_s _ _ _ | (rw [mg_up_n _ _ (by decide)]; first | assumption | exact mg_up_s _ _ _ | (rw [mg_up_n _ _ (by decide)]; first | assumption | exact mg_up_s _ _ _ | (rw [mg_up_n _ _ (by decide)]; first | assumption | exact mg_up_s _ _ _ | (rw [mg_up_n _ _ (by decide)]; first | assumption | exact mg_up_s _ _ _ | (rw [mg_up_n _ _ (by decide)]; first | assumption | exact mg_up_s _ _ _ | (rw [mg_up_n _ _ (by decide)]; first | assumption | exact mg_up_s _ _ _))))))) rfl rfl (c_Mo_isGenerator hO1) rfl rfl (by rw [hR]; decide) (by rw [hR]; decide) (Nat.le_of_ble_eq_true rfl) ?_
  rintro v M1 ⟨rfl, rfl⟩
  refine mg_if_eq (tgt := 25) d_Mo_all_10 (by decide) (fun c_10 => ?_) (fun c_10 => ?_)
  · exact absurd (by first | exact c_10 | exact Decidable.not_not.mp c_10) (by rw [show (upd si 0 0) 1 = nI gs.length from a1, ig_t hi hw.1]; decide)
  · refine mg_iload_n d_Mo_all_13 rfl rfl ?_
    refine mg_iconst (v := 1) d_Mo_all_14 (by decide) ?_
    refine mg_icmp_lt (tgt := 25) d_Mo_all_15 (by decide) (fun c_15 => ?_) (fun c_15 => ?_)
    · exact absurd ((nI_ltI (b := 1) (by omega) (by decide)).mp c_15) (by omega)
    · refine mg_iload_n d_Mo_all_18 rfl rfl ?_
      refine mg_sipush (v := 200) d_Mo_all_19 (by decide) ?_
      refine mg_icmp_le (tgt := 27) d_Mo_all_22 (by decide) (fun c_22 => ?_) (fun c_22 => ?_)
      · first | refine mg_aload_n d_Mo_all_27 rfl rfl ?_ | refine mg_aload_nN d_Mo_all_27 rfl rfl ?_
        refine mg_lconst (v := 0) d_Mo_all_28 (by decide) ?_
        refine mg_putfield (fw_Mo_199 _) d_Mo_all_29 (by first | assumption | exact mg_up_s _ _ _ | (rw [mg_up_n _ _ (by decide)]; first | assumption | exact mg_up_s _ _ _ | (rw [mg_up_n _ _ (by decide)]; first | assumption | exact mg_up_s _ _ _ | (rw [mg_up_n _ _ (by decide)]; first | assumption | exact mg_up_s _ _ _ | (rw [mg_up_n _ _ (by decide)]; first | assumption | exact mg_up_s _ _ _ | (rw [mg_up_n _ _ (by decide)]; first | assumption | exact mg_up_s _ _ _ | (rw [mg_up_n _ _ (by decide)]; first | assumption | exact mg_up_s _ _ _))))))) (Nat.le_of_ble_eq_true rfl) (fun _ => ⟨rfl, rfl⟩) ?_
        refine mg_eqM (M' := mg_up (c0M M si x s) 1000 (moE (upd si 0 0) x 0)) rfl ?_
        first | refine mg_aload_n d_Mo_all_32 rfl rfl ?_ | refine mg_aload_nN d_Mo_all_32 rfl rfl ?_
        refine mg_iconst (v := 0) d_Mo_all_33 (by decide) ?_
        refine mg_putfield (fw_Mo_111 _) d_Mo_all_34 (by first | assumption | exact mg_up_s _ _ _ | (rw [mg_up_n _ _ (by decide)]; first | assumption | exact mg_up_s _ _ _ | (rw [mg_up_n _ _ (by decide)]; first | assumption | exact mg_up_s _ _ _ | (rw [mg_up_n _ _ (by decide)]; first | assumption | exact mg_up_s _ _ _ | (rw [mg_up_n _ _ (by decide)]; first | assumption | exact mg_up_s _ _ _ | (rw [mg_up_n _ _ (by decide)]; first | assumption | exact mg_up_s _ _ _ | (rw [mg_up_n _ _ (by decide)]; first | assumption | exact mg_up_s _ _ _))))))) (Nat.le_of_ble_eq_true rfl) (fun _ => ⟨rfl, rfl⟩) ?_
        refine mg_eqM (M' := mg_up (mg_up (c0M M si x s) 1000 (moE (upd si 0 0) x 0)) 1000 (moE (upd (upd si 0 0) 20 0) x 0)) rfl ?_
        refine mg_iconst (v := 0) d_Mo_all_37 (by decide) ?_
        refine mg_istore_n d_Mo_all_38 rfl (Nat.le_of_ble_eq_true rfl) rfl ?_
        refine mg_iconst (v := 0) d_Mo_all_39 (by decide) ?_
        refine mg_istore d_Mo_all_40 (Nat.le_of_ble_eq_true rfl) rfl ?_
        refine mg_iconst (v := 1) d_Mo_all_42 (by decide) ?_
        refine mg_istore d_Mo_all_43 (Nat.le_of_ble_eq_true rfl) rfl ?_
        have U : ∀ k, k ≠ 1000 → (mg_up (mg_up (c0M M si x s) 1000 (moE (upd si 0 0) x 0)) 1000 (moE (upd (upd si 0 0) 20 0) x 0)) k = M k := fun k hk => (mg_up_n _ _ hk).trans ((mg_up_n _ _ hk).trans (mg_up_n _ _ hk))
        have hO2 : (mg_up (mg_up (c0M M si x s) 1000 (moE (upd si 0 0) x 0)) 1000 (moE (upd (upd si 0 0) 20 0) x 0)) 1000 = some (moE (upd (upd si 0 0) 20 0) x 0) := mg_up_s _ _ _
        generalize mg_up (mg_up (c0M M si x s) 1000 (moE (upd si 0 0) x 0)) 1000 (moE (upd (upd si 0 0) 20 0) x 0) = M2 at U hO2 ⊢
        obtain ⟨gv0, ⟨fi, hI, -⟩, -⟩ := hI
        exact lp_Mo_all hR hw hg hm2 2000 0 0 M2 _ x 0 [] none (by omega) (by omega) hO2 (hS.fr (fun k hk => (pk_un (by omega)).trans (pk_un (by omega))) (fun k hk => U k (by omega))) (hWk.eq (fun k _ _ => U k (by omega))) ⟨fi, (U _ (by decide)).trans hI, Nat.zero_le _, fun j hj => absurd hj (Nat.not_lt_zero _)⟩ rfl nnL_nil (fun k hk => U k (by omega)) (Or.inl rfl) rfl
      · exact absurd (nI_le (b := 200) hm2 (by decide)) c_22

