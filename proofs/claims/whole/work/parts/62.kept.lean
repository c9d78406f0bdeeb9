/-! THE REFERENCE: the kept rows, check -/
set_option maxHeartbeats 4000000 in
set_option maxRecDepth 100000 in
theorem lp_keepRow {X : mg_X} {M : mg_M} {si : Nat → Int32} {x s : Int64} {row : List Int32} {ff f0 : Nat → Int32} {Q : State → Prop} {m : Nat} (hO : M 1000 = some (moE si x s)) (h26 : si 26 = nI row.length) (hrl : row.length ≤ 60) (h30 : si 30 = nI m) (hm : m < 200) (hF : M 1016 = some (iaE 60 ff)) (hf : ∀ j, j < row.length → ff j = row.getD j 0) (kk : ∀ (M' : mg_M) (f : Nat → Int32), M' 1020 = some (iaE 12000 f) → (∀ j, j < row.length → f (60 * m + j) = row.getD j 0) → (∀ j, j < 60 * m → f j = f0 j) → (∀ k, k ≠ 1020 → M' k = M k) → mg_G X Y_Mo_keepRow Q M' 0 0 75 [some (.ref 1000), some (.int (nI row.length))] []) : ∀ n : Nat, ∀ (i : Nat) (M' : mg_M) (f : Nat → Int32), row.length - i < n → i ≤ row.length → M' 1020 = some (iaE 12000 f) → (∀ j, j < i → f (60 * m + j) = row.getD j 0) → (∀ j, j < 60 * m → f j = f0 j) → (∀ k, k ≠ 1020 → M' k = M k) → mg_G X Y_Mo_keepRow Q M' 0 0 41 [some (.ref 1000), some (.int (nI i))] [] := by
  intro n
  induction n with
  | zero =>
    intro i M' f hn hi hM hg hg0 hfr
    exact absurd hn (by omega)
  | succ n ih =>
    intro i M' f hn hi hM hg hg0 hfr
    have hO2 := (hfr 1000 (by decide)).trans hO
    have hF2 := (hfr 1016 (by decide)).trans hF
    refine mg_iload_n d_Mo_keepRow_41 rfl rfl ?_
    first | refine mg_aload_n d_Mo_keepRow_42 rfl rfl ?_ | refine mg_aload_nN d_Mo_keepRow_42 rfl rfl ?_
    refine mg_getfield fl_Mo_55 d_Mo_keepRow_43 (by first | assumption | exact mg_up_s _ _ _ | (rw [mg_up_n _ _ (by decide)]; first | assumption | exact mg_up_s _ _ _ | (rw [mg_up_n _ _ (by decide)]; first | assumption | exact mg_up_s _ _ _ | (rw [mg_up_n _ _ (by decide)]; first | assumption | exact mg_up_s _ _ _ | (rw [mg_up_n _ _ (by decide)]; first | assumption | exact mg_up_s _ _ _ | (rw [mg_up_n _ _ (by decide)]; first | assumption | exact mg_up_s _ _ _ | (rw [mg_up_n _ _ (by decide)]; first | assumption | exact mg_up_s _ _ _))))))) rfl ?_
    refine mg_icmp_ge (tgt := 75) d_Mo_keepRow_46 (by decide) (fun c_46 => ?_) (fun c_46 => ?_)
    · have e : i = row.length := by
        rw [h26] at c_46
        have := (nI_leI (by omega) (by omega)).mp c_46
        omega
      subst e
      exact kk M' f hM hg hg0 hfr
    · have hi2 : i < row.length := by
        rw [h26] at c_46
        exact Nat.lt_of_not_le (fun q => c_46 (nI_le q (by omega)))
      have hin : vp_in (nI i) 60 := vp_in_nI (by omega) (by decide)
      have hin2 : vp_in (nI (60 * m + i)) 12000 := vp_in_nI (by omega) (by decide)
      first | refine mg_aload_n d_Mo_keepRow_49 rfl rfl ?_ | refine mg_aload_nN d_Mo_keepRow_49 rfl rfl ?_
      refine mg_getfield fl_Mo_71 d_Mo_keepRow_50 (by first | assumption | exact mg_up_s _ _ _ | (rw [mg_up_n _ _ (by decide)]; first | assumption | exact mg_up_s _ _ _ | (rw [mg_up_n _ _ (by decide)]; first | assumption | exact mg_up_s _ _ _ | (rw [mg_up_n _ _ (by decide)]; first | assumption | exact mg_up_s _ _ _ | (rw [mg_up_n _ _ (by decide)]; first | assumption | exact mg_up_s _ _ _ | (rw [mg_up_n _ _ (by decide)]; first | assumption | exact mg_up_s _ _ _ | (rw [mg_up_n _ _ (by decide)]; first | assumption | exact mg_up_s _ _ _))))))) rfl ?_
      refine mg_bipush (v := 60) d_Mo_keepRow_53 (by decide) ?_
      first | refine mg_aload_n d_Mo_keepRow_55 rfl rfl ?_ | refine mg_aload_nN d_Mo_keepRow_55 rfl rfl ?_
      refine mg_getfield fl_Mo_158 d_Mo_keepRow_56 (by first | assumption | exact mg_up_s _ _ _ | (rw [mg_up_n _ _ (by decide)]; first | assumption | exact mg_up_s _ _ _ | (rw [mg_up_n _ _ (by decide)]; first | assumption | exact mg_up_s _ _ _ | (rw [mg_up_n _ _ (by decide)]; first | assumption | exact mg_up_s _ _ _ | (rw [mg_up_n _ _ (by decide)]; first | assumption | exact mg_up_s _ _ _ | (rw [mg_up_n _ _ (by decide)]; first | assumption | exact mg_up_s _ _ _ | (rw [mg_up_n _ _ (by decide)]; first | assumption | exact mg_up_s _ _ _))))))) rfl ?_
      refine mg_imul d_Mo_keepRow_59 ?_
      refine mg_iload_n d_Mo_keepRow_60 rfl rfl ?_
      refine mg_iadd d_Mo_keepRow_61 ?_
      refine mg_eqi (y := nI (60 * m + i)) (by rw [h30, show (60 : Int32) = nI 60 from rfl, pk_mul, nI_add]) ?_
      first | refine mg_aload_n d_Mo_keepRow_62 rfl rfl ?_ | refine mg_aload_nN d_Mo_keepRow_62 rfl rfl ?_
      refine mg_getfield fl_Mo_59 d_Mo_keepRow_63 (by first | assumption | exact mg_up_s _ _ _ | (rw [mg_up_n _ _ (by decide)]; first | assumption | exact mg_up_s _ _ _ | (rw [mg_up_n _ _ (by decide)]; first | assumption | exact mg_up_s _ _ _ | (rw [mg_up_n _ _ (by decide)]; first | assumption | exact mg_up_s _ _ _ | (rw [mg_up_n _ _ (by decide)]; first | assumption | exact mg_up_s _ _ _ | (rw [mg_up_n _ _ (by decide)]; first | assumption | exact mg_up_s _ _ _ | (rw [mg_up_n _ _ (by decide)]; first | assumption | exact mg_up_s _ _ _))))))) rfl ?_
      refine mg_iload_n d_Mo_keepRow_66 rfl rfl ?_
      refine mg_iaload rfl d_Mo_keepRow_67 (by first | assumption | exact mg_up_s _ _ _ | (rw [mg_up_n _ _ (by decide)]; first | assumption | exact mg_up_s _ _ _ | (rw [mg_up_n _ _ (by decide)]; first | assumption | exact mg_up_s _ _ _ | (rw [mg_up_n _ _ (by decide)]; first | assumption | exact mg_up_s _ _ _ | (rw [mg_up_n _ _ (by decide)]; first | assumption | exact mg_up_s _ _ _ | (rw [mg_up_n _ _ (by decide)]; first | assumption | exact mg_up_s _ _ _ | (rw [mg_up_n _ _ (by decide)]; first | assumption | exact mg_up_s _ _ _))))))) hin ?_
      refine mg_eqi (y := row.getD i 0) (by rw [nI_clamp (by omega)]; exact hf i hi2) ?_
      refine mg_iastore rfl d_Mo_keepRow_68 (by first | assumption | exact mg_up_s _ _ _ | (rw [mg_up_n _ _ (by decide)]; first | assumption | exact mg_up_s _ _ _ | (rw [mg_up_n _ _ (by decide)]; first | assumption | exact mg_up_s _ _ _ | (rw [mg_up_n _ _ (by decide)]; first | assumption | exact mg_up_s _ _ _ | (rw [mg_up_n _ _ (by decide)]; first | assumption | exact mg_up_s _ _ _ | (rw [mg_up_n _ _ (by decide)]; first | assumption | exact mg_up_s _ _ _ | (rw [mg_up_n _ _ (by decide)]; first | assumption | exact mg_up_s _ _ _))))))) hin2 ?_
      refine mg_eqM (M' := mg_up M' 1020 (iaE 12000 (upd f (60 * m + i) (row.getD i 0)))) (by rw [nI_clamp (by omega)]) ?_
      refine mg_iinc (v := nI (i + 1)) d_Mo_keepRow_69 rfl (nI_1 _) (Nat.le_of_ble_eq_true rfl) rfl ?_
      refine mg_goto (tgt := 41) d_Mo_keepRow_72 (by decide) ?_
      refine ih (i + 1) _ _ (by omega) (by omega) (mg_up_s _ _ _) (fun j hj => ?_) (fun j hj => (pk_un (by omega)).trans (hg0 j hj)) (fun k hk => (mg_up_n _ _ hk).trans (hfr k hk))
      by_cases e : j = i
      · subst e; rw [pk_us]
      · rw [pk_un (by omega)]; exact hg j (by omega)

set_option maxHeartbeats 4000000 in
set_option maxRecDepth 100000 in
theorem c_Mo_keepRow {M : mg_M} {si : Nat → Int32} {x s : Int64} {row : List Int32} {ks : List kN} (hO : M 1000 = some (moE si x s)) (h26 : si 26 = nI row.length) (hF : isA M 1016 60 row) (h30 : si 30 = nI ks.length) (hm : ks.length < 200) (hK : isKM M ks) : mg_Ct Y_Mo_keepRow { frames := 0, cells := 0, slots := 0, locals := 0 } [.ref 1000] M (fun v M' => v = none ∧ M' 1000 = some (moE (upd si 30 (nI (ks.length + 1))) x s) ∧ isKM M' (ks ++ [(si 27, si 28, row)]) ∧ ∀ k, k ≠ 1000 → (k < 1017 ∨ 1021 ≤ k) → M' k = M k) := by
  obtain ⟨ff, b2, b3, b4⟩ := hF
  obtain ⟨kg, kp, kz, kf, q1, q2, q3, q4, qe⟩ := hK
  have hin : vp_in (si 30) 200 := by rw [h30]; exact vp_in_nI hm (by decide)
  refine mg_met [some (.ref 1000), none] (by decide +kernel) rfl (Nat.le_of_ble_eq_true rfl) ?_
  intro X hR _
  first | refine mg_aload_n d_Mo_keepRow_0 rfl rfl ?_ | refine mg_aload_nN d_Mo_keepRow_0 rfl rfl ?_
  refine mg_getfield fl_Mo_62 d_Mo_keepRow_1 (by first | assumption | exact mg_up_s _ _ _ | (rw [mg_up_n _ _ (by decide)]; first | assumption | exact mg_up_s _ _ _ | (rw [mg_up_n _ _ (by decide)]; first | assumption | exact mg_up_s _ _ _ | (rw [mg_up_n _ _ (by decide)]; first | assumption | exact mg_up_s _ _ _ | (rw [mg_up_n _ _ (by decide)]; first | assumption | exact mg_up_s _ _ _ | (rw [mg_up_n _ _ (by decide)]; first | assumption | exact mg_up_s _ _ _ | (rw [mg_up_n _ _ (by decide)]; first | assumption | exact mg_up_s _ _ _))))))) rfl ?_
  first | refine mg_aload_n d_Mo_keepRow_4 rfl rfl ?_ | refine mg_aload_nN d_Mo_keepRow_4 rfl rfl ?_
  refine mg_getfield fl_Mo_158 d_Mo_keepRow_5 (by first | assumption | exact mg_up_s _ _ _ | (rw [mg_up_n _ _ (by decide)]; first | assumption | exact mg_up_s _ _ _ | (rw [mg_up_n _ _ (by decide)]; first | assumption | exact mg_up_s _ _ _ | (rw [mg_up_n _ _ (by decide)]; first | assumption | exact mg_up_s _ _ _ | (rw [mg_up_n _ _ (by decide)]; first | assumption | exact mg_up_s _ _ _ | (rw [mg_up_n _ _ (by decide)]; first | assumption | exact mg_up_s _ _ _ | (rw [mg_up_n _ _ (by decide)]; first | assumption | exact mg_up_s _ _ _))))))) rfl ?_
  first | refine mg_aload_n d_Mo_keepRow_8 rfl rfl ?_ | refine mg_aload_nN d_Mo_keepRow_8 rfl rfl ?_
  refine mg_getfield fl_Mo_146 d_Mo_keepRow_9 (by first | assumption | exact mg_up_s _ _ _ | (rw [mg_up_n _ _ (by decide)]; first | assumption | exact mg_up_s _ _ _ | (rw [mg_up_n _ _ (by decide)]; first | assumption | exact mg_up_s _ _ _ | (rw [mg_up_n _ _ (by decide)]; first | assumption | exact mg_up_s _ _ _ | (rw [mg_up_n _ _ (by decide)]; first | assumption | exact mg_up_s _ _ _ | (rw [mg_up_n _ _ (by decide)]; first | assumption | exact mg_up_s _ _ _ | (rw [mg_up_n _ _ (by decide)]; first | assumption | exact mg_up_s _ _ _))))))) rfl ?_
  refine mg_iastore rfl d_Mo_keepRow_12 (by first | assumption | exact mg_up_s _ _ _ | (rw [mg_up_n _ _ (by decide)]; first | assumption | exact mg_up_s _ _ _ | (rw [mg_up_n _ _ (by decide)]; first | assumption | exact mg_up_s _ _ _ | (rw [mg_up_n _ _ (by decide)]; first | assumption | exact mg_up_s _ _ _ | (rw [mg_up_n _ _ (by decide)]; first | assumption | exact mg_up_s _ _ _ | (rw [mg_up_n _ _ (by decide)]; first | assumption | exact mg_up_s _ _ _ | (rw [mg_up_n _ _ (by decide)]; first | assumption | exact mg_up_s _ _ _))))))) hin ?_
  refine mg_eqM (M' := mg_up M 1017 (iaE 200 (upd kg ks.length (si 27)))) (by rw [h30, nI_clamp (by omega)]) ?_
  first | refine mg_aload_n d_Mo_keepRow_13 rfl rfl ?_ | refine mg_aload_nN d_Mo_keepRow_13 rfl rfl ?_
  refine mg_getfield fl_Mo_65 d_Mo_keepRow_14 (by first | assumption | exact mg_up_s _ _ _ | (rw [mg_up_n _ _ (by decide)]; first | assumption | exact mg_up_s _ _ _ | (rw [mg_up_n _ _ (by decide)]; first | assumption | exact mg_up_s _ _ _ | (rw [mg_up_n _ _ (by decide)]; first | assumption | exact mg_up_s _ _ _ | (rw [mg_up_n _ _ (by decide)]; first | assumption | exact mg_up_s _ _ _ | (rw [mg_up_n _ _ (by decide)]; first | assumption | exact mg_up_s _ _ _ | (rw [mg_up_n _ _ (by decide)]; first | assumption | exact mg_up_s _ _ _))))))) rfl ?_
  first | refine mg_aload_n d_Mo_keepRow_17 rfl rfl ?_ | refine mg_aload_nN d_Mo_keepRow_17 rfl rfl ?_
  refine mg_getfield fl_Mo_158 d_Mo_keepRow_18 (by first | assumption | exact mg_up_s _ _ _ | (rw [mg_up_n _ _ (by decide)]; first | assumption | exact mg_up_s _ _ _ | (rw [mg_up_n _ _ (by decide)]; first | assumption | exact mg_up_s _ _ _ | (rw [mg_up_n _ _ (by decide)]; first | assumption | exact mg_up_s _ _ _ | (rw [mg_up_n _ _ (by decide)]; first | assumption | exact mg_up_s _ _ _ | (rw [mg_up_n _ _ (by decide)]; first | assumption | exact mg_up_s _ _ _ | (rw [mg_up_n _ _ (by decide)]; first | assumption | exact mg_up_s _ _ _))))))) rfl ?_
  first | refine mg_aload_n d_Mo_keepRow_21 rfl rfl ?_ | refine mg_aload_nN d_Mo_keepRow_21 rfl rfl ?_
  refine mg_getfield fl_Mo_149 d_Mo_keepRow_22 (by first | assumption | exact mg_up_s _ _ _ | (rw [mg_up_n _ _ (by decide)]; first | assumption | exact mg_up_s _ _ _ | (rw [mg_up_n _ _ (by decide)]; first | assumption | exact mg_up_s _ _ _ | (rw [mg_up_n _ _ (by decide)]; first | assumption | exact mg_up_s _ _ _ | (rw [mg_up_n _ _ (by decide)]; first | assumption | exact mg_up_s _ _ _ | (rw [mg_up_n _ _ (by decide)]; first | assumption | exact mg_up_s _ _ _ | (rw [mg_up_n _ _ (by decide)]; first | assumption | exact mg_up_s _ _ _))))))) rfl ?_
  refine mg_iastore rfl d_Mo_keepRow_25 (by first | assumption | exact mg_up_s _ _ _ | (rw [mg_up_n _ _ (by decide)]; first | assumption | exact mg_up_s _ _ _ | (rw [mg_up_n _ _ (by decide)]; first | assumption | exact mg_up_s _ _ _ | (rw [mg_up_n _ _ (by decide)]; first | assumption | exact mg_up_s _ _ _ | (rw [mg_up_n _ _ (by decide)]; first | assumption | exact mg_up_s _ _ _ | (rw [mg_up_n _ _ (by decide)]; first | assumption | exact mg_up_s _ _ _ | (rw [mg_up_n _ _ (by decide)]; first | assumption | exact mg_up_s _ _ _))))))) hin ?_
  refine mg_eqM (M' := mg_up (mg_up M 1017 (iaE 200 (upd kg ks.length (si 27)))) 1018 (iaE 200 (upd kp ks.length (si 28)))) (by rw [h30, nI_clamp (by omega)]) ?_
  first | refine mg_aload_n d_Mo_keepRow_26 rfl rfl ?_ | refine mg_aload_nN d_Mo_keepRow_26 rfl rfl ?_
  refine mg_getfield fl_Mo_68 d_Mo_keepRow_27 (by first | assumption | exact mg_up_s _ _ _ | (rw [mg_up_n _ _ (by decide)]; first | assumption | exact mg_up_s _ _ _ | (rw [mg_up_n _ _ (by decide)]; first | assumption | exact mg_up_s _ _ _ | (rw [mg_up_n _ _ (by decide)]; first | assumption | exact mg_up_s _ _ _ | (rw [mg_up_n _ _ (by decide)]; first | assumption | exact mg_up_s _ _ _ | (rw [mg_up_n _ _ (by decide)]; first | assumption | exact mg_up_s _ _ _ | (rw [mg_up_n _ _ (by decide)]; first | assumption | exact mg_up_s _ _ _))))))) rfl ?_
  first | refine mg_aload_n d_Mo_keepRow_30 rfl rfl ?_ | refine mg_aload_nN d_Mo_keepRow_30 rfl rfl ?_
  refine mg_getfield fl_Mo_158 d_Mo_keepRow_31 (by first | assumption | exact mg_up_s _ _ _ | (rw [mg_up_n _ _ (by decide)]; first | assumption | exact mg_up_s _ _ _ | (rw [mg_up_n _ _ (by decide)]; first | assumption | exact mg_up_s _ _ _ | (rw [mg_up_n _ _ (by decide)]; first | assumption | exact mg_up_s _ _ _ | (rw [mg_up_n _ _ (by decide)]; first | assumption | exact mg_up_s _ _ _ | (rw [mg_up_n _ _ (by decide)]; first | assumption | exact mg_up_s _ _ _ | (rw [mg_up_n _ _ (by decide)]; first | assumption | exact mg_up_s _ _ _))))))) rfl ?_
  first | refine mg_aload_n d_Mo_keepRow_34 rfl rfl ?_ | refine mg_aload_nN d_Mo_keepRow_34 rfl rfl ?_
  refine mg_getfield fl_Mo_55 d_Mo_keepRow_35 (by first | assumption | exact mg_up_s _ _ _ | (rw [mg_up_n _ _ (by decide)]; first | assumption | exact mg_up_s _ _ _ | (rw [mg_up_n _ _ (by decide)]; first | assumption | exact mg_up_s _ _ _ | (rw [mg_up_n _ _ (by decide)]; first | assumption | exact mg_up_s _ _ _ | (rw [mg_up_n _ _ (by decide)]; first | assumption | exact mg_up_s _ _ _ | (rw [mg_up_n _ _ (by decide)]; first | assumption | exact mg_up_s _ _ _ | (rw [mg_up_n _ _ (by decide)]; first | assumption | exact mg_up_s _ _ _))))))) rfl ?_
  refine mg_iastore rfl d_Mo_keepRow_38 (by first | assumption | exact mg_up_s _ _ _ | (rw [mg_up_n _ _ (by decide)]; first | assumption | exact mg_up_s _ _ _ | (rw [mg_up_n _ _ (by decide)]; first | assumption | exact mg_up_s _ _ _ | (rw [mg_up_n _ _ (by decide)]; first | assumption | exact mg_up_s _ _ _ | (rw [mg_up_n _ _ (by decide)]; first | assumption | exact mg_up_s _ _ _ | (rw [mg_up_n _ _ (by decide)]; first | assumption | exact mg_up_s _ _ _ | (rw [mg_up_n _ _ (by decide)]; first | assumption | exact mg_up_s _ _ _))))))) hin ?_
  refine mg_eqM (M' := mg_up (mg_up (mg_up M 1017 (iaE 200 (upd kg ks.length (si 27)))) 1018 (iaE 200 (upd kp ks.length (si 28)))) 1019 (iaE 200 (upd kz ks.length (si 26)))) (by rw [h30, nI_clamp (by omega)]) ?_
  refine mg_iconst (v := 0) d_Mo_keepRow_39 (by decide) ?_
  refine mg_istore_n d_Mo_keepRow_40 rfl (Nat.le_of_ble_eq_true rfl) rfl ?_
  have U : ∀ k, k ≠ 1017 → k ≠ 1018 → k ≠ 1019 → (mg_up (mg_up (mg_up M 1017 (iaE 200 (upd kg ks.length (si 27)))) 1018 (iaE 200 (upd kp ks.length (si 28)))) 1019 (iaE 200 (upd kz ks.length (si 26)))) k = M k := fun k h1 h2 h3 => (mg_up_n _ _ h3).trans ((mg_up_n _ _ h2).trans (mg_up_n _ _ h1))
  have v1 : (mg_up (mg_up (mg_up M 1017 (iaE 200 (upd kg ks.length (si 27)))) 1018 (iaE 200 (upd kp ks.length (si 28)))) 1019 (iaE 200 (upd kz ks.length (si 26)))) 1017 = some (iaE 200 (upd kg ks.length (si 27))) := (mg_up_n _ _ (by decide)).trans ((mg_up_n _ _ (by decide)).trans (mg_up_s _ _ _))
  have v2 : (mg_up (mg_up (mg_up M 1017 (iaE 200 (upd kg ks.length (si 27)))) 1018 (iaE 200 (upd kp ks.length (si 28)))) 1019 (iaE 200 (upd kz ks.length (si 26)))) 1018 = some (iaE 200 (upd kp ks.length (si 28))) := (mg_up_n _ _ (by decide)).trans (mg_up_s _ _ _)
  have v3 : (mg_up (mg_up (mg_up M 1017 (iaE 200 (upd kg ks.length (si 27)))) 1018 (iaE 200 (upd kp ks.length (si 28)))) 1019 (iaE 200 (upd kz ks.length (si 26)))) 1019 = some (iaE 200 (upd kz ks.length (si 26))) := mg_up_s _ _ _
  generalize mg_up (mg_up (mg_up M 1017 (iaE 200 (upd kg ks.length (si 27)))) 1018 (iaE 200 (upd kp ks.length (si 28)))) 1019 (iaE 200 (upd kz ks.length (si 26))) = M1 at U v1 v2 v3 ⊢
  refine lp_keepRow (f0 := kf) ((U _ (by decide) (by decide) (by decide)).trans hO) h26 b3 h30 hm ((U _ (by decide) (by decide) (by decide)).trans b2) b4 (fun M2 f hM hg hg0 hfr => ?_) (row.length + 1) 0 M1 kf (by omega) (by omega) ((U _ (by decide) (by decide) (by decide)).trans q4) (fun j hj => absurd hj (Nat.not_lt_zero _)) (fun _ _ => rfl) (fun _ _ => rfl)
  have hO2 := (hfr 1000 (by decide)).trans ((U _ (by decide) (by decide) (by decide)).trans hO)
  first | refine mg_aload_n d_Mo_keepRow_75 rfl rfl ?_ | refine mg_aload_nN d_Mo_keepRow_75 rfl rfl ?_
  refine mg_dup d_Mo_keepRow_76 rfl ?_
  refine mg_getfield fl_Mo_158 d_Mo_keepRow_77 (by first | assumption | exact mg_up_s _ _ _ | (rw [mg_up_n _ _ (by decide)]; first | assumption | exact mg_up_s _ _ _ | (rw [mg_up_n _ _ (by decide)]; first | assumption | exact mg_up_s _ _ _ | (rw [mg_up_n _ _ (by decide)]; first | assumption | exact mg_up_s _ _ _ | (rw [mg_up_n _ _ (by decide)]; first | assumption | exact mg_up_s _ _ _ | (rw [mg_up_n _ _ (by decide)]; first | assumption | exact mg_up_s _ _ _ | (rw [mg_up_n _ _ (by decide)]; first | assumption | exact mg_up_s _ _ _))))))) rfl ?_
  refine mg_iconst (v := 1) d_Mo_keepRow_80 (by decide) ?_
  refine mg_iadd d_Mo_keepRow_81 ?_
  refine mg_eqi (y := nI (ks.length + 1)) (by rw [h30, nI_1]) ?_
  refine mg_putfield (fw_Mo_158 _) d_Mo_keepRow_82 (by first | assumption | exact mg_up_s _ _ _ | (rw [mg_up_n _ _ (by decide)]; first | assumption | exact mg_up_s _ _ _ | (rw [mg_up_n _ _ (by decide)]; first | assumption | exact mg_up_s _ _ _ | (rw [mg_up_n _ _ (by decide)]; first | assumption | exact mg_up_s _ _ _ | (rw [mg_up_n _ _ (by decide)]; first | assumption | exact mg_up_s _ _ _ | (rw [mg_up_n _ _ (by decide)]; first | assumption | exact mg_up_s _ _ _ | (rw [mg_up_n _ _ (by decide)]; first | assumption | exact mg_up_s _ _ _))))))) (Nat.le_of_ble_eq_true rfl) (fun _ => ⟨rfl, rfl⟩) ?_
  refine mg_eqM (M' := mg_up M2 1000 (moE (upd si 30 (nI (ks.length + 1))) x s)) rfl ?_
  refine mg_return d_Mo_keepRow_85 rfl (Nat.le_of_ble_eq_true rfl) (Nat.le_of_ble_eq_true rfl) ⟨rfl, mg_up_s _ _ _, ⟨upd kg ks.length (si 27), upd kp ks.length (si 28), upd kz ks.length (si 26), f, (mg_up_n _ _ (by decide)).trans ((hfr _ (by decide)).trans v1), (mg_up_n _ _ (by decide)).trans ((hfr _ (by decide)).trans v2), (mg_up_n _ _ (by decide)).trans ((hfr _ (by decide)).trans v3), (mg_up_n _ _ (by decide)).trans hM, fun t k hk => ?_⟩, fun k h1 h2 => (mg_up_n _ _ h1).trans ((hfr k (by omega)).trans (U k (by omega) (by omega) (by omega)))⟩
  rcases Nat.lt_or_ge t ks.length with q | q
  · rw [List.getElem?_append_left q] at hk
    obtain ⟨z1, z2, z3, z4, z5⟩ := qe t k hk
    rw [pk_un (by omega), pk_un (by omega), pk_un (by omega)]
    exact ⟨z1, z2, z3, z4, fun u hu => (hg0 _ (by omega)).trans (z5 u hu)⟩
  · rw [List.getElem?_append_right q] at hk
    have hz1 : t - ks.length < 1 := (List.getElem?_eq_some_iff.mp hk).1
    have e : t = ks.length := by omega
    subst e
    rw [Nat.sub_self] at hk
    have hp2 := Option.some.inj hk
    subst hp2
    exact ⟨pk_us, pk_us, pk_us.trans h26, b3, hg⟩

set_option maxHeartbeats 4000000 in
set_option maxRecDepth 100000 in
theorem cp_fk {X : mg_X} {M : mg_M} {si : Nat → Int32} {x s : Int64} {L : List Int32} {sf : Nat → Int32} {Q : State → Prop} {gi pj : Int32} {m : Nat} (hm : m < 200) (hk : ∀ t, t < L.length → sf (60 * m + t) = L.getD t 0) (hO : M 1000 = some (moE si x s)) (hb : si 20 = nI L.length) (hL : L.length ≤ 60) (hsrc : M 1020 = some (iaE 12000 sf)) (kk : ∀ (M' : mg_M) (f : Nat → Int32), M' 1008 = some (iaE 60 f) → (∀ j, j < L.length → f j = L.getD j 0) → (∀ k, k ≠ 1008 → M' k = M k) → mg_G X Y_Mo_findKept Q M' 0 0 81 [some (.ref 1000), some (.int gi), some (.int pj), some (.int (nI m)), some (.int (nI L.length))] []) : ∀ n : Nat, ∀ (i : Nat) (M' : mg_M) (f : Nat → Int32), L.length - i < n → i ≤ L.length → M' 1008 = some (iaE 60 f) → (∀ j, j < i → f j = L.getD j 0) → (∀ k, k ≠ 1008 → M' k = M k) → mg_G X Y_Mo_findKept Q M' 0 0 47 [some (.ref 1000), some (.int gi), some (.int pj), some (.int (nI m)), some (.int (nI i))] [] := by
  intro n
  induction n with
  | zero =>
    intro i M' f hn hi hM hf hfr
    exact absurd hn (by omega)
  | succ n ih =>
    intro i M' f hn hi hM hf hfr
    have hO2 : M' 1000 = some (moE si x s) := (hfr _ (by decide)).trans hO
    have hsrc2 : M' 1020 = some (iaE 12000 sf) := (hfr _ (by decide)).trans hsrc
    refine mg_iload d_Mo_findKept_47 rfl ?_
    first | refine mg_aload_n d_Mo_findKept_49 rfl rfl ?_ | refine mg_aload_nN d_Mo_findKept_49 rfl rfl ?_
    refine mg_getfield fl_Mo_111 d_Mo_findKept_50 (by first | assumption | exact mg_up_s _ _ _ | (rw [mg_up_n _ _ (by decide)]; first | assumption | exact mg_up_s _ _ _ | (rw [mg_up_n _ _ (by decide)]; first | assumption | exact mg_up_s _ _ _ | (rw [mg_up_n _ _ (by decide)]; first | assumption | exact mg_up_s _ _ _ | (rw [mg_up_n _ _ (by decide)]; first | assumption | exact mg_up_s _ _ _ | (rw [mg_up_n _ _ (by decide)]; first | assumption | exact mg_up_s _ _ _ | (rw [mg_up_n _ _ (by decide)]; first | assumption | exact mg_up_s _ _ _))))))) rfl ?_
    refine mg_icmp_ge (tgt := 81) d_Mo_findKept_53 (by decide) (fun c_53 => ?_) (fun c_53 => ?_)
    · have e : i = L.length := by
        rw [hb] at c_53
        have := (nI_leI (by omega) (by omega)).mp c_53
        omega
      subst e
      exact kk M' f hM hf hfr
    · have hi2 : i < L.length := by
        rw [hb] at c_53
        exact Nat.lt_of_not_le (fun q => c_53 (nI_le q (by omega)))
      have hin : vp_in (nI i) 60 := vp_in_nI (by omega) (by decide)
      have hin2 : vp_in (nI (60 * m + i)) 12000 := vp_in_nI (by omega) (by decide)
      first | refine mg_aload_n d_Mo_findKept_56 rfl rfl ?_ | refine mg_aload_nN d_Mo_findKept_56 rfl rfl ?_
      refine mg_getfield fl_Mo_31 d_Mo_findKept_57 (by first | assumption | exact mg_up_s _ _ _ | (rw [mg_up_n _ _ (by decide)]; first | assumption | exact mg_up_s _ _ _ | (rw [mg_up_n _ _ (by decide)]; first | assumption | exact mg_up_s _ _ _ | (rw [mg_up_n _ _ (by decide)]; first | assumption | exact mg_up_s _ _ _ | (rw [mg_up_n _ _ (by decide)]; first | assumption | exact mg_up_s _ _ _ | (rw [mg_up_n _ _ (by decide)]; first | assumption | exact mg_up_s _ _ _ | (rw [mg_up_n _ _ (by decide)]; first | assumption | exact mg_up_s _ _ _))))))) rfl ?_
      refine mg_iload d_Mo_findKept_60 rfl ?_
      first | refine mg_aload_n d_Mo_findKept_62 rfl rfl ?_ | refine mg_aload_nN d_Mo_findKept_62 rfl rfl ?_
      refine mg_getfield fl_Mo_71 d_Mo_findKept_63 (by first | assumption | exact mg_up_s _ _ _ | (rw [mg_up_n _ _ (by decide)]; first | assumption | exact mg_up_s _ _ _ | (rw [mg_up_n _ _ (by decide)]; first | assumption | exact mg_up_s _ _ _ | (rw [mg_up_n _ _ (by decide)]; first | assumption | exact mg_up_s _ _ _ | (rw [mg_up_n _ _ (by decide)]; first | assumption | exact mg_up_s _ _ _ | (rw [mg_up_n _ _ (by decide)]; first | assumption | exact mg_up_s _ _ _ | (rw [mg_up_n _ _ (by decide)]; first | assumption | exact mg_up_s _ _ _))))))) rfl ?_
      refine mg_bipush (v := 60) d_Mo_findKept_66 (by decide) ?_
      refine mg_iload_n d_Mo_findKept_68 rfl rfl ?_
      refine mg_imul d_Mo_findKept_69 ?_
      refine mg_iload d_Mo_findKept_70 rfl ?_
      refine mg_iadd d_Mo_findKept_72 ?_
      refine mg_eqi (y := nI (60 * m + i)) (by rw [show (60 : Int32) = nI 60 from rfl, pk_mul, nI_add]) ?_
      refine mg_iaload rfl d_Mo_findKept_73 (by first | assumption | exact mg_up_s _ _ _ | (rw [mg_up_n _ _ (by decide)]; first | assumption | exact mg_up_s _ _ _ | (rw [mg_up_n _ _ (by decide)]; first | assumption | exact mg_up_s _ _ _ | (rw [mg_up_n _ _ (by decide)]; first | assumption | exact mg_up_s _ _ _ | (rw [mg_up_n _ _ (by decide)]; first | assumption | exact mg_up_s _ _ _ | (rw [mg_up_n _ _ (by decide)]; first | assumption | exact mg_up_s _ _ _ | (rw [mg_up_n _ _ (by decide)]; first | assumption | exact mg_up_s _ _ _))))))) hin2 ?_
      refine mg_eqi (y := L.getD i 0) (by rw [nI_clamp (by omega)]; exact hk i hi2) ?_
      refine mg_iastore rfl d_Mo_findKept_74 (by first | assumption | exact mg_up_s _ _ _ | (rw [mg_up_n _ _ (by decide)]; first | assumption | exact mg_up_s _ _ _ | (rw [mg_up_n _ _ (by decide)]; first | assumption | exact mg_up_s _ _ _ | (rw [mg_up_n _ _ (by decide)]; first | assumption | exact mg_up_s _ _ _ | (rw [mg_up_n _ _ (by decide)]; first | assumption | exact mg_up_s _ _ _ | (rw [mg_up_n _ _ (by decide)]; first | assumption | exact mg_up_s _ _ _ | (rw [mg_up_n _ _ (by decide)]; first | assumption | exact mg_up_s _ _ _))))))) hin ?_
      refine mg_eqM (M' := mg_up M' 1008 (iaE 60 (upd f i (L.getD i 0)))) (by rw [nI_clamp (by omega)]) ?_
      refine mg_iinc (v := nI (i + 1)) d_Mo_findKept_75 rfl (nI_1 _) (Nat.le_of_ble_eq_true rfl) rfl ?_
      refine mg_goto (tgt := 47) d_Mo_findKept_78 (by decide) ?_
      refine ih (i + 1) _ _ (by omega) (by omega) (mg_up_s _ _ _) (fun j hj => ?_) (fun k hk => (mg_up_n _ _ hk).trans (hfr k hk))
      by_cases e : j = i
      · subst e; rw [pk_us]
      · rw [pk_un e]; exact hf j (by omega)

def fkQ (M0 : mg_M) (gs : List gN) (ps : List pN) (ks : List kN) (wa : Nat) (fo : fO) (le : Bool) (row nu pu : List Int32) (s : Int64) (i j : Nat) (r : Option rwR) : Option Value → mg_M → Prop := fun v M' => match r with
  | none => v = some (.int 0) ∧ isMo M' gs ps ks wa fo le row nu pu s ∧ sm 1000 1023 M0 M'
  | some (v0, rw0, ns) => v = some (.int 1) ∧ isMo M' gs ps ks wa (some (i, j, v0)) le rw0 ns pu s ∧ sm 1000 1023 M0 M'
/-- the state behind a find -/
theorem isMoS.found {M9 M M' : mg_M} {si si0 : Nat → Int32} {x : Int64} {md : dM} {τ : dS} {gs : List gN} {ps : List pN} {ks : List kN} {wa : Nat} {fo : fO} {le : Bool} {row nu pu : List Int32} {s : Int64} {i j : Nat} {v0 : Int32} {rw0 ns : List Int32} (hS : isMoS M9 si0 gs ps ks wa fo le row nu pu) (g1 : isRun M si x s md τ) (hWk : isWk M) (hsi : ∀ k, k ≠ 10 → k ≠ 11 → k ≠ 12 → k ≠ 13 → k ≠ 15 → k ≠ 20 → k ≠ 25 → si k = si0 k) (hM : ∀ k, k ≠ 1000 → (k < 1008 ∨ 1016 ≤ k) → M k = M9 k) (t2 : isA M' 1016 60 τ.1) (t3 : isA M' 1021 60 (tlL τ)) (t4 : ∀ k, k ≠ 1000 → k ≠ 1016 → k ≠ 1021 → M' k = M k) (h1 : τ.1 = rw0) (h2 : tlL τ = ns) : isMoS M' (fdS si τ (nI i) (nI j) v0) gs ps ks wa (some (i, j, v0)) le rw0 ns pu ∧ isWk M' ∧ ∃ gv, isA M' 1008 60 gv ∧ fdS si τ (nI i) (nI j) v0 20 = nI gv.length := by
  obtain ⟨⟨a1, a2, a3, a4⟩, ⟨b1, ⟨ff, b2, b3, b4⟩⟩, ⟨c1, c2, c3⟩, d1, ⟨e1, ⟨tf, e2, e3, e4⟩⟩, f1, ⟨pf, f2, f3, f4⟩⟩ := id hS
  subst h1; subst h2
  have U : ∀ k, k ≠ 1000 → k ≠ 1016 → k ≠ 1021 → (k < 1008 ∨ 1016 ≤ k) → M' k = M9 k := fun k k1 k2 k3 k4 => (t4 k k1 k2 k3).trans (hM k k1 k4)
  have V : ∀ k, k ≠ 10 → k ≠ 11 → k ≠ 12 → k ≠ 13 → k ≠ 15 → k ≠ 20 → k ≠ 25 → k ≠ 26 → k ≠ 27 → k ≠ 28 → k ≠ 29 → k ≠ 40 → fdS si τ (nI i) (nI j) v0 k = si0 k := fun k h1 h2 h3 h4 h5 h6 h7 k1 k2 k3 k4 k5 => (pk_un k5).trans ((pk_un k4).trans ((pk_un k3).trans ((pk_un k2).trans ((pk_un k1).trans (hsi k h1 h2 h3 h4 h5 h6 h7)))))
  exact ⟨⟨⟨(V 1 (by decide) (by decide) (by decide) (by decide) (by decide) (by decide) (by decide) (by decide) (by decide) (by decide) (by decide) (by decide)).trans a1, (V 2 (by decide) (by decide) (by decide) (by decide) (by decide) (by decide) (by decide) (by decide) (by decide) (by decide) (by decide) (by decide)).trans a2, a3.eq (fun k _ _ => U k (by omega) (by omega) (by omega) (by omega)), a4.eq (fun k _ _ => U k (by omega) (by omega) (by omega) (by omega))⟩, ⟨⟨rfl, rfl, rfl, rfl⟩, t2⟩, ⟨(V 30 (by decide) (by decide) (by decide) (by decide) (by decide) (by decide) (by decide) (by decide) (by decide) (by decide) (by decide) (by decide)).trans c1, (V 31 (by decide) (by decide) (by decide) (by decide) (by decide) (by decide) (by decide) (by decide) (by decide) (by decide) (by decide) (by decide)).trans c2, c3.eq (fun k _ _ => U k (by omega) (by omega) (by omega) (by omega))⟩, (V 37 (by decide) (by decide) (by decide) (by decide) (by decide) (by decide) (by decide) (by decide) (by decide) (by decide) (by decide) (by decide)).trans d1, ⟨pk_us, t3⟩, (V 41 (by decide) (by decide) (by decide) (by decide) (by decide) (by decide) (by decide) (by decide) (by decide) (by decide) (by decide) (by decide)).trans f1, pf, (U _ (by decide) (by decide) (by decide) (by decide)).trans f2, f3, f4⟩, hWk.eq (fun k _ _ => t4 k (by omega) (by omega) (by omega)), md.2.1, g1.2.2.2.2.2.2.2.2.1.eq (t4 _ (by decide) (by decide) (by decide)), g1.2.2.2.2.2.2.2.1⟩

set_option maxHeartbeats 4000000 in
set_option maxRecDepth 100000 in
theorem lp_fk {X : mg_X} {M0 : mg_M} {gs : List gN} {ps : List pN} {ks : List kN} {wa : Nat} {fo : fO} {le : Bool} {row nu pu : List Int32} {s : Int64} {i j : Nat} {g : gN} {p : pN} {r : Option rwR} (hR : mg_R X = { frames := 4, cells := 0, slots := 0, locals := 93 }) (hw : wfG gs) (hg : gs[i]? = some g) (hpl : ps.length ≤ 10) (hp : ps[j]? = some p) (hkl : ks.length ≤ 200) (hkn : ∀ k ∈ ks, nnL k.2.2) : ∀ (n : Nat) (M : mg_M) (si : Nat → Int32) (x : Int64) (T4 : Option Value), n ≤ ks.length → M 1000 = some (moE si x s) → isMoS M si gs ps ks wa fo le row nu pu → isWk M → (∃ gv, isA M 1008 60 gv ∧ si 20 = nI gv.length) → sm 1000 1023 M0 M → (T4 = none ∨ ∃ z : Int32, T4 = some (.int z)) → findKC gs p i (nI i) (nI j) ks n = r → mg_G X Y_Mo_findKept (mg_Q X (fkQ M0 gs ps ks wa fo le row nu pu s i j r) { frames := 4, cells := 0, slots := 0, locals := 93 }) M 0 0 7 [some (.ref 1000), some (.int (nI i)), some (.int (nI j)), some (.int (nI n - 1)), T4] [] := by
  intro n
  induction n with
  | zero =>
    intro M si x T4 hn hO hS hWk hI hs0 h4 hr
    refine mg_iload_n d_Mo_findKept_7 rfl rfl ?_
    refine mg_if_lt (tgt := 121) d_Mo_findKept_8 (by decide) (fun _ => ?_) (fun e => absurd (by decide) e)
    refine mg_iconst (v := 0) d_Mo_findKept_121 (by decide) ?_
    rw [findKC] at hr
    subst hr
    exact mg_ireturn d_Mo_findKept_122 rfl rfl (Nat.le_of_ble_eq_true rfl) (Nat.le_of_ble_eq_true rfl) ⟨rfl, ⟨si, x, hO, hS, hWk, hI⟩, hs0⟩
  | succ m ih =>
    intro M si x T4 hn hO hS hWk hI hs0 h4 hr
    obtain ⟨⟨a1, a2, a3, a4⟩, ⟨b1, ⟨ff, b2, b3, b4⟩⟩, ⟨c1, c2, c3⟩, d1, ⟨e1, ⟨tf, e2, e3, e4⟩⟩, f1, ⟨pf, f2, f3, f4⟩⟩ := id hS
    obtain ⟨kg, kp, kz, kf, q1, q2, q3, q4, qe⟩ := id c3
    obtain ⟨gv0, ⟨fi, hI1, -⟩, -⟩ := id hI
    have hin : vp_in (nI m) 200 := vp_in_nI (by omega) (by decide)
    obtain ⟨⟨ka, kb, ys⟩, hk⟩ : ∃ k, ks[m]? = some k := ⟨_, List.getElem?_eq_getElem (by omega)⟩
    obtain ⟨z1, z2, z3, z4, z5⟩ := qe m _ hk
    replace z1 : kg m = ka := z1
    replace z2 : kp m = kb := z2
    replace z3 : kz m = nI ys.length := z3
    replace z4 : ys.length ≤ 60 := z4
    replace z5 : ∀ t, t < ys.length → kf (60 * m + t) = ys.getD t 0 := z5
    have hny : nnL ys := hkn _ (List.mem_of_getElem? hk)
    rw [findKC, hk] at hr
    dsimp only at hr
    refine mg_eql (lv' := [some (.ref 1000), some (.int (nI i)), some (.int (nI j)), some (.int (nI m)), T4]) (by rw [nI_pred]) ?_
    rcases h4 with rfl | ⟨z0, rfl⟩
    · refine mg_iload_n d_Mo_findKept_7 rfl rfl ?_
      refine mg_if_lt (tgt := 121) d_Mo_findKept_8 (by decide) (fun c_8 => ?_) (fun c_8 => ?_)
      · exact absurd c_8 (nI_pos (by omega))
      · first | refine mg_aload_n d_Mo_findKept_11 rfl rfl ?_ | refine mg_aload_nN d_Mo_findKept_11 rfl rfl ?_
        refine mg_getfield fl_Mo_62 d_Mo_findKept_12 (by first | assumption | exact mg_up_s _ _ _ | (rw [mg_up_n _ _ (by decide)]; first | assumption | exact mg_up_s _ _ _ | (rw [mg_up_n _ _ (by decide)]; first | assumption | exact mg_up_s _ _ _ | (rw [mg_up_n _ _ (by decide)]; first | assumption | exact mg_up_s _ _ _ | (rw [mg_up_n _ _ (by decide)]; first | assumption | exact mg_up_s _ _ _ | (rw [mg_up_n _ _ (by decide)]; first | assumption | exact mg_up_s _ _ _ | (rw [mg_up_n _ _ (by decide)]; first | assumption | exact mg_up_s _ _ _))))))) rfl ?_
        refine mg_iload_n d_Mo_findKept_15 rfl rfl ?_
        refine mg_iaload rfl d_Mo_findKept_16 (by first | assumption | exact mg_up_s _ _ _ | (rw [mg_up_n _ _ (by decide)]; first | assumption | exact mg_up_s _ _ _ | (rw [mg_up_n _ _ (by decide)]; first | assumption | exact mg_up_s _ _ _ | (rw [mg_up_n _ _ (by decide)]; first | assumption | exact mg_up_s _ _ _ | (rw [mg_up_n _ _ (by decide)]; first | assumption | exact mg_up_s _ _ _ | (rw [mg_up_n _ _ (by decide)]; first | assumption | exact mg_up_s _ _ _ | (rw [mg_up_n _ _ (by decide)]; first | assumption | exact mg_up_s _ _ _))))))) hin ?_
        refine mg_eqi (y := ka) (by rw [nI_clamp (by omega)]; exact z1) ?_
        refine mg_iload_n d_Mo_findKept_17 rfl rfl ?_
        refine mg_icmp_ne (tgt := 115) d_Mo_findKept_18 (by decide) (fun c_18 => ?_) (fun c_18 => ?_)
        · rw [if_neg (fun e => c_18 e.1)] at hr
          refine mg_iinc (v := nI m - 1) d_Mo_findKept_115 rfl (by rw [Int32.sub_eq_add_neg]; rfl) (Nat.le_of_ble_eq_true rfl) rfl ?_
          refine mg_goto (tgt := 7) d_Mo_findKept_118 (by decide) ?_
          first
          | exact ih M si x _ (by omega) hO hS hWk hI hs0 (by first | exact Or.inl rfl | exact Or.inr ⟨_, rfl⟩) hr
          | exact ih _ si4 _ _ (by omega) hO5 (hS.fr (fun k hk => V4 k (by omega) (by omega) (by omega) (by omega) (by omega) (by omega)) (fun k hk => U4 k (by omega) (by omega))) g2 ⟨ys, g1.2.2.2.2.2.2.2.2.1, g1.2.2.2.2.2.2.2.1⟩ (fun k hk => (U4 k (by omega) (by omega)).trans (hs0 k hk)) (Or.inr ⟨_, rfl⟩) hr
        · first | refine mg_aload_n d_Mo_findKept_21 rfl rfl ?_ | refine mg_aload_nN d_Mo_findKept_21 rfl rfl ?_
          refine mg_getfield fl_Mo_65 d_Mo_findKept_22 (by first | assumption | exact mg_up_s _ _ _ | (rw [mg_up_n _ _ (by decide)]; first | assumption | exact mg_up_s _ _ _ | (rw [mg_up_n _ _ (by decide)]; first | assumption | exact mg_up_s _ _ _ | (rw [mg_up_n _ _ (by decide)]; first | assumption | exact mg_up_s _ _ _ | (rw [mg_up_n _ _ (by decide)]; first | assumption | exact mg_up_s _ _ _ | (rw [mg_up_n _ _ (by decide)]; first | assumption | exact mg_up_s _ _ _ | (rw [mg_up_n _ _ (by decide)]; first | assumption | exact mg_up_s _ _ _))))))) rfl ?_
          refine mg_iload_n d_Mo_findKept_25 rfl rfl ?_
          refine mg_iaload rfl d_Mo_findKept_26 (by first | assumption | exact mg_up_s _ _ _ | (rw [mg_up_n _ _ (by decide)]; first | assumption | exact mg_up_s _ _ _ | (rw [mg_up_n _ _ (by decide)]; first | assumption | exact mg_up_s _ _ _ | (rw [mg_up_n _ _ (by decide)]; first | assumption | exact mg_up_s _ _ _ | (rw [mg_up_n _ _ (by decide)]; first | assumption | exact mg_up_s _ _ _ | (rw [mg_up_n _ _ (by decide)]; first | assumption | exact mg_up_s _ _ _ | (rw [mg_up_n _ _ (by decide)]; first | assumption | exact mg_up_s _ _ _))))))) hin ?_
          refine mg_eqi (y := kb) (by rw [nI_clamp (by omega)]; exact z2) ?_
          refine mg_iload_n d_Mo_findKept_27 rfl rfl ?_
          refine mg_icmp_eq (tgt := 34) d_Mo_findKept_28 (by decide) (fun c_28 => ?_) (fun c_28 => ?_)
          · rw [if_pos ⟨(by first | exact c_18 | exact Decidable.not_not.mp c_18), c_28⟩] at hr
            first | refine mg_aload_n d_Mo_findKept_34 rfl rfl ?_ | refine mg_aload_nN d_Mo_findKept_34 rfl rfl ?_
            first | refine mg_aload_n d_Mo_findKept_35 rfl rfl ?_ | refine mg_aload_nN d_Mo_findKept_35 rfl rfl ?_
            refine mg_getfield fl_Mo_68 d_Mo_findKept_36 (by first | assumption | exact mg_up_s _ _ _ | (rw [mg_up_n _ _ (by decide)]; first | assumption | exact mg_up_s _ _ _ | (rw [mg_up_n _ _ (by decide)]; first | assumption | exact mg_up_s _ _ _ | (rw [mg_up_n _ _ (by decide)]; first | assumption | exact mg_up_s _ _ _ | (rw [mg_up_n _ _ (by decide)]; first | assumption | exact mg_up_s _ _ _ | (rw [mg_up_n _ _ (by decide)]; first | assumption | exact mg_up_s _ _ _ | (rw [mg_up_n _ _ (by decide)]; first | assumption | exact mg_up_s _ _ _))))))) rfl ?_
            refine mg_iload_n d_Mo_findKept_39 rfl rfl ?_
            refine mg_iaload rfl d_Mo_findKept_40 (by first | assumption | exact mg_up_s _ _ _ | (rw [mg_up_n _ _ (by decide)]; first | assumption | exact mg_up_s _ _ _ | (rw [mg_up_n _ _ (by decide)]; first | assumption | exact mg_up_s _ _ _ | (rw [mg_up_n _ _ (by decide)]; first | assumption | exact mg_up_s _ _ _ | (rw [mg_up_n _ _ (by decide)]; first | assumption | exact mg_up_s _ _ _ | (rw [mg_up_n _ _ (by decide)]; first | assumption | exact mg_up_s _ _ _ | (rw [mg_up_n _ _ (by decide)]; first | assumption | exact mg_up_s _ _ _))))))) hin ?_
            refine mg_eqi (y := nI ys.length) (by rw [nI_clamp (by omega)]; exact z3) ?_
            refine mg_putfield (fw_Mo_111 _) d_Mo_findKept_41 (by first | assumption | exact mg_up_s _ _ _ | (rw [mg_up_n _ _ (by decide)]; first | assumption | exact mg_up_s _ _ _ | (rw [mg_up_n _ _ (by decide)]; first | assumption | exact mg_up_s _ _ _ | (rw [mg_up_n _ _ (by decide)]; first | assumption | exact mg_up_s _ _ _ | (rw [mg_up_n _ _ (by decide)]; first | assumption | exact mg_up_s _ _ _ | (rw [mg_up_n _ _ (by decide)]; first | assumption | exact mg_up_s _ _ _ | (rw [mg_up_n _ _ (by decide)]; first | assumption | exact mg_up_s _ _ _))))))) (Nat.le_of_ble_eq_true rfl) (fun _ => ⟨rfl, rfl⟩) ?_
            refine mg_eqM (M' := mg_up M 1000 (moE (upd si 20 (nI ys.length)) x s)) rfl ?_
            refine mg_iconst (v := 0) d_Mo_findKept_44 (by decide) ?_
            refine mg_istore d_Mo_findKept_45 (Nat.le_of_ble_eq_true rfl) rfl ?_
            refine cp_fk (si := upd si 20 (nI ys.length)) (L := ys) (sf := kf) (by omega) z5 (mg_up_s _ _ _) pk_us z4 ((mg_up_n _ _ (by decide)).trans q4) (fun M2 f hM hf hfr => ?_) (ys.length + 1) 0 _ fi (by omega) (by omega) ((mg_up_n _ _ (by decide)).trans hI1) (fun j hj => absurd hj (Nat.not_lt_zero _)) (fun _ _ => rfl)
            have hO2 : M2 1000 = some (moE (upd si 20 (nI ys.length)) x s) := (hfr _ (by decide)).trans (mg_up_s _ _ _)
            have U2 : ∀ k, k ≠ 1000 → k ≠ 1008 → M2 k = M k := fun k h1 h2 => (hfr k h2).trans (mg_up_n _ _ h1)
            first | refine mg_aload_n d_Mo_findKept_81 rfl rfl ?_ | refine mg_aload_nN d_Mo_findKept_81 rfl rfl ?_
            refine mg_iload_n d_Mo_findKept_82 rfl rfl ?_
            refine mg_iconst (v := 0) d_Mo_findKept_83 (by decide) ?_
            refine mg_callV (vl_Mo_161 rfl) d_Mo_findKept_84 (by first | assumption | exact mg_up_s _ _ _ | (rw [mg_up_n _ _ (by decide)]; first | assumption | exact mg_up_s _ _ _ | (rw [mg_up_n _ _ (by decide)]; first | assumption | exact mg_up_s _ _ _ | (rw [mg_up_n _ _ (by decide)]; first | assumption | exact mg_up_s _ _ _ | (rw [mg_up_n _ _ (by decide)]; first | assumption | exact mg_up_s _ _ _ | (rw [mg_up_n _ _ (by decide)]; first | assumption | exact mg_up_s _ _ _ | (rw [mg_up_n _ _ (by decide)]; first | assumption | exact mg_up_s _ _ _))))))) rfl rfl (c_Mo_go (gs := gs) (i := i) (g := g) (how := 0) hO2 ⟨f, hM, z4, hf⟩ pk_us (hWk.eq (fun k _ _ => U2 k (by omega) (by omega))) (a3.eq (fun k _ _ => U2 k (by omega) (by omega))) hw hg (okM0 hny)) rfl rfl (by rw [hR]; decide) (by rw [hR]; decide) (Nat.le_of_ble_eq_true rfl) ?_
            rintro v M4 ⟨rfl, si4, τ, lm, g1, g2, g3, g4, g5⟩
            have hrw := rw_of g3
            have hO5 := g1.1
            have U4 : ∀ k, k ≠ 1000 → (k < 1008 ∨ 1016 ≤ k) → M4 k = M k := fun k h1 h2 => (g5 k h1 (by omega)).trans (U2 k h1 (by omega))
            have V4 : ∀ k, k ≠ 10 → k ≠ 11 → k ≠ 12 → k ≠ 15 → k ≠ 20 → k ≠ 25 → si4 k = si k := fun k h1 h2 h3 h4 h5 h6 => (g4 k h1 h2 h3 h4 h6).trans (pk_un h5)
            first | refine mg_aload_n d_Mo_findKept_87 rfl rfl ?_ | refine mg_aload_nN d_Mo_findKept_87 rfl rfl ?_
            refine mg_iload_n d_Mo_findKept_88 rfl rfl ?_
            refine mg_callV (vl_Mo_164 rfl) d_Mo_findKept_89 (by first | assumption | exact mg_up_s _ _ _ | (rw [mg_up_n _ _ (by decide)]; first | assumption | exact mg_up_s _ _ _ | (rw [mg_up_n _ _ (by decide)]; first | assumption | exact mg_up_s _ _ _ | (rw [mg_up_n _ _ (by decide)]; first | assumption | exact mg_up_s _ _ _ | (rw [mg_up_n _ _ (by decide)]; first | assumption | exact mg_up_s _ _ _ | (rw [mg_up_n _ _ (by decide)]; first | assumption | exact mg_up_s _ _ _ | (rw [mg_up_n _ _ (by decide)]; first | assumption | exact mg_up_s _ _ _))))))) rfl rfl (c_Mo_does g1 (a4.eq (fun k _ _ => U4 k (by omega) (by omega))) hpl hp) rfl rfl (by rw [hR]; decide) (by rw [hR]; decide) (Nat.le_of_ble_eq_true rfl) ?_
            rintro v M5 ⟨rfl, rfl⟩
            refine mg_eqv (y := .int (vdC p (rowC gs i ys))) (congrArg Value.int (rw_vd hrw)) ?_
            refine mg_istore d_Mo_findKept_92 (Nat.le_of_ble_eq_true rfl) rfl ?_
            refine mg_iload d_Mo_findKept_94 rfl ?_
            refine mg_callS (sl_Mo_168 rfl) d_Mo_findKept_96 (c_Mo_isBad) rfl rfl (by rw [hR]; decide) (by rw [hR]; decide) (Nat.le_of_ble_eq_true rfl) ?_
            rintro v M6 ⟨rfl, rfl⟩
            refine mg_if_ne (tgt := 105) d_Mo_findKept_99 (by decide) (fun c_99 => ?_) (fun c_99 => ?_)
            · have hbd : isBd (vdC p (rowC gs i ys)) = true := bI_t c_99
              rw [if_pos hbd] at hr
              first | refine mg_aload_n d_Mo_findKept_105 rfl rfl ?_ | refine mg_aload_nN d_Mo_findKept_105 rfl rfl ?_
              refine mg_iload_n d_Mo_findKept_106 rfl rfl ?_
              refine mg_iload_n d_Mo_findKept_107 rfl rfl ?_
              refine mg_iload d_Mo_findKept_108 rfl ?_
              refine mg_callV (vl_Mo_171 rfl) d_Mo_findKept_110 (by first | assumption | exact mg_up_s _ _ _ | (rw [mg_up_n _ _ (by decide)]; first | assumption | exact mg_up_s _ _ _ | (rw [mg_up_n _ _ (by decide)]; first | assumption | exact mg_up_s _ _ _ | (rw [mg_up_n _ _ (by decide)]; first | assumption | exact mg_up_s _ _ _ | (rw [mg_up_n _ _ (by decide)]; first | assumption | exact mg_up_s _ _ _ | (rw [mg_up_n _ _ (by decide)]; first | assumption | exact mg_up_s _ _ _ | (rw [mg_up_n _ _ (by decide)]; first | assumption | exact mg_up_s _ _ _))))))) rfl rfl (c_Mo_find (g := nI i) (p := nI j) (its := vdC p (rowC gs i ys)) g1 ⟨tf, (U4 _ (by decide) (by decide)).trans e2⟩ ⟨ff, (U4 _ (by decide) (by decide)).trans b2⟩) rfl rfl (by rw [hR]; decide) (by rw [hR]; decide) (Nat.le_of_ble_eq_true rfl) ?_
              rintro v M7 ⟨rfl, t1, t2, t3, t4⟩
              refine mg_iconst (v := 1) d_Mo_findKept_113 (by decide) ?_
              subst hr
              have hni : (rowC gs i ys).2.2 = false := by
                cases e : (rowC gs i ys).2.2 with
                | false => rfl
                | true => rw [vdC, if_pos e] at hbd; exact absurd hbd (by decide)
              exact mg_ireturn d_Mo_findKept_114 rfl rfl (Nat.le_of_ble_eq_true rfl) (Nat.le_of_ble_eq_true rfl) ⟨rfl, ⟨_, _, t1, isMoS.found hS g1 g2 (fun k h1 h2 h3 h4 h5 h6 h7 => V4 k h1 h2 h3 h5 h6 h7) U4 t2 t3 t4 hrw.1 (rw_tl' hrw hni)⟩, fun k hk => (t4 k (by omega) (by omega) (by omega)).trans ((U4 k (by omega) (by omega)).trans (hs0 k hk))⟩
            · have hbd : isBd (vdC p (rowC gs i ys)) = false := bI_f (by first | exact c_99 | exact Decidable.not_not.mp c_99)
              rw [if_neg (by rw [hbd]; decide)] at hr
              refine mg_goto (tgt := 115) d_Mo_findKept_102 (by decide) ?_
              refine mg_iinc (v := nI m - 1) d_Mo_findKept_115 rfl (by rw [Int32.sub_eq_add_neg]; rfl) (Nat.le_of_ble_eq_true rfl) rfl ?_
              refine mg_goto (tgt := 7) d_Mo_findKept_118 (by decide) ?_
              first
              | exact ih M si x _ (by omega) hO hS hWk hI hs0 (by first | exact Or.inl rfl | exact Or.inr ⟨_, rfl⟩) hr
              | exact ih _ si4 _ _ (by omega) hO5 (hS.fr (fun k hk => V4 k (by omega) (by omega) (by omega) (by omega) (by omega) (by omega)) (fun k hk => U4 k (by omega) (by omega))) g2 ⟨ys, g1.2.2.2.2.2.2.2.2.1, g1.2.2.2.2.2.2.2.1⟩ (fun k hk => (U4 k (by omega) (by omega)).trans (hs0 k hk)) (Or.inr ⟨_, rfl⟩) hr
          · rw [if_neg (fun e => c_28 e.2)] at hr
            refine mg_goto (tgt := 115) d_Mo_findKept_31 (by decide) ?_
            refine mg_iinc (v := nI m - 1) d_Mo_findKept_115 rfl (by rw [Int32.sub_eq_add_neg]; rfl) (Nat.le_of_ble_eq_true rfl) rfl ?_
            refine mg_goto (tgt := 7) d_Mo_findKept_118 (by decide) ?_
            first
            | exact ih M si x _ (by omega) hO hS hWk hI hs0 (by first | exact Or.inl rfl | exact Or.inr ⟨_, rfl⟩) hr
            | exact ih _ si4 _ _ (by omega) hO5 (hS.fr (fun k hk => V4 k (by omega) (by omega) (by omega) (by omega) (by omega) (by omega)) (fun k hk => U4 k (by omega) (by omega))) g2 ⟨ys, g1.2.2.2.2.2.2.2.2.1, g1.2.2.2.2.2.2.2.1⟩ (fun k hk => (U4 k (by omega) (by omega)).trans (hs0 k hk)) (Or.inr ⟨_, rfl⟩) hr
    · refine mg_iload_n d_Mo_findKept_7 rfl rfl ?_
      refine mg_if_lt (tgt := 121) d_Mo_findKept_8 (by decide) (fun c_8 => ?_) (fun c_8 => ?_)
      · exact absurd c_8 (nI_pos (by omega))
      · first | refine mg_aload_n d_Mo_findKept_11 rfl rfl ?_ | refine mg_aload_nN d_Mo_findKept_11 rfl rfl ?_
        refine mg_getfield fl_Mo_62 d_Mo_findKept_12 (by first | assumption | exact mg_up_s _ _ _ | (rw [mg_up_n _ _ (by decide)]; first | assumption | exact mg_up_s _ _ _ | (rw [mg_up_n _ _ (by decide)]; first | assumption | exact mg_up_s _ _ _ | (rw [mg_up_n _ _ (by decide)]; first | assumption | exact mg_up_s _ _ _ | (rw [mg_up_n _ _ (by decide)]; first | assumption | exact mg_up_s _ _ _ | (rw [mg_up_n _ _ (by decide)]; first | assumption | exact mg_up_s _ _ _ | (rw [mg_up_n _ _ (by decide)]; first | assumption | exact mg_up_s _ _ _))))))) rfl ?_
        refine mg_iload_n d_Mo_findKept_15 rfl rfl ?_
        refine mg_iaload rfl d_Mo_findKept_16 (by first | assumption | exact mg_up_s _ _ _ | (rw [mg_up_n _ _ (by decide)]; first | assumption | exact mg_up_s _ _ _ | (rw [mg_up_n _ _ (by decide)]; first | assumption | exact mg_up_s _ _ _ | (rw [mg_up_n _ _ (by decide)]; first | assumption | exact mg_up_s _ _ _ | (rw [mg_up_n _ _ (by decide)]; first | assumption | exact mg_up_s _ _ _ | (rw [mg_up_n _ _ (by decide)]; first | assumption | exact mg_up_s _ _ _ | (rw [mg_up_n _ _ (by decide)]; first | assumption | exact mg_up_s _ _ _))))))) hin ?_
        refine mg_eqi (y := ka) (by rw [nI_clamp (by omega)]; exact z1) ?_
        refine mg_iload_n d_Mo_findKept_17 rfl rfl ?_
        refine mg_icmp_ne (tgt := 115) d_Mo_findKept_18 (by decide) (fun c_18 => ?_) (fun c_18 => ?_)
        · rw [if_neg (fun e => c_18 e.1)] at hr
          refine mg_iinc (v := nI m - 1) d_Mo_findKept_115 rfl (by rw [Int32.sub_eq_add_neg]; rfl) (Nat.le_of_ble_eq_true rfl) rfl ?_
          refine mg_goto (tgt := 7) d_Mo_findKept_118 (by decide) ?_
          first
          | exact ih M si x _ (by omega) hO hS hWk hI hs0 (by first | exact Or.inl rfl | exact Or.inr ⟨_, rfl⟩) hr
          | exact ih _ si4 _ _ (by omega) hO5 (hS.fr (fun k hk => V4 k (by omega) (by omega) (by omega) (by omega) (by omega) (by omega)) (fun k hk => U4 k (by omega) (by omega))) g2 ⟨ys, g1.2.2.2.2.2.2.2.2.1, g1.2.2.2.2.2.2.2.1⟩ (fun k hk => (U4 k (by omega) (by omega)).trans (hs0 k hk)) (Or.inr ⟨_, rfl⟩) hr
        · first | refine mg_aload_n d_Mo_findKept_21 rfl rfl ?_ | refine mg_aload_nN d_Mo_findKept_21 rfl rfl ?_
          refine mg_getfield fl_Mo_65 d_Mo_findKept_22 (by first | assumption | exact mg_up_s _ _ _ | (rw [mg_up_n _ _ (by decide)]; first | assumption | exact mg_up_s _ _ _ | (rw [mg_up_n _ _ (by decide)]; first | assumption | exact mg_up_s _ _ _ | (rw [mg_up_n _ _ (by decide)]; first | assumption | exact mg_up_s _ _ _ | (rw [mg_up_n _ _ (by decide)]; first | assumption | exact mg_up_s _ _ _ | (rw [mg_up_n _ _ (by decide)]; first | assumption | exact mg_up_s _ _ _ | (rw [mg_up_n _ _ (by decide)]; first | assumption | exact mg_up_s _ _ _))))))) rfl ?_
          refine mg_iload_n d_Mo_findKept_25 rfl rfl ?_
          refine mg_iaload rfl d_Mo_findKept_26 (by first | assumption | exact mg_up_s _ _ _ | (rw [mg_up_n _ _ (by decide)]; first | assumption | exact mg_up_s _ _ _ | (rw [mg_up_n _ _ (by decide)]; first | assumption | exact mg_up_s _ _ _ | (rw [mg_up_n _ _ (by decide)]; first | assumption | exact mg_up_s _ _ _ | (rw [mg_up_n _ _ (by decide)]; first | assumption | exact mg_up_s _ _ _ | (rw [mg_up_n _ _ (by decide)]; first | assumption | exact mg_up_s _ _ _ | (rw [mg_up_n _ _ (by decide)]; first | assumption | exact mg_up_s _ _ _))))))) hin ?_
          refine mg_eqi (y := kb) (by rw [nI_clamp (by omega)]; exact z2) ?_
          refine mg_iload_n d_Mo_findKept_27 rfl rfl ?_
          refine mg_icmp_eq (tgt := 34) d_Mo_findKept_28 (by decide) (fun c_28 => ?_) (fun c_28 => ?_)
          · rw [if_pos ⟨(by first | exact c_18 | exact Decidable.not_not.mp c_18), c_28⟩] at hr
            first | refine mg_aload_n d_Mo_findKept_34 rfl rfl ?_ | refine mg_aload_nN d_Mo_findKept_34 rfl rfl ?_
            first | refine mg_aload_n d_Mo_findKept_35 rfl rfl ?_ | refine mg_aload_nN d_Mo_findKept_35 rfl rfl ?_
            refine mg_getfield fl_Mo_68 d_Mo_findKept_36 (by first | assumption | exact mg_up_s _ _ _ | (rw [mg_up_n _ _ (by decide)]; first | assumption | exact mg_up_s _ _ _ | (rw [mg_up_n _ _ (by decide)]; first | assumption | exact mg_up_s _ _ _ | (rw [mg_up_n _ _ (by decide)]; first | assumption | exact mg_up_s _ _ _ | (rw [mg_up_n _ _ (by decide)]; first | assumption | exact mg_up_s _ _ _ | (rw [mg_up_n _ _ (by decide)]; first | assumption | exact mg_up_s _ _ _ | (rw [mg_up_n _ _ (by decide)]; first | assumption | exact mg_up_s _ _ _))))))) rfl ?_
            refine mg_iload_n d_Mo_findKept_39 rfl rfl ?_
            refine mg_iaload rfl d_Mo_findKept_40 (by first | assumption | exact mg_up_s _ _ _ | (rw [mg_up_n _ _ (by decide)]; first | assumption | exact mg_up_s _ _ _ | (rw [mg_up_n _ _ (by decide)]; first | assumption | exact mg_up_s _ _ _ | (rw [mg_up_n _ _ (by decide)]; first | assumption | exact mg_up_s _ _ _ | (rw [mg_up_n _ _ (by decide)]; first | assumption | exact mg_up_s _ _ _ | (rw [mg_up_n _ _ (by decide)]; first | assumption | exact mg_up_s _ _ _ | (rw [mg_up_n _ _ (by decide)]; first | assumption | exact mg_up_s _ _ _))))))) hin ?_
            refine mg_eqi (y := nI ys.length) (by rw [nI_clamp (by omega)]; exact z3) ?_
            refine mg_putfield (fw_Mo_111 _) d_Mo_findKept_41 (by first | assumption | exact mg_up_s _ _ _ | (rw [mg_up_n _ _ (by decide)]; first | assumption | exact mg_up_s _ _ _ | (rw [mg_up_n _ _ (by decide)]; first | assumption | exact mg_up_s _ _ _ | (rw [mg_up_n _ _ (by decide)]; first | assumption | exact mg_up_s _ _ _ | (rw [mg_up_n _ _ (by decide)]; first | assumption | exact mg_up_s _ _ _ | (rw [mg_up_n _ _ (by decide)]; first | assumption | exact mg_up_s _ _ _ | (rw [mg_up_n _ _ (by decide)]; first | assumption | exact mg_up_s _ _ _))))))) (Nat.le_of_ble_eq_true rfl) (fun _ => ⟨rfl, rfl⟩) ?_
            refine mg_eqM (M' := mg_up M 1000 (moE (upd si 20 (nI ys.length)) x s)) rfl ?_
            refine mg_iconst (v := 0) d_Mo_findKept_44 (by decide) ?_
            refine mg_istore d_Mo_findKept_45 (Nat.le_of_ble_eq_true rfl) rfl ?_
            refine cp_fk (si := upd si 20 (nI ys.length)) (L := ys) (sf := kf) (by omega) z5 (mg_up_s _ _ _) pk_us z4 ((mg_up_n _ _ (by decide)).trans q4) (fun M2 f hM hf hfr => ?_) (ys.length + 1) 0 _ fi (by omega) (by omega) ((mg_up_n _ _ (by decide)).trans hI1) (fun j hj => absurd hj (Nat.not_lt_zero _)) (fun _ _ => rfl)
            have hO2 : M2 1000 = some (moE (upd si 20 (nI ys.length)) x s) := (hfr _ (by decide)).trans (mg_up_s _ _ _)
            have U2 : ∀ k, k ≠ 1000 → k ≠ 1008 → M2 k = M k := fun k h1 h2 => (hfr k h2).trans (mg_up_n _ _ h1)
            first | refine mg_aload_n d_Mo_findKept_81 rfl rfl ?_ | refine mg_aload_nN d_Mo_findKept_81 rfl rfl ?_
            refine mg_iload_n d_Mo_findKept_82 rfl rfl ?_
            refine mg_iconst (v := 0) d_Mo_findKept_83 (by decide) ?_
            refine mg_callV (vl_Mo_161 rfl) d_Mo_findKept_84 (by first | assumption | exact mg_up_s _ _ _ | (rw [mg_up_n _ _ (by decide)]; first | assumption | exact mg_up_s _ _ _ | (rw [mg_up_n _ _ (by decide)]; first | assumption | exact mg_up_s _ _ _ | (rw [mg_up_n _ _ (by decide)]; first | assumption | exact mg_up_s _ _ _ | (rw [mg_up_n _ _ (by decide)]; first | assumption | exact mg_up_s _ _ _ | (rw [mg_up_n _ _ (by decide)]; first | assumption | exact mg_up_s _ _ _ | (rw [mg_up_n _ _ (by decide)]; first | assumption | exact mg_up_s _ _ _))))))) rfl rfl (c_Mo_go (gs := gs) (i := i) (g := g) (how := 0) hO2 ⟨f, hM, z4, hf⟩ pk_us (hWk.eq (fun k _ _ => U2 k (by omega) (by omega))) (a3.eq (fun k _ _ => U2 k (by omega) (by omega))) hw hg (okM0 hny)) rfl rfl (by rw [hR]; decide) (by rw [hR]; decide) (Nat.le_of_ble_eq_true rfl) ?_
            rintro v M4 ⟨rfl, si4, τ, lm, g1, g2, g3, g4, g5⟩
            have hrw := rw_of g3
            have hO5 := g1.1
            have U4 : ∀ k, k ≠ 1000 → (k < 1008 ∨ 1016 ≤ k) → M4 k = M k := fun k h1 h2 => (g5 k h1 (by omega)).trans (U2 k h1 (by omega))
            have V4 : ∀ k, k ≠ 10 → k ≠ 11 → k ≠ 12 → k ≠ 15 → k ≠ 20 → k ≠ 25 → si4 k = si k := fun k h1 h2 h3 h4 h5 h6 => (g4 k h1 h2 h3 h4 h6).trans (pk_un h5)
            first | refine mg_aload_n d_Mo_findKept_87 rfl rfl ?_ | refine mg_aload_nN d_Mo_findKept_87 rfl rfl ?_
            refine mg_iload_n d_Mo_findKept_88 rfl rfl ?_
            refine mg_callV (vl_Mo_164 rfl) d_Mo_findKept_89 (by first | assumption | exact mg_up_s _ _ _ | (rw [mg_up_n _ _ (by decide)]; first | assumption | exact mg_up_s _ _ _ | (rw [mg_up_n _ _ (by decide)]; first | assumption | exact mg_up_s _ _ _ | (rw [mg_up_n _ _ (by decide)]; first | assumption | exact mg_up_s _ _ _ | (rw [mg_up_n _ _ (by decide)]; first | assumption | exact mg_up_s _ _ _ | (rw [mg_up_n _ _ (by decide)]; first | assumption | exact mg_up_s _ _ _ | (rw [mg_up_n _ _ (by decide)]; first | assumption | exact mg_up_s _ _ _))))))) rfl rfl (c_Mo_does g1 (a4.eq (fun k _ _ => U4 k (by omega) (by omega))) hpl hp) rfl rfl (by rw [hR]; decide) (by rw [hR]; decide) (Nat.le_of_ble_eq_true rfl) ?_
            rintro v M5 ⟨rfl, rfl⟩
            refine mg_eqv (y := .int (vdC p (rowC gs i ys))) (congrArg Value.int (rw_vd hrw)) ?_
            refine mg_istore d_Mo_findKept_92 (Nat.le_of_ble_eq_true rfl) rfl ?_
            refine mg_iload d_Mo_findKept_94 rfl ?_
            refine mg_callS (sl_Mo_168 rfl) d_Mo_findKept_96 (c_Mo_isBad) rfl rfl (by rw [hR]; decide) (by rw [hR]; decide) (Nat.le_of_ble_eq_true rfl) ?_
            rintro v M6 ⟨rfl, rfl⟩
            refine mg_if_ne (tgt := 105) d_Mo_findKept_99 (by decide) (fun c_99 => ?_) (fun c_99 => ?_)
            · have hbd : isBd (vdC p (rowC gs i ys)) = true := bI_t c_99
              rw [if_pos hbd] at hr
              first | refine mg_aload_n d_Mo_findKept_105 rfl rfl ?_ | refine mg_aload_nN d_Mo_findKept_105 rfl rfl ?_
              refine mg_iload_n d_Mo_findKept_106 rfl rfl ?_
              refine mg_iload_n d_Mo_findKept_107 rfl rfl ?_
              refine mg_iload d_Mo_findKept_108 rfl ?_
              refine mg_callV (vl_Mo_171 rfl) d_Mo_findKept_110 (by first | assumption | exact mg_up_s _ _ _ | (rw [mg_up_n _ _ (by decide)]; first | assumption | exact mg_up_s _ _ _ | (rw [mg_up_n _ _ (by decide)]; first | assumption | exact mg_up_s _ _ _ | (rw [mg_up_n _ _ (by decide)]; first | assumption | exact mg_up_s _ _ _ | (rw [mg_up_n _ _ (by decide)]; first | assumption | exact mg_up_s _ _ _ | (rw [mg_up_n _ _ (by decide)]; first | assumption | exact mg_up_s _ _ _ | (rw [mg_up_n _ _ (by decide)]; first | assumption | exact mg_up_s _ _ _))))))) rfl rfl (c_Mo_find (g := nI i) (p := nI j) (its := vdC p (rowC gs i ys)) g1 ⟨tf, (U4 _ (by decide) (by decide)).trans e2⟩ ⟨ff, (U4 _ (by decide) (by decide)).trans b2⟩) rfl rfl (by rw [hR]; decide) (by rw [hR]; decide) (Nat.le_of_ble_eq_true rfl) ?_
              rintro v M7 ⟨rfl, t1, t2, t3, t4⟩
              refine mg_iconst (v := 1) d_Mo_findKept_113 (by decide) ?_
              subst hr
              have hni : (rowC gs i ys).2.2 = false := by
                cases e : (rowC gs i ys).2.2 with
                | false => rfl
                | true => rw [vdC, if_pos e] at hbd; exact absurd hbd (by decide)
              exact mg_ireturn d_Mo_findKept_114 rfl rfl (Nat.le_of_ble_eq_true rfl) (Nat.le_of_ble_eq_true rfl) ⟨rfl, ⟨_, _, t1, isMoS.found hS g1 g2 (fun k h1 h2 h3 h4 h5 h6 h7 => V4 k h1 h2 h3 h5 h6 h7) U4 t2 t3 t4 hrw.1 (rw_tl' hrw hni)⟩, fun k hk => (t4 k (by omega) (by omega) (by omega)).trans ((U4 k (by omega) (by omega)).trans (hs0 k hk))⟩
            · have hbd : isBd (vdC p (rowC gs i ys)) = false := bI_f (by first | exact c_99 | exact Decidable.not_not.mp c_99)
              rw [if_neg (by rw [hbd]; decide)] at hr
              refine mg_goto (tgt := 115) d_Mo_findKept_102 (by decide) ?_
              refine mg_iinc (v := nI m - 1) d_Mo_findKept_115 rfl (by rw [Int32.sub_eq_add_neg]; rfl) (Nat.le_of_ble_eq_true rfl) rfl ?_
              refine mg_goto (tgt := 7) d_Mo_findKept_118 (by decide) ?_
              first
              | exact ih M si x _ (by omega) hO hS hWk hI hs0 (by first | exact Or.inl rfl | exact Or.inr ⟨_, rfl⟩) hr
              | exact ih _ si4 _ _ (by omega) hO5 (hS.fr (fun k hk => V4 k (by omega) (by omega) (by omega) (by omega) (by omega) (by omega)) (fun k hk => U4 k (by omega) (by omega))) g2 ⟨ys, g1.2.2.2.2.2.2.2.2.1, g1.2.2.2.2.2.2.2.1⟩ (fun k hk => (U4 k (by omega) (by omega)).trans (hs0 k hk)) (Or.inr ⟨_, rfl⟩) hr
          · rw [if_neg (fun e => c_28 e.2)] at hr
            refine mg_goto (tgt := 115) d_Mo_findKept_31 (by decide) ?_
            refine mg_iinc (v := nI m - 1) d_Mo_findKept_115 rfl (by rw [Int32.sub_eq_add_neg]; rfl) (Nat.le_of_ble_eq_true rfl) rfl ?_
            refine mg_goto (tgt := 7) d_Mo_findKept_118 (by decide) ?_
            first
            | exact ih M si x _ (by omega) hO hS hWk hI hs0 (by first | exact Or.inl rfl | exact Or.inr ⟨_, rfl⟩) hr
            | exact ih _ si4 _ _ (by omega) hO5 (hS.fr (fun k hk => V4 k (by omega) (by omega) (by omega) (by omega) (by omega) (by omega)) (fun k hk => U4 k (by omega) (by omega))) g2 ⟨ys, g1.2.2.2.2.2.2.2.2.1, g1.2.2.2.2.2.2.2.1⟩ (fun k hk => (U4 k (by omega) (by omega)).trans (hs0 k hk)) (Or.inr ⟨_, rfl⟩) hr

set_option maxHeartbeats 4000000 in
set_option maxRecDepth 100000 in
theorem c_Mo_findKept {M : mg_M} {gs : List gN} {ps : List pN} {ks : List kN} {wa : Nat} {fo : fO} {le : Bool} {row nu pu : List Int32} {s : Int64} {si : Nat → Int32} {x : Int64} {i j : Nat} {g : gN} {p : pN} (hO : M 1000 = some (moE si x s)) (hS : isMoS M si gs ps ks wa fo le row nu pu) (hWk : isWk M) (hI : ∃ gv, isA M 1008 60 gv ∧ si 20 = nI gv.length) (hw : wfG gs) (hg : gs[i]? = some g) (hpl : ps.length ≤ 10) (hp : ps[j]? = some p) (hkl : ks.length ≤ 200) (hkn : ∀ k ∈ ks, nnL k.2.2) : mg_Ct Y_Mo_findKept { frames := 4, cells := 0, slots := 0, locals := 93 } [.ref 1000, .int (nI i), .int (nI j)] M (fkQ M gs ps ks wa fo le row nu pu s i j (findKC gs p i (nI i) (nI j) ks ks.length)) := by
  refine mg_met [some (.ref 1000), some (.int (nI i)), some (.int (nI j)), none, none] (by decide +kernel) rfl (Nat.le_of_ble_eq_true rfl) ?_
  intro X hR _
  first | refine mg_aload_n d_Mo_findKept_0 rfl rfl ?_ | refine mg_aload_nN d_Mo_findKept_0 rfl rfl ?_
  refine mg_getfield fl_Mo_158 d_Mo_findKept_1 (by first | assumption | exact mg_up_s _ _ _ | (rw [mg_up_n _ _ (by decide)]; first | assumption | exact mg_up_s _ _ _ | (rw [mg_up_n _ _ (by decide)]; first | assumption | exact mg_up_s _ _ _ | (rw [mg_up_n _ _ (by decide)]; first | assumption | exact mg_up_s _ _ _ | (rw [mg_up_n _ _ (by decide)]; first | assumption | exact mg_up_s _ _ _ | (rw [mg_up_n _ _ (by decide)]; first | assumption | exact mg_up_s _ _ _ | (rw [mg_up_n _ _ (by decide)]; first | assumption | exact mg_up_s _ _ _))))))) rfl ?_
  refine mg_iconst (v := 1) d_Mo_findKept_4 (by decide) ?_
  refine mg_isub d_Mo_findKept_5 ?_
  refine mg_istore_n d_Mo_findKept_6 rfl (Nat.le_of_ble_eq_true rfl) rfl ?_
  refine mg_eql (lv' := [some (.ref 1000), some (.int (nI i)), some (.int (nI j)), some (.int (nI ks.length - 1)), none]) (by rw [hS.2.2.1.1]; rfl) ?_
  exact lp_fk hR hw hg hpl hp hkl hkn ks.length M si x none (Nat.le_refl _) hO hS hWk hI sm.rf (Or.inl rfl) rfl

