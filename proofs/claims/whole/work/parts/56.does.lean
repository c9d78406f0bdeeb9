/-! THE REFERENCE: does, tell, find, copy -/
def isPM (M : mg_M) (ps : List pN) : Prop := ∃ f1 f2 f3 : Nat → Int32, M 1005 = some (iaE 10 f1) ∧ M 1006 = some (iaE 10 f2) ∧ M 1007 = some (iaE 10 f3) ∧ ∀ (i : Nat) (p : pN), ps[i]? = some p → f1 i = p.1 ∧ f2 i = p.2.1 ∧ f3 i = p.2.2
theorem has_drop {l : List Int32} {i : Nat} {k : Int32} (h : i < l.length) : hasL (l.drop i) k = (decide (l.getD i 0 = k) || hasL (l.drop (i + 1)) k) := by
  rw [drop_cons h]
  show ((l.getD i 0 == k) || _) = _
  congr 1
theorem fall_drop {l : List Int32} {i : Nat} (h : i + 1 < l.length) : fallL (l.drop i) = (decide (l.getD (i + 1) 0 < l.getD i 0) || fallL (l.drop (i + 1))) := by
  rw [drop_cons (show i < l.length by omega), drop_cons h, fallL]
theorem fall_end {l : List Int32} {i : Nat} (h : l.length ≤ i + 1) : fallL (l.drop i) = false := by
  rcases Nat.lt_or_ge i l.length with q | q
  · rw [drop_cons q, List.drop_of_length_le h]; rfl
  · rw [List.drop_of_length_le q]; rfl
def tlL (σ : dS) : List Int32 := if σ.2.2.1 = true then [] else σ.2.1

set_option maxHeartbeats 4000000 in
set_option maxRecDepth 100000 in
theorem lp_Mo_does {X : mg_X} {M : mg_M} {si : Nat → Int32} {x s : Int64} {md : dM} {σ : dS} {Q : State → Prop} {j : Nat} {k : Int32} {R1 : Int64} {R2 R3 : Bool} (h : isRun M si x s md σ) (kk : mg_G X Y_Mo_does Q M 0 0 127 [some (.ref 1000), some (.int (nI j)), some (.int k), some (.long R1), none, some (.int (bI R2)), some (.int (bI R3)), some (.int (nI σ.2.1.length))] []) : ∀ n : Nat, ∀ (i : Nat) (t : Int64) (hs fl : Bool), σ.2.1.length - i < n → i ≤ σ.2.1.length → sumF t (σ.2.1.drop i) = R1 → (hs || hasL (σ.2.1.drop i) k) = R2 → (fl || fallL (σ.2.1.drop (i - 1))) = R3 → mg_G X Y_Mo_does Q M 0 0 42 [some (.ref 1000), some (.int (nI j)), some (.int k), some (.long t), none, some (.int (bI hs)), some (.int (bI fl)), some (.int (nI i))] [] := by
  intro n
  induction n with
  | zero =>
    intro i t hs fl hn hi r1 r2 r3
    exact absurd hn (by omega)
  | succ n ih =>
    intro i t hs fl hn hi r1 r2 r3
    obtain ⟨a1, a2, a3, a4, a5, a6, a7, a8, a9, a10, a11, ⟨nf, n1, n2, n3⟩⟩ := id h
    refine mg_iload d_Mo_does_42 rfl ?_
    first | refine mg_aload_n d_Mo_does_44 rfl rfl ?_ | refine mg_aload_nN d_Mo_does_44 rfl rfl ?_
    refine mg_getfield fl_Mo_124 d_Mo_does_45 (by first | assumption | exact mg_up_s _ _ _ | (rw [mg_up_n _ _ (by decide)]; first | assumption | exact mg_up_s _ _ _ | (rw [mg_up_n _ _ (by decide)]; first | assumption | exact mg_up_s _ _ _ | (rw [mg_up_n _ _ (by decide)]; first | assumption | exact mg_up_s _ _ _ | (rw [mg_up_n _ _ (by decide)]; first | assumption | exact mg_up_s _ _ _ | (rw [mg_up_n _ _ (by decide)]; first | assumption | exact mg_up_s _ _ _ | (rw [mg_up_n _ _ (by decide)]; first | assumption | exact mg_up_s _ _ _))))))) rfl ?_
    refine mg_icmp_ge (tgt := 127) d_Mo_does_48 (by decide) (fun c_48 => ?_) (fun c_48 => ?_)
    · have e : i = σ.2.1.length := by
        rw [a4] at c_48
        have := (nI_leI (by omega) (by omega)).mp c_48
        omega
      subst e
      rw [List.drop_of_length_le (Nat.le_refl _)] at r1 r2
      rw [fall_end (by omega), Bool.or_false] at r3
      have r1' : t = R1 := r1
      have r2' : hs = R2 := by rw [← r2]; exact (Bool.or_false _).symm
      subst r1'; subst r2'; subst r3
      exact kk
    · have hi2 : i < σ.2.1.length := by
        rw [a4] at c_48
        exact Nat.lt_of_not_le (fun q => c_48 (nI_le q (by omega)))
      have hin : vp_in (nI i) 60 := nIw hi2 n2
      rw [has_drop hi2] at r2
      rw [drop_cons hi2] at r1
      refine mg_lload_n d_Mo_does_51 rfl rfl ?_
      first | refine mg_aload_n d_Mo_does_52 rfl rfl ?_ | refine mg_aload_nN d_Mo_does_52 rfl rfl ?_
      refine mg_getfield fl_Mo_40 d_Mo_does_53 (by first | assumption | exact mg_up_s _ _ _ | (rw [mg_up_n _ _ (by decide)]; first | assumption | exact mg_up_s _ _ _ | (rw [mg_up_n _ _ (by decide)]; first | assumption | exact mg_up_s _ _ _ | (rw [mg_up_n _ _ (by decide)]; first | assumption | exact mg_up_s _ _ _ | (rw [mg_up_n _ _ (by decide)]; first | assumption | exact mg_up_s _ _ _ | (rw [mg_up_n _ _ (by decide)]; first | assumption | exact mg_up_s _ _ _ | (rw [mg_up_n _ _ (by decide)]; first | assumption | exact mg_up_s _ _ _))))))) rfl ?_
      refine mg_iload d_Mo_does_56 rfl ?_
      refine mg_iaload rfl d_Mo_does_58 (by first | assumption | exact mg_up_s _ _ _ | (rw [mg_up_n _ _ (by decide)]; first | assumption | exact mg_up_s _ _ _ | (rw [mg_up_n _ _ (by decide)]; first | assumption | exact mg_up_s _ _ _ | (rw [mg_up_n _ _ (by decide)]; first | assumption | exact mg_up_s _ _ _ | (rw [mg_up_n _ _ (by decide)]; first | assumption | exact mg_up_s _ _ _ | (rw [mg_up_n _ _ (by decide)]; first | assumption | exact mg_up_s _ _ _ | (rw [mg_up_n _ _ (by decide)]; first | assumption | exact mg_up_s _ _ _))))))) (by assumption) ?_
      refine mg_eqi (y := σ.2.1.getD i 0) (by rw [nI_clamp (by omega)]; exact n3 i hi2) ?_
      refine mg_i2l d_Mo_does_59 ?_
      refine mg_ladd d_Mo_does_60 ?_
      refine mg_lstore_n d_Mo_does_61 rfl (Nat.le_of_ble_eq_true rfl) rfl ?_
      refine mg_iload d_Mo_does_62 rfl ?_
      refine mg_if_ne (tgt := 78) d_Mo_does_64 (by decide) (fun c_64 => ?_) (fun c_64 => ?_)
      · have g1 : hs = true := bI_t c_64
        refine mg_iconst (v := 1) d_Mo_does_78 (by decide) ?_
        refine mg_goto (tgt := 83) d_Mo_does_79 (by decide) ?_
        refine mg_eqi (y := bI (hs || decide (σ.2.1.getD i 0 = k))) (by first | (rw [g1]; rfl) | (rw [g1, decide_eq_true (show σ.2.1.getD i 0 = k by first | exact c_75 | exact Decidable.not_not.mp c_75)]; rfl) | (rw [g1, decide_eq_false c_75]; rfl)) ?_
        refine mg_istore d_Mo_does_83 (Nat.le_of_ble_eq_true rfl) rfl ?_
        refine mg_iload d_Mo_does_85 rfl ?_
        refine mg_if_ne (tgt := 114) d_Mo_does_87 (by decide) (fun c_87 => ?_) (fun c_87 => ?_)
        · have g2 : fl = true := bI_t c_87
          have ef : (true || fallL (σ.2.1.drop i)) = R3 := by rw [← r3, g2, Bool.true_or, Bool.true_or]
          refine mg_iconst (v := 1) d_Mo_does_114 (by decide) ?_
          refine mg_goto (tgt := 119) d_Mo_does_115 (by decide) ?_
          first | refine mg_eqi (y := bI true) rfl ?_ | refine mg_eqi (y := bI false) rfl ?_
          refine mg_istore d_Mo_does_119 (Nat.le_of_ble_eq_true rfl) rfl ?_
          refine mg_iinc (v := nI (i + 1)) d_Mo_does_121 rfl (nI_1 _) (Nat.le_of_ble_eq_true rfl) rfl ?_
          refine mg_goto (tgt := 42) d_Mo_does_124 (by decide) ?_
          exact ih (i + 1) _ _ _ (by omega) (by omega) r1 (by rw [Bool.or_assoc]; exact r2) ef
        · have g2 : fl = false := bI_f (by first | exact c_87 | exact Decidable.not_not.mp c_87)
          refine mg_iload d_Mo_does_90 rfl ?_
          refine mg_if_le (tgt := 118) d_Mo_does_92 (by decide) (fun c_92 => ?_) (fun c_92 => ?_)
          · have g3 : i = 0 := by
              have := (nI_leI (b := 0) (by omega) (by decide)).mp c_92
              omega
            have ef : (false || fallL (σ.2.1.drop i)) = R3 := by rw [← r3, g3, g2]
            refine mg_iconst (v := 0) d_Mo_does_118 (by decide) ?_
            first | refine mg_eqi (y := bI true) rfl ?_ | refine mg_eqi (y := bI false) rfl ?_
            refine mg_istore d_Mo_does_119 (Nat.le_of_ble_eq_true rfl) rfl ?_
            refine mg_iinc (v := nI (i + 1)) d_Mo_does_121 rfl (nI_1 _) (Nat.le_of_ble_eq_true rfl) rfl ?_
            refine mg_goto (tgt := 42) d_Mo_does_124 (by decide) ?_
            exact ih (i + 1) _ _ _ (by omega) (by omega) r1 (by rw [Bool.or_assoc]; exact r2) ef
          · have g3 : 0 < i := by
              rcases Nat.eq_zero_or_pos i with q | q
              · exact absurd (by rw [q]; decide) c_92
              · exact q
            have hin3 : vp_in (nI (i - 1)) 60 := nIw (j := i - 1) (n := σ.2.1.length) (by omega) n2
            have hfd := fall_drop (l := σ.2.1) (i := i - 1) (by omega)
            rw [show i - 1 + 1 = i by omega] at hfd
            first | refine mg_aload_n d_Mo_does_95 rfl rfl ?_ | refine mg_aload_nN d_Mo_does_95 rfl rfl ?_
            refine mg_getfield fl_Mo_40 d_Mo_does_96 (by first | assumption | exact mg_up_s _ _ _ | (rw [mg_up_n _ _ (by decide)]; first | assumption | exact mg_up_s _ _ _ | (rw [mg_up_n _ _ (by decide)]; first | assumption | exact mg_up_s _ _ _ | (rw [mg_up_n _ _ (by decide)]; first | assumption | exact mg_up_s _ _ _ | (rw [mg_up_n _ _ (by decide)]; first | assumption | exact mg_up_s _ _ _ | (rw [mg_up_n _ _ (by decide)]; first | assumption | exact mg_up_s _ _ _ | (rw [mg_up_n _ _ (by decide)]; first | assumption | exact mg_up_s _ _ _))))))) rfl ?_
            refine mg_iload d_Mo_does_99 rfl ?_
            refine mg_iaload rfl d_Mo_does_101 (by first | assumption | exact mg_up_s _ _ _ | (rw [mg_up_n _ _ (by decide)]; first | assumption | exact mg_up_s _ _ _ | (rw [mg_up_n _ _ (by decide)]; first | assumption | exact mg_up_s _ _ _ | (rw [mg_up_n _ _ (by decide)]; first | assumption | exact mg_up_s _ _ _ | (rw [mg_up_n _ _ (by decide)]; first | assumption | exact mg_up_s _ _ _ | (rw [mg_up_n _ _ (by decide)]; first | assumption | exact mg_up_s _ _ _ | (rw [mg_up_n _ _ (by decide)]; first | assumption | exact mg_up_s _ _ _))))))) (by assumption) ?_
            refine mg_eqi (y := σ.2.1.getD i 0) (by rw [nI_clamp (by omega)]; exact n3 i hi2) ?_
            first | refine mg_aload_n d_Mo_does_102 rfl rfl ?_ | refine mg_aload_nN d_Mo_does_102 rfl rfl ?_
            refine mg_getfield fl_Mo_40 d_Mo_does_103 (by first | assumption | exact mg_up_s _ _ _ | (rw [mg_up_n _ _ (by decide)]; first | assumption | exact mg_up_s _ _ _ | (rw [mg_up_n _ _ (by decide)]; first | assumption | exact mg_up_s _ _ _ | (rw [mg_up_n _ _ (by decide)]; first | assumption | exact mg_up_s _ _ _ | (rw [mg_up_n _ _ (by decide)]; first | assumption | exact mg_up_s _ _ _ | (rw [mg_up_n _ _ (by decide)]; first | assumption | exact mg_up_s _ _ _ | (rw [mg_up_n _ _ (by decide)]; first | assumption | exact mg_up_s _ _ _))))))) rfl ?_
            refine mg_iload d_Mo_does_106 rfl ?_
            refine mg_iconst (v := 1) d_Mo_does_108 (by decide) ?_
            refine mg_isub d_Mo_does_109 ?_
            refine mg_eqi (y := nI (i - 1)) (by rw [show (1 : Int32) = nI 1 from rfl, pk_sub (by omega)]) ?_
            refine mg_iaload rfl d_Mo_does_110 (by first | assumption | exact mg_up_s _ _ _ | (rw [mg_up_n _ _ (by decide)]; first | assumption | exact mg_up_s _ _ _ | (rw [mg_up_n _ _ (by decide)]; first | assumption | exact mg_up_s _ _ _ | (rw [mg_up_n _ _ (by decide)]; first | assumption | exact mg_up_s _ _ _ | (rw [mg_up_n _ _ (by decide)]; first | assumption | exact mg_up_s _ _ _ | (rw [mg_up_n _ _ (by decide)]; first | assumption | exact mg_up_s _ _ _ | (rw [mg_up_n _ _ (by decide)]; first | assumption | exact mg_up_s _ _ _))))))) hin3 ?_
            refine mg_eqi (y := σ.2.1.getD (i - 1) 0) (by rw [nI_clamp (by omega)]; exact n3 _ (by omega)) ?_
            refine mg_icmp_ge (tgt := 118) d_Mo_does_111 (by decide) (fun c_111 => ?_) (fun c_111 => ?_)
            · have ef : (false || fallL (σ.2.1.drop i)) = R3 := by rw [← r3, hfd, g2, decide_eq_false (Int32.not_lt.mpr c_111), Bool.false_or, Bool.false_or]
              refine mg_iconst (v := 0) d_Mo_does_118 (by decide) ?_
              first | refine mg_eqi (y := bI true) rfl ?_ | refine mg_eqi (y := bI false) rfl ?_
              refine mg_istore d_Mo_does_119 (Nat.le_of_ble_eq_true rfl) rfl ?_
              refine mg_iinc (v := nI (i + 1)) d_Mo_does_121 rfl (nI_1 _) (Nat.le_of_ble_eq_true rfl) rfl ?_
              refine mg_goto (tgt := 42) d_Mo_does_124 (by decide) ?_
              exact ih (i + 1) _ _ _ (by omega) (by omega) r1 (by rw [Bool.or_assoc]; exact r2) ef
            · have g4 : σ.2.1.getD i 0 < σ.2.1.getD (i - 1) 0 := Int32.not_le.mp c_111
              have ef : (true || fallL (σ.2.1.drop i)) = R3 := by rw [← r3, hfd, g2, decide_eq_true g4]; rfl
              refine mg_iconst (v := 1) d_Mo_does_114 (by decide) ?_
              refine mg_goto (tgt := 119) d_Mo_does_115 (by decide) ?_
              first | refine mg_eqi (y := bI true) rfl ?_ | refine mg_eqi (y := bI false) rfl ?_
              refine mg_istore d_Mo_does_119 (Nat.le_of_ble_eq_true rfl) rfl ?_
              refine mg_iinc (v := nI (i + 1)) d_Mo_does_121 rfl (nI_1 _) (Nat.le_of_ble_eq_true rfl) rfl ?_
              refine mg_goto (tgt := 42) d_Mo_does_124 (by decide) ?_
              exact ih (i + 1) _ _ _ (by omega) (by omega) r1 (by rw [Bool.or_assoc]; exact r2) ef
      · have g1 : hs = false := bI_f (by first | exact c_64 | exact Decidable.not_not.mp c_64)
        first | refine mg_aload_n d_Mo_does_67 rfl rfl ?_ | refine mg_aload_nN d_Mo_does_67 rfl rfl ?_
        refine mg_getfield fl_Mo_40 d_Mo_does_68 (by first | assumption | exact mg_up_s _ _ _ | (rw [mg_up_n _ _ (by decide)]; first | assumption | exact mg_up_s _ _ _ | (rw [mg_up_n _ _ (by decide)]; first | assumption | exact mg_up_s _ _ _ | (rw [mg_up_n _ _ (by decide)]; first | assumption | exact mg_up_s _ _ _ | (rw [mg_up_n _ _ (by decide)]; first | assumption | exact mg_up_s _ _ _ | (rw [mg_up_n _ _ (by decide)]; first | assumption | exact mg_up_s _ _ _ | (rw [mg_up_n _ _ (by decide)]; first | assumption | exact mg_up_s _ _ _))))))) rfl ?_
        refine mg_iload d_Mo_does_71 rfl ?_
        refine mg_iaload rfl d_Mo_does_73 (by first | assumption | exact mg_up_s _ _ _ | (rw [mg_up_n _ _ (by decide)]; first | assumption | exact mg_up_s _ _ _ | (rw [mg_up_n _ _ (by decide)]; first | assumption | exact mg_up_s _ _ _ | (rw [mg_up_n _ _ (by decide)]; first | assumption | exact mg_up_s _ _ _ | (rw [mg_up_n _ _ (by decide)]; first | assumption | exact mg_up_s _ _ _ | (rw [mg_up_n _ _ (by decide)]; first | assumption | exact mg_up_s _ _ _ | (rw [mg_up_n _ _ (by decide)]; first | assumption | exact mg_up_s _ _ _))))))) (by assumption) ?_
        refine mg_eqi (y := σ.2.1.getD i 0) (by rw [nI_clamp (by omega)]; exact n3 i hi2) ?_
        refine mg_iload_n d_Mo_does_74 rfl rfl ?_
        refine mg_icmp_ne (tgt := 82) d_Mo_does_75 (by decide) (fun c_75 => ?_) (fun c_75 => ?_)
        · refine mg_iconst (v := 0) d_Mo_does_82 (by decide) ?_
          refine mg_eqi (y := bI (hs || decide (σ.2.1.getD i 0 = k))) (by first | (rw [g1]; rfl) | (rw [g1, decide_eq_true (show σ.2.1.getD i 0 = k by first | exact c_75 | exact Decidable.not_not.mp c_75)]; rfl) | (rw [g1, decide_eq_false c_75]; rfl)) ?_
          refine mg_istore d_Mo_does_83 (Nat.le_of_ble_eq_true rfl) rfl ?_
          refine mg_iload d_Mo_does_85 rfl ?_
          refine mg_if_ne (tgt := 114) d_Mo_does_87 (by decide) (fun c_87 => ?_) (fun c_87 => ?_)
          · have g2 : fl = true := bI_t c_87
            have ef : (true || fallL (σ.2.1.drop i)) = R3 := by rw [← r3, g2, Bool.true_or, Bool.true_or]
            refine mg_iconst (v := 1) d_Mo_does_114 (by decide) ?_
            refine mg_goto (tgt := 119) d_Mo_does_115 (by decide) ?_
            first | refine mg_eqi (y := bI true) rfl ?_ | refine mg_eqi (y := bI false) rfl ?_
            refine mg_istore d_Mo_does_119 (Nat.le_of_ble_eq_true rfl) rfl ?_
            refine mg_iinc (v := nI (i + 1)) d_Mo_does_121 rfl (nI_1 _) (Nat.le_of_ble_eq_true rfl) rfl ?_
            refine mg_goto (tgt := 42) d_Mo_does_124 (by decide) ?_
            exact ih (i + 1) _ _ _ (by omega) (by omega) r1 (by rw [Bool.or_assoc]; exact r2) ef
          · have g2 : fl = false := bI_f (by first | exact c_87 | exact Decidable.not_not.mp c_87)
            refine mg_iload d_Mo_does_90 rfl ?_
            refine mg_if_le (tgt := 118) d_Mo_does_92 (by decide) (fun c_92 => ?_) (fun c_92 => ?_)
            · have g3 : i = 0 := by
                have := (nI_leI (b := 0) (by omega) (by decide)).mp c_92
                omega
              have ef : (false || fallL (σ.2.1.drop i)) = R3 := by rw [← r3, g3, g2]
              refine mg_iconst (v := 0) d_Mo_does_118 (by decide) ?_
              first | refine mg_eqi (y := bI true) rfl ?_ | refine mg_eqi (y := bI false) rfl ?_
              refine mg_istore d_Mo_does_119 (Nat.le_of_ble_eq_true rfl) rfl ?_
              refine mg_iinc (v := nI (i + 1)) d_Mo_does_121 rfl (nI_1 _) (Nat.le_of_ble_eq_true rfl) rfl ?_
              refine mg_goto (tgt := 42) d_Mo_does_124 (by decide) ?_
              exact ih (i + 1) _ _ _ (by omega) (by omega) r1 (by rw [Bool.or_assoc]; exact r2) ef
            · have g3 : 0 < i := by
                rcases Nat.eq_zero_or_pos i with q | q
                · exact absurd (by rw [q]; decide) c_92
                · exact q
              have hin3 : vp_in (nI (i - 1)) 60 := nIw (j := i - 1) (n := σ.2.1.length) (by omega) n2
              have hfd := fall_drop (l := σ.2.1) (i := i - 1) (by omega)
              rw [show i - 1 + 1 = i by omega] at hfd
              first | refine mg_aload_n d_Mo_does_95 rfl rfl ?_ | refine mg_aload_nN d_Mo_does_95 rfl rfl ?_
              refine mg_getfield fl_Mo_40 d_Mo_does_96 (by first | assumption | exact mg_up_s _ _ _ | (rw [mg_up_n _ _ (by decide)]; first | assumption | exact mg_up_s _ _ _ | (rw [mg_up_n _ _ (by decide)]; first | assumption | exact mg_up_s _ _ _ | (rw [mg_up_n _ _ (by decide)]; first | assumption | exact mg_up_s _ _ _ | (rw [mg_up_n _ _ (by decide)]; first | assumption | exact mg_up_s _ _ _ | (rw [mg_up_n _ _ (by decide)]; first | assumption | exact mg_up_s _ _ _ | (rw [mg_up_n _ _ (by decide)]; first | assumption | exact mg_up_s _ _ _))))))) rfl ?_
              refine mg_iload d_Mo_does_99 rfl ?_
              refine mg_iaload rfl d_Mo_does_101 (by first | assumption | exact mg_up_s _ _ _ | (rw [mg_up_n _ _ (by decide)]; first | assumption | exact mg_up_s _ _ _ | (rw [mg_up_n _ _ (by decide)]; first | assumption | exact mg_up_s _ _ _ | (rw [mg_up_n _ _ (by decide)]; first | assumption | exact mg_up_s _ _ _ | (rw [mg_up_n _ _ (by decide)]; first | assumption | exact mg_up_s _ _ _ | (rw [mg_up_n _ _ (by decide)]; first | assumption | exact mg_up_s _ _ _ | (rw [mg_up_n _ _ (by decide)]; first | assumption | exact mg_up_s _ _ _))))))) (by assumption) ?_
              refine mg_eqi (y := σ.2.1.getD i 0) (by rw [nI_clamp (by omega)]; exact n3 i hi2) ?_
              first | refine mg_aload_n d_Mo_does_102 rfl rfl ?_ | refine mg_aload_nN d_Mo_does_102 rfl rfl ?_
              refine mg_getfield fl_Mo_40 d_Mo_does_103 (by first | assumption | exact mg_up_s _ _ _ | (rw [mg_up_n _ _ (by decide)]; first | assumption | exact mg_up_s _ _ _ | (rw [mg_up_n _ _ (by decide)]; first | assumption | exact mg_up_s _ _ _ | (rw [mg_up_n _ _ (by decide)]; first | assumption | exact mg_up_s _ _ _ | (rw [mg_up_n _ _ (by decide)]; first | assumption | exact mg_up_s _ _ _ | (rw [mg_up_n _ _ (by decide)]; first | assumption | exact mg_up_s _ _ _ | (rw [mg_up_n _ _ (by decide)]; first | assumption | exact mg_up_s _ _ _))))))) rfl ?_
              refine mg_iload d_Mo_does_106 rfl ?_
              refine mg_iconst (v := 1) d_Mo_does_108 (by decide) ?_
              refine mg_isub d_Mo_does_109 ?_
              refine mg_eqi (y := nI (i - 1)) (by rw [show (1 : Int32) = nI 1 from rfl, pk_sub (by omega)]) ?_
              refine mg_iaload rfl d_Mo_does_110 (by first | assumption | exact mg_up_s _ _ _ | (rw [mg_up_n _ _ (by decide)]; first | assumption | exact mg_up_s _ _ _ | (rw [mg_up_n _ _ (by decide)]; first | assumption | exact mg_up_s _ _ _ | (rw [mg_up_n _ _ (by decide)]; first | assumption | exact mg_up_s _ _ _ | (rw [mg_up_n _ _ (by decide)]; first | assumption | exact mg_up_s _ _ _ | (rw [mg_up_n _ _ (by decide)]; first | assumption | exact mg_up_s _ _ _ | (rw [mg_up_n _ _ (by decide)]; first | assumption | exact mg_up_s _ _ _))))))) hin3 ?_
              refine mg_eqi (y := σ.2.1.getD (i - 1) 0) (by rw [nI_clamp (by omega)]; exact n3 _ (by omega)) ?_
              refine mg_icmp_ge (tgt := 118) d_Mo_does_111 (by decide) (fun c_111 => ?_) (fun c_111 => ?_)
              · have ef : (false || fallL (σ.2.1.drop i)) = R3 := by rw [← r3, hfd, g2, decide_eq_false (Int32.not_lt.mpr c_111), Bool.false_or, Bool.false_or]
                refine mg_iconst (v := 0) d_Mo_does_118 (by decide) ?_
                first | refine mg_eqi (y := bI true) rfl ?_ | refine mg_eqi (y := bI false) rfl ?_
                refine mg_istore d_Mo_does_119 (Nat.le_of_ble_eq_true rfl) rfl ?_
                refine mg_iinc (v := nI (i + 1)) d_Mo_does_121 rfl (nI_1 _) (Nat.le_of_ble_eq_true rfl) rfl ?_
                refine mg_goto (tgt := 42) d_Mo_does_124 (by decide) ?_
                exact ih (i + 1) _ _ _ (by omega) (by omega) r1 (by rw [Bool.or_assoc]; exact r2) ef
              · have g4 : σ.2.1.getD i 0 < σ.2.1.getD (i - 1) 0 := Int32.not_le.mp c_111
                have ef : (true || fallL (σ.2.1.drop i)) = R3 := by rw [← r3, hfd, g2, decide_eq_true g4]; rfl
                refine mg_iconst (v := 1) d_Mo_does_114 (by decide) ?_
                refine mg_goto (tgt := 119) d_Mo_does_115 (by decide) ?_
                first | refine mg_eqi (y := bI true) rfl ?_ | refine mg_eqi (y := bI false) rfl ?_
                refine mg_istore d_Mo_does_119 (Nat.le_of_ble_eq_true rfl) rfl ?_
                refine mg_iinc (v := nI (i + 1)) d_Mo_does_121 rfl (nI_1 _) (Nat.le_of_ble_eq_true rfl) rfl ?_
                refine mg_goto (tgt := 42) d_Mo_does_124 (by decide) ?_
                exact ih (i + 1) _ _ _ (by omega) (by omega) r1 (by rw [Bool.or_assoc]; exact r2) ef
        · refine mg_iconst (v := 1) d_Mo_does_78 (by decide) ?_
          refine mg_goto (tgt := 83) d_Mo_does_79 (by decide) ?_
          refine mg_eqi (y := bI (hs || decide (σ.2.1.getD i 0 = k))) (by first | (rw [g1]; rfl) | (rw [g1, decide_eq_true (show σ.2.1.getD i 0 = k by first | exact c_75 | exact Decidable.not_not.mp c_75)]; rfl) | (rw [g1, decide_eq_false c_75]; rfl)) ?_
          refine mg_istore d_Mo_does_83 (Nat.le_of_ble_eq_true rfl) rfl ?_
          refine mg_iload d_Mo_does_85 rfl ?_
          refine mg_if_ne (tgt := 114) d_Mo_does_87 (by decide) (fun c_87 => ?_) (fun c_87 => ?_)
          · have g2 : fl = true := bI_t c_87
            have ef : (true || fallL (σ.2.1.drop i)) = R3 := by rw [← r3, g2, Bool.true_or, Bool.true_or]
            refine mg_iconst (v := 1) d_Mo_does_114 (by decide) ?_
            refine mg_goto (tgt := 119) d_Mo_does_115 (by decide) ?_
            first | refine mg_eqi (y := bI true) rfl ?_ | refine mg_eqi (y := bI false) rfl ?_
            refine mg_istore d_Mo_does_119 (Nat.le_of_ble_eq_true rfl) rfl ?_
            refine mg_iinc (v := nI (i + 1)) d_Mo_does_121 rfl (nI_1 _) (Nat.le_of_ble_eq_true rfl) rfl ?_
            refine mg_goto (tgt := 42) d_Mo_does_124 (by decide) ?_
            exact ih (i + 1) _ _ _ (by omega) (by omega) r1 (by rw [Bool.or_assoc]; exact r2) ef
          · have g2 : fl = false := bI_f (by first | exact c_87 | exact Decidable.not_not.mp c_87)
            refine mg_iload d_Mo_does_90 rfl ?_
            refine mg_if_le (tgt := 118) d_Mo_does_92 (by decide) (fun c_92 => ?_) (fun c_92 => ?_)
            · have g3 : i = 0 := by
                have := (nI_leI (b := 0) (by omega) (by decide)).mp c_92
                omega
              have ef : (false || fallL (σ.2.1.drop i)) = R3 := by rw [← r3, g3, g2]
              refine mg_iconst (v := 0) d_Mo_does_118 (by decide) ?_
              first | refine mg_eqi (y := bI true) rfl ?_ | refine mg_eqi (y := bI false) rfl ?_
              refine mg_istore d_Mo_does_119 (Nat.le_of_ble_eq_true rfl) rfl ?_
              refine mg_iinc (v := nI (i + 1)) d_Mo_does_121 rfl (nI_1 _) (Nat.le_of_ble_eq_true rfl) rfl ?_
              refine mg_goto (tgt := 42) d_Mo_does_124 (by decide) ?_
              exact ih (i + 1) _ _ _ (by omega) (by omega) r1 (by rw [Bool.or_assoc]; exact r2) ef
            · have g3 : 0 < i := by
                rcases Nat.eq_zero_or_pos i with q | q
                · exact absurd (by rw [q]; decide) c_92
                · exact q
              have hin3 : vp_in (nI (i - 1)) 60 := nIw (j := i - 1) (n := σ.2.1.length) (by omega) n2
              have hfd := fall_drop (l := σ.2.1) (i := i - 1) (by omega)
              rw [show i - 1 + 1 = i by omega] at hfd
              first | refine mg_aload_n d_Mo_does_95 rfl rfl ?_ | refine mg_aload_nN d_Mo_does_95 rfl rfl ?_
              refine mg_getfield fl_Mo_40 d_Mo_does_96 (by first | assumption | exact mg_up_s _ _ _ | (rw [mg_up_n _ _ (by decide)]; first | assumption | exact mg_up_s _ _ _ | (rw [mg_up_n _ _ (by decide)]; first | assumption | exact mg_up_s _ _ _ | (rw [mg_up_n _ _ (by decide)]; first | assumption | exact mg_up_s _ _ _ | (rw [mg_up_n _ _ (by decide)]; first | assumption | exact mg_up_s _ _ _ | (rw [mg_up_n _ _ (by decide)]; first | assumption | exact mg_up_s _ _ _ | (rw [mg_up_n _ _ (by decide)]; first | assumption | exact mg_up_s _ _ _))))))) rfl ?_
              refine mg_iload d_Mo_does_99 rfl ?_
              refine mg_iaload rfl d_Mo_does_101 (by first | assumption | exact mg_up_s _ _ _ | (rw [mg_up_n _ _ (by decide)]; first | assumption | exact mg_up_s _ _ _ | (rw [mg_up_n _ _ (by decide)]; first | assumption | exact mg_up_s _ _ _ | (rw [mg_up_n _ _ (by decide)]; first | assumption | exact mg_up_s _ _ _ | (rw [mg_up_n _ _ (by decide)]; first | assumption | exact mg_up_s _ _ _ | (rw [mg_up_n _ _ (by decide)]; first | assumption | exact mg_up_s _ _ _ | (rw [mg_up_n _ _ (by decide)]; first | assumption | exact mg_up_s _ _ _))))))) (by assumption) ?_
              refine mg_eqi (y := σ.2.1.getD i 0) (by rw [nI_clamp (by omega)]; exact n3 i hi2) ?_
              first | refine mg_aload_n d_Mo_does_102 rfl rfl ?_ | refine mg_aload_nN d_Mo_does_102 rfl rfl ?_
              refine mg_getfield fl_Mo_40 d_Mo_does_103 (by first | assumption | exact mg_up_s _ _ _ | (rw [mg_up_n _ _ (by decide)]; first | assumption | exact mg_up_s _ _ _ | (rw [mg_up_n _ _ (by decide)]; first | assumption | exact mg_up_s _ _ _ | (rw [mg_up_n _ _ (by decide)]; first | assumption | exact mg_up_s _ _ _ | (rw [mg_up_n _ _ (by decide)]; first | assumption | exact mg_up_s _ _ _ | (rw [mg_up_n _ _ (by decide)]; first | assumption | exact mg_up_s _ _ _ | (rw [mg_up_n _ _ (by decide)]; first | assumption | exact mg_up_s _ _ _))))))) rfl ?_
              refine mg_iload d_Mo_does_106 rfl ?_
              refine mg_iconst (v := 1) d_Mo_does_108 (by decide) ?_
              refine mg_isub d_Mo_does_109 ?_
              refine mg_eqi (y := nI (i - 1)) (by rw [show (1 : Int32) = nI 1 from rfl, pk_sub (by omega)]) ?_
              refine mg_iaload rfl d_Mo_does_110 (by first | assumption | exact mg_up_s _ _ _ | (rw [mg_up_n _ _ (by decide)]; first | assumption | exact mg_up_s _ _ _ | (rw [mg_up_n _ _ (by decide)]; first | assumption | exact mg_up_s _ _ _ | (rw [mg_up_n _ _ (by decide)]; first | assumption | exact mg_up_s _ _ _ | (rw [mg_up_n _ _ (by decide)]; first | assumption | exact mg_up_s _ _ _ | (rw [mg_up_n _ _ (by decide)]; first | assumption | exact mg_up_s _ _ _ | (rw [mg_up_n _ _ (by decide)]; first | assumption | exact mg_up_s _ _ _))))))) hin3 ?_
              refine mg_eqi (y := σ.2.1.getD (i - 1) 0) (by rw [nI_clamp (by omega)]; exact n3 _ (by omega)) ?_
              refine mg_icmp_ge (tgt := 118) d_Mo_does_111 (by decide) (fun c_111 => ?_) (fun c_111 => ?_)
              · have ef : (false || fallL (σ.2.1.drop i)) = R3 := by rw [← r3, hfd, g2, decide_eq_false (Int32.not_lt.mpr c_111), Bool.false_or, Bool.false_or]
                refine mg_iconst (v := 0) d_Mo_does_118 (by decide) ?_
                first | refine mg_eqi (y := bI true) rfl ?_ | refine mg_eqi (y := bI false) rfl ?_
                refine mg_istore d_Mo_does_119 (Nat.le_of_ble_eq_true rfl) rfl ?_
                refine mg_iinc (v := nI (i + 1)) d_Mo_does_121 rfl (nI_1 _) (Nat.le_of_ble_eq_true rfl) rfl ?_
                refine mg_goto (tgt := 42) d_Mo_does_124 (by decide) ?_
                exact ih (i + 1) _ _ _ (by omega) (by omega) r1 (by rw [Bool.or_assoc]; exact r2) ef
              · have g4 : σ.2.1.getD i 0 < σ.2.1.getD (i - 1) 0 := Int32.not_le.mp c_111
                have ef : (true || fallL (σ.2.1.drop i)) = R3 := by rw [← r3, hfd, g2, decide_eq_true g4]; rfl
                refine mg_iconst (v := 1) d_Mo_does_114 (by decide) ?_
                refine mg_goto (tgt := 119) d_Mo_does_115 (by decide) ?_
                first | refine mg_eqi (y := bI true) rfl ?_ | refine mg_eqi (y := bI false) rfl ?_
                refine mg_istore d_Mo_does_119 (Nat.le_of_ble_eq_true rfl) rfl ?_
                refine mg_iinc (v := nI (i + 1)) d_Mo_does_121 rfl (nI_1 _) (Nat.le_of_ble_eq_true rfl) rfl ?_
                refine mg_goto (tgt := 42) d_Mo_does_124 (by decide) ?_
                exact ih (i + 1) _ _ _ (by omega) (by omega) r1 (by rw [Bool.or_assoc]; exact r2) ef

set_option maxHeartbeats 4000000 in
set_option maxRecDepth 100000 in
theorem c_Mo_does {M : mg_M} {si : Nat → Int32} {x s : Int64} {md : dM} {σ : dS} {ps : List pN} {j : Nat} {p : pN} (h : isRun M si x s md σ) (hP : isPM M ps) (hpl : ps.length ≤ 10) (hp : ps[j]? = some p) : mg_Ct Y_Mo_does { frames := 0, cells := 0, slots := 0, locals := 0 } [.ref 1000, .int (nI j)] M (fun v M' => v = some (.int (vdS p σ)) ∧ M' = M) := by
  obtain ⟨a1, a2, a3, a4, a5, a6, a7, a8, a9, a10, a11, ⟨nf, n1, n2, n3⟩⟩ := id h
  obtain ⟨f1, f2, f3, e1, e2, e3, ep⟩ := hP
  obtain ⟨kd, k, c⟩ := p
  obtain ⟨p1, p2, p3⟩ := ep j _ hp
  have hj10 : j < 10 := Nat.lt_of_lt_of_le (List.getElem?_eq_some_iff.mp hp).1 hpl
  have hinj : vp_in (nI j) 10 := vp_in_nI hj10 (by decide)
  refine mg_met [some (.ref 1000), some (.int (nI j)), none, none, none, none, none, none] (by decide +kernel) rfl (Nat.le_of_ble_eq_true rfl) ?_
  intro X hR _
  first | refine mg_aload_n d_Mo_does_0 rfl rfl ?_ | refine mg_aload_nN d_Mo_does_0 rfl rfl ?_
  refine mg_getfield fl_Mo_114 d_Mo_does_1 (by first | assumption | exact mg_up_s _ _ _ | (rw [mg_up_n _ _ (by decide)]; first | assumption | exact mg_up_s _ _ _ | (rw [mg_up_n _ _ (by decide)]; first | assumption | exact mg_up_s _ _ _ | (rw [mg_up_n _ _ (by decide)]; first | assumption | exact mg_up_s _ _ _ | (rw [mg_up_n _ _ (by decide)]; first | assumption | exact mg_up_s _ _ _ | (rw [mg_up_n _ _ (by decide)]; first | assumption | exact mg_up_s _ _ _ | (rw [mg_up_n _ _ (by decide)]; first | assumption | exact mg_up_s _ _ _))))))) rfl ?_
  refine mg_if_eq (tgt := 9) d_Mo_does_4 (by decide) (fun c_4 => ?_) (fun c_4 => ?_)
  · have hil : ¬ σ.2.2.1 = true := by rw [bI_f (show bI σ.2.2.1 = 0 by rw [← a7]; exact c_4)]; decide
    unfold vdS
    rw [if_neg hil]
    first | refine mg_aload_n d_Mo_does_9 rfl rfl ?_ | refine mg_aload_nN d_Mo_does_9 rfl rfl ?_
    refine mg_getfield fl_Mo_124 d_Mo_does_10 (by first | assumption | exact mg_up_s _ _ _ | (rw [mg_up_n _ _ (by decide)]; first | assumption | exact mg_up_s _ _ _ | (rw [mg_up_n _ _ (by decide)]; first | assumption | exact mg_up_s _ _ _ | (rw [mg_up_n _ _ (by decide)]; first | assumption | exact mg_up_s _ _ _ | (rw [mg_up_n _ _ (by decide)]; first | assumption | exact mg_up_s _ _ _ | (rw [mg_up_n _ _ (by decide)]; first | assumption | exact mg_up_s _ _ _ | (rw [mg_up_n _ _ (by decide)]; first | assumption | exact mg_up_s _ _ _))))))) rfl ?_
    first | refine mg_aload_n d_Mo_does_13 rfl rfl ?_ | refine mg_aload_nN d_Mo_does_13 rfl rfl ?_
    refine mg_getfield fl_Mo_28 d_Mo_does_14 (by first | assumption | exact mg_up_s _ _ _ | (rw [mg_up_n _ _ (by decide)]; first | assumption | exact mg_up_s _ _ _ | (rw [mg_up_n _ _ (by decide)]; first | assumption | exact mg_up_s _ _ _ | (rw [mg_up_n _ _ (by decide)]; first | assumption | exact mg_up_s _ _ _ | (rw [mg_up_n _ _ (by decide)]; first | assumption | exact mg_up_s _ _ _ | (rw [mg_up_n _ _ (by decide)]; first | assumption | exact mg_up_s _ _ _ | (rw [mg_up_n _ _ (by decide)]; first | assumption | exact mg_up_s _ _ _))))))) rfl ?_
    refine mg_iload_n d_Mo_does_17 rfl rfl ?_
    refine mg_iaload rfl d_Mo_does_18 (by first | assumption | exact mg_up_s _ _ _ | (rw [mg_up_n _ _ (by decide)]; first | assumption | exact mg_up_s _ _ _ | (rw [mg_up_n _ _ (by decide)]; first | assumption | exact mg_up_s _ _ _ | (rw [mg_up_n _ _ (by decide)]; first | assumption | exact mg_up_s _ _ _ | (rw [mg_up_n _ _ (by decide)]; first | assumption | exact mg_up_s _ _ _ | (rw [mg_up_n _ _ (by decide)]; first | assumption | exact mg_up_s _ _ _ | (rw [mg_up_n _ _ (by decide)]; first | assumption | exact mg_up_s _ _ _))))))) hinj ?_
    refine mg_eqi (y := c) (by rw [nI_clamp (by omega)]; exact p3) ?_
    refine mg_icmp_ge (tgt := 24) d_Mo_does_19 (by decide) (fun c_19 => ?_) (fun c_19 => ?_)
    · have hlt : ¬ nI σ.2.1.length < c := by rw [← a4]; exact Int32.not_lt.mpr c_19
      first | refine mg_aload_n d_Mo_does_24 rfl rfl ?_ | refine mg_aload_nN d_Mo_does_24 rfl rfl ?_
      refine mg_getfield fl_Mo_25 d_Mo_does_25 (by first | assumption | exact mg_up_s _ _ _ | (rw [mg_up_n _ _ (by decide)]; first | assumption | exact mg_up_s _ _ _ | (rw [mg_up_n _ _ (by decide)]; first | assumption | exact mg_up_s _ _ _ | (rw [mg_up_n _ _ (by decide)]; first | assumption | exact mg_up_s _ _ _ | (rw [mg_up_n _ _ (by decide)]; first | assumption | exact mg_up_s _ _ _ | (rw [mg_up_n _ _ (by decide)]; first | assumption | exact mg_up_s _ _ _ | (rw [mg_up_n _ _ (by decide)]; first | assumption | exact mg_up_s _ _ _))))))) rfl ?_
      refine mg_iload_n d_Mo_does_28 rfl rfl ?_
      refine mg_iaload rfl d_Mo_does_29 (by first | assumption | exact mg_up_s _ _ _ | (rw [mg_up_n _ _ (by decide)]; first | assumption | exact mg_up_s _ _ _ | (rw [mg_up_n _ _ (by decide)]; first | assumption | exact mg_up_s _ _ _ | (rw [mg_up_n _ _ (by decide)]; first | assumption | exact mg_up_s _ _ _ | (rw [mg_up_n _ _ (by decide)]; first | assumption | exact mg_up_s _ _ _ | (rw [mg_up_n _ _ (by decide)]; first | assumption | exact mg_up_s _ _ _ | (rw [mg_up_n _ _ (by decide)]; first | assumption | exact mg_up_s _ _ _))))))) hinj ?_
      refine mg_eqi (y := k) (by rw [nI_clamp (by omega)]; exact p2) ?_
      refine mg_istore_n d_Mo_does_30 rfl (Nat.le_of_ble_eq_true rfl) rfl ?_
      refine mg_lconst (v := 0) d_Mo_does_31 (by decide) ?_
      refine mg_lstore_n d_Mo_does_32 rfl (Nat.le_of_ble_eq_true rfl) rfl ?_
      refine mg_iconst (v := 0) d_Mo_does_33 (by decide) ?_
      refine mg_istore d_Mo_does_34 (Nat.le_of_ble_eq_true rfl) rfl ?_
      refine mg_iconst (v := 0) d_Mo_does_36 (by decide) ?_
      refine mg_istore d_Mo_does_37 (Nat.le_of_ble_eq_true rfl) rfl ?_
      refine mg_iconst (v := 0) d_Mo_does_39 (by decide) ?_
      refine mg_istore d_Mo_does_40 (Nat.le_of_ble_eq_true rfl) rfl ?_
      refine lp_Mo_does (j := j) (k := k) (R1 := sumF 0 σ.2.1) (R2 := hasL σ.2.1 k) (R3 := fallL σ.2.1) h ?_ (σ.2.1.length + 1) 0 0 false false (by omega) (by omega) rfl rfl rfl
      first | refine mg_aload_n d_Mo_does_127 rfl rfl ?_ | refine mg_aload_nN d_Mo_does_127 rfl rfl ?_
      refine mg_getfield fl_Mo_22 d_Mo_does_128 (by first | assumption | exact mg_up_s _ _ _ | (rw [mg_up_n _ _ (by decide)]; first | assumption | exact mg_up_s _ _ _ | (rw [mg_up_n _ _ (by decide)]; first | assumption | exact mg_up_s _ _ _ | (rw [mg_up_n _ _ (by decide)]; first | assumption | exact mg_up_s _ _ _ | (rw [mg_up_n _ _ (by decide)]; first | assumption | exact mg_up_s _ _ _ | (rw [mg_up_n _ _ (by decide)]; first | assumption | exact mg_up_s _ _ _ | (rw [mg_up_n _ _ (by decide)]; first | assumption | exact mg_up_s _ _ _))))))) rfl ?_
      refine mg_iload_n d_Mo_does_131 rfl rfl ?_
      refine mg_iaload rfl d_Mo_does_132 (by first | assumption | exact mg_up_s _ _ _ | (rw [mg_up_n _ _ (by decide)]; first | assumption | exact mg_up_s _ _ _ | (rw [mg_up_n _ _ (by decide)]; first | assumption | exact mg_up_s _ _ _ | (rw [mg_up_n _ _ (by decide)]; first | assumption | exact mg_up_s _ _ _ | (rw [mg_up_n _ _ (by decide)]; first | assumption | exact mg_up_s _ _ _ | (rw [mg_up_n _ _ (by decide)]; first | assumption | exact mg_up_s _ _ _ | (rw [mg_up_n _ _ (by decide)]; first | assumption | exact mg_up_s _ _ _))))))) hinj ?_
      refine mg_eqi (y := kd) (by rw [nI_clamp (by omega)]; exact p1) ?_
      by_cases k0 : kd = 0
      · subst k0
        rw [vdF_k0 hlt]
        refine mg_tableIn (tgt := 164) d_Mo_does_133 (by decide) (by decide) rfl (by decide) ?_
        refine mg_lload_n d_Mo_does_164 rfl rfl ?_
        refine mg_iload_n d_Mo_does_165 rfl rfl ?_
        refine mg_i2l d_Mo_does_166 ?_
        refine mg_lcmp d_Mo_does_167 ?_
        refine mg_if_le (tgt := 175) d_Mo_does_168 (by decide) (fun c_168 => ?_) (fun c_168 => ?_)
        · refine mg_iconst (v := 0) d_Mo_does_175 (by decide) ?_
          exact mg_ireturn d_Mo_does_176 rfl rfl (Nat.le_of_ble_eq_true rfl) (Nat.le_of_ble_eq_true rfl) ⟨by rw [if_neg (cmp_le.mp c_168)], rfl⟩
        · refine mg_iconst (v := 1) d_Mo_does_171 (by decide) ?_
          refine mg_goto (tgt := 176) d_Mo_does_172 (by decide) ?_
          exact mg_ireturn d_Mo_does_176 rfl rfl (Nat.le_of_ble_eq_true rfl) (Nat.le_of_ble_eq_true rfl) ⟨by rw [if_pos (Decidable.not_not.mp (fun e => c_168 (cmp_le.mpr e)))], rfl⟩
      · by_cases k1 : kd = 1
        · subst k1
          rw [vdF_k1 hlt]
          refine mg_tableIn (tgt := 177) d_Mo_does_133 (by decide) (by decide) rfl (by decide) ?_
          refine mg_iload d_Mo_does_177 rfl ?_
          refine mg_if_eq (tgt := 186) d_Mo_does_179 (by decide) (fun c_179 => ?_) (fun c_179 => ?_)
          · refine mg_iconst (v := 0) d_Mo_does_186 (by decide) ?_
            exact mg_ireturn d_Mo_does_187 rfl rfl (Nat.le_of_ble_eq_true rfl) (Nat.le_of_ble_eq_true rfl) ⟨by rw [c_179], rfl⟩
          · refine mg_iconst (v := 1) d_Mo_does_182 (by decide) ?_
            refine mg_goto (tgt := 187) d_Mo_does_183 (by decide) ?_
            exact mg_ireturn d_Mo_does_187 rfl rfl (Nat.le_of_ble_eq_true rfl) (Nat.le_of_ble_eq_true rfl) ⟨by rw [bI_t c_179]; rfl, rfl⟩
        · by_cases k2 : kd = 2
          · subst k2
            rw [vdF_k2 hlt]
            refine mg_tableIn (tgt := 188) d_Mo_does_133 (by decide) (by decide) rfl (by decide) ?_
            refine mg_iload d_Mo_does_188 rfl ?_
            refine mg_if_eq (tgt := 197) d_Mo_does_190 (by decide) (fun c_190 => ?_) (fun c_190 => ?_)
            · refine mg_iconst (v := 0) d_Mo_does_197 (by decide) ?_
              exact mg_ireturn d_Mo_does_198 rfl rfl (Nat.le_of_ble_eq_true rfl) (Nat.le_of_ble_eq_true rfl) ⟨by rw [c_190], rfl⟩
            · refine mg_iconst (v := 1) d_Mo_does_193 (by decide) ?_
              refine mg_goto (tgt := 198) d_Mo_does_194 (by decide) ?_
              exact mg_ireturn d_Mo_does_198 rfl rfl (Nat.le_of_ble_eq_true rfl) (Nat.le_of_ble_eq_true rfl) ⟨by rw [bI_t c_190]; rfl, rfl⟩
          · by_cases k3 : kd = 3
            · subst k3
              rw [vdF_k3 hlt]
              refine mg_tableIn (tgt := 199) d_Mo_does_133 (by decide) (by decide) rfl (by decide) ?_
              first | refine mg_aload_n d_Mo_does_199 rfl rfl ?_ | refine mg_aload_nN d_Mo_does_199 rfl rfl ?_
              refine mg_getfield fl_Mo_124 d_Mo_does_200 (by first | assumption | exact mg_up_s _ _ _ | (rw [mg_up_n _ _ (by decide)]; first | assumption | exact mg_up_s _ _ _ | (rw [mg_up_n _ _ (by decide)]; first | assumption | exact mg_up_s _ _ _ | (rw [mg_up_n _ _ (by decide)]; first | assumption | exact mg_up_s _ _ _ | (rw [mg_up_n _ _ (by decide)]; first | assumption | exact mg_up_s _ _ _ | (rw [mg_up_n _ _ (by decide)]; first | assumption | exact mg_up_s _ _ _ | (rw [mg_up_n _ _ (by decide)]; first | assumption | exact mg_up_s _ _ _))))))) rfl ?_
              refine mg_iload_n d_Mo_does_203 rfl rfl ?_
              refine mg_icmp_lt (tgt := 211) d_Mo_does_204 (by decide) (fun c_204 => ?_) (fun c_204 => ?_)
              · refine mg_iconst (v := 0) d_Mo_does_211 (by decide) ?_
                exact mg_ireturn d_Mo_does_212 rfl rfl (Nat.le_of_ble_eq_true rfl) (Nat.le_of_ble_eq_true rfl) ⟨by rw [if_pos (show nI σ.2.1.length < k by rw [← a4]; exact c_204)], rfl⟩
              · refine mg_iconst (v := 1) d_Mo_does_207 (by decide) ?_
                refine mg_goto (tgt := 212) d_Mo_does_208 (by decide) ?_
                exact mg_ireturn d_Mo_does_212 rfl rfl (Nat.le_of_ble_eq_true rfl) (Nat.le_of_ble_eq_true rfl) ⟨by rw [if_neg (show ¬ nI σ.2.1.length < k by rw [← a4]; exact c_204)], rfl⟩
            · rw [vdF_k4 hlt k0 k1 k2 k3]
              have ho : kd.toInt < 0 ∨ 3 < kd.toInt := by
                rcases Int.lt_or_le kd.toInt 0 with q0 | q0
                · exact Or.inl q0
                · refine Or.inr ?_
                  have z0 : kd.toInt ≠ 0 := fun e => k0 (Int32.toInt_inj.mp e)
                  have z1 : kd.toInt ≠ 1 := fun e => k1 (Int32.toInt_inj.mp e)
                  have z2 : kd.toInt ≠ 2 := fun e => k2 (Int32.toInt_inj.mp e)
                  have z3 : kd.toInt ≠ 3 := fun e => k3 (Int32.toInt_inj.mp e)
                  omega
              refine mg_tableOut (tgt := 213) d_Mo_does_133 ho (by decide) ?_
              refine mg_iload d_Mo_does_213 rfl ?_
              refine mg_if_eq (tgt := 222) d_Mo_does_215 (by decide) (fun c_215 => ?_) (fun c_215 => ?_)
              · refine mg_iconst (v := 0) d_Mo_does_222 (by decide) ?_
                exact mg_ireturn d_Mo_does_223 rfl rfl (Nat.le_of_ble_eq_true rfl) (Nat.le_of_ble_eq_true rfl) ⟨by rw [if_neg (by rw [bI_f c_215]; decide)], rfl⟩
              · refine mg_iconst (v := 2) d_Mo_does_218 (by decide) ?_
                refine mg_goto (tgt := 223) d_Mo_does_219 (by decide) ?_
                exact mg_ireturn d_Mo_does_223 rfl rfl (Nat.le_of_ble_eq_true rfl) (Nat.le_of_ble_eq_true rfl) ⟨by rw [if_pos (bI_t c_215)], rfl⟩
    · refine mg_iconst (v := 3) d_Mo_does_22 (by decide) ?_
      exact mg_ireturn d_Mo_does_23 rfl rfl (Nat.le_of_ble_eq_true rfl) (Nat.le_of_ble_eq_true rfl) ⟨by rw [vdF_3 (by rw [← a4]; exact Int32.not_le.mp c_19)], rfl⟩
  · have hil : σ.2.2.1 = true := bI_t (by rw [← a7]; first | exact c_4 | exact Decidable.not_not.mp c_4)
    refine mg_iconst (v := 4) d_Mo_does_7 (by decide) ?_
    exact mg_ireturn d_Mo_does_8 rfl rfl (Nat.le_of_ble_eq_true rfl) (Nat.le_of_ble_eq_true rfl) ⟨by unfold vdS; rw [if_pos hil], rfl⟩

set_option maxHeartbeats 4000000 in
set_option maxRecDepth 100000 in
theorem cp_tell {X : mg_X} {M : mg_M} {si : Nat → Int32} {x s : Int64} {L : List Int32} {sf : Nat → Int32} {Q : State → Prop}  (hO : M 1000 = some (moE si x s)) (hb : si 40 = nI L.length) (hL : L.length ≤ 60) (hsrc : M 1011 = some (iaE 60 sf)) (hsf : ∀ j, j < L.length → sf j = L.getD j 0) (kk : ∀ (M' : mg_M) (f : Nat → Int32), M' 1021 = some (iaE 60 f) → (∀ j, j < L.length → f j = L.getD j 0) → (∀ k, k ≠ 1021 → M' k = M k) → mg_G X Y_Mo_tell Q M' 0 0 47 [some (.ref 1000), some (.int (nI L.length))] []) : ∀ n : Nat, ∀ (i : Nat) (M' : mg_M) (f : Nat → Int32), L.length - i < n → i ≤ L.length → M' 1021 = some (iaE 60 f) → (∀ j, j < i → f j = L.getD j 0) → (∀ k, k ≠ 1021 → M' k = M k) → mg_G X Y_Mo_tell Q M' 0 0 21 [some (.ref 1000), some (.int (nI i))] [] := by
  intro n
  induction n with
  | zero =>
    intro i M' f hn hi hM hf hfr
    exact absurd hn (by omega)
  | succ n ih =>
    intro i M' f hn hi hM hf hfr
    have hO2 : M' 1000 = some (moE si x s) := (hfr _ (by decide)).trans hO
    have hsrc2 : M' 1011 = some (iaE 60 sf) := (hfr _ (by decide)).trans hsrc
    refine mg_iload_n d_Mo_tell_21 rfl rfl ?_
    first | refine mg_aload_n d_Mo_tell_22 rfl rfl ?_ | refine mg_aload_nN d_Mo_tell_22 rfl rfl ?_
    refine mg_getfield fl_Mo_143 d_Mo_tell_23 (by first | assumption | exact mg_up_s _ _ _ | (rw [mg_up_n _ _ (by decide)]; first | assumption | exact mg_up_s _ _ _ | (rw [mg_up_n _ _ (by decide)]; first | assumption | exact mg_up_s _ _ _ | (rw [mg_up_n _ _ (by decide)]; first | assumption | exact mg_up_s _ _ _ | (rw [mg_up_n _ _ (by decide)]; first | assumption | exact mg_up_s _ _ _ | (rw [mg_up_n _ _ (by decide)]; first | assumption | exact mg_up_s _ _ _ | (rw [mg_up_n _ _ (by decide)]; first | assumption | exact mg_up_s _ _ _))))))) rfl ?_
    refine mg_icmp_ge (tgt := 47) d_Mo_tell_26 (by decide) (fun c_26 => ?_) (fun c_26 => ?_)
    · have e : i = L.length := by
        rw [hb] at c_26
        have := (nI_leI (by omega) (by omega)).mp c_26
        omega
      subst e
      exact kk M' f hM hf hfr
    · have hi2 : i < L.length := by
        rw [hb] at c_26
        exact Nat.lt_of_not_le (fun q => c_26 (nI_le q (by omega)))
      have hin : vp_in (nI i) 60 := vp_in_nI (by omega) (by decide)
      have hin2 : vp_in (nI i) 60 := vp_in_nI (by omega) (by decide)
      first | refine mg_aload_n d_Mo_tell_29 rfl rfl ?_ | refine mg_aload_nN d_Mo_tell_29 rfl rfl ?_
      refine mg_getfield fl_Mo_74 d_Mo_tell_30 (by first | assumption | exact mg_up_s _ _ _ | (rw [mg_up_n _ _ (by decide)]; first | assumption | exact mg_up_s _ _ _ | (rw [mg_up_n _ _ (by decide)]; first | assumption | exact mg_up_s _ _ _ | (rw [mg_up_n _ _ (by decide)]; first | assumption | exact mg_up_s _ _ _ | (rw [mg_up_n _ _ (by decide)]; first | assumption | exact mg_up_s _ _ _ | (rw [mg_up_n _ _ (by decide)]; first | assumption | exact mg_up_s _ _ _ | (rw [mg_up_n _ _ (by decide)]; first | assumption | exact mg_up_s _ _ _))))))) rfl ?_
      refine mg_iload_n d_Mo_tell_33 rfl rfl ?_
      first | refine mg_aload_n d_Mo_tell_34 rfl rfl ?_ | refine mg_aload_nN d_Mo_tell_34 rfl rfl ?_
      refine mg_getfield fl_Mo_40 d_Mo_tell_35 (by first | assumption | exact mg_up_s _ _ _ | (rw [mg_up_n _ _ (by decide)]; first | assumption | exact mg_up_s _ _ _ | (rw [mg_up_n _ _ (by decide)]; first | assumption | exact mg_up_s _ _ _ | (rw [mg_up_n _ _ (by decide)]; first | assumption | exact mg_up_s _ _ _ | (rw [mg_up_n _ _ (by decide)]; first | assumption | exact mg_up_s _ _ _ | (rw [mg_up_n _ _ (by decide)]; first | assumption | exact mg_up_s _ _ _ | (rw [mg_up_n _ _ (by decide)]; first | assumption | exact mg_up_s _ _ _))))))) rfl ?_
      refine mg_iload_n d_Mo_tell_38 rfl rfl ?_
      skip
      refine mg_iaload rfl d_Mo_tell_39 (by first | assumption | exact mg_up_s _ _ _ | (rw [mg_up_n _ _ (by decide)]; first | assumption | exact mg_up_s _ _ _ | (rw [mg_up_n _ _ (by decide)]; first | assumption | exact mg_up_s _ _ _ | (rw [mg_up_n _ _ (by decide)]; first | assumption | exact mg_up_s _ _ _ | (rw [mg_up_n _ _ (by decide)]; first | assumption | exact mg_up_s _ _ _ | (rw [mg_up_n _ _ (by decide)]; first | assumption | exact mg_up_s _ _ _ | (rw [mg_up_n _ _ (by decide)]; first | assumption | exact mg_up_s _ _ _))))))) hin2 ?_
      refine mg_eqi (y := L.getD i 0) (by rw [nI_clamp (by omega)]; exact hsf i hi2) ?_
      refine mg_iastore rfl d_Mo_tell_40 (by first | assumption | exact mg_up_s _ _ _ | (rw [mg_up_n _ _ (by decide)]; first | assumption | exact mg_up_s _ _ _ | (rw [mg_up_n _ _ (by decide)]; first | assumption | exact mg_up_s _ _ _ | (rw [mg_up_n _ _ (by decide)]; first | assumption | exact mg_up_s _ _ _ | (rw [mg_up_n _ _ (by decide)]; first | assumption | exact mg_up_s _ _ _ | (rw [mg_up_n _ _ (by decide)]; first | assumption | exact mg_up_s _ _ _ | (rw [mg_up_n _ _ (by decide)]; first | assumption | exact mg_up_s _ _ _))))))) hin ?_
      refine mg_eqM (M' := mg_up M' 1021 (iaE 60 (upd f i (L.getD i 0)))) (by rw [nI_clamp (by omega)]) ?_
      refine mg_iinc (v := nI (i + 1)) d_Mo_tell_41 rfl (nI_1 _) (Nat.le_of_ble_eq_true rfl) rfl ?_
      refine mg_goto (tgt := 21) d_Mo_tell_44 (by decide) ?_
      refine ih (i + 1) _ _ (by omega) (by omega) (mg_up_s _ _ _) (fun j hj => ?_) (fun k hk => (mg_up_n _ _ hk).trans (hfr k hk))
      by_cases e : j = i
      · subst e; rw [pk_us]
      · rw [pk_un e]; exact hf j (by omega)

set_option maxHeartbeats 4000000 in
set_option maxRecDepth 100000 in
theorem c_Mo_tell {M : mg_M} {si : Nat → Int32} {x s : Int64} {md : dM} {σ : dS} (h : isRun M si x s md σ) (ht : ∃ f, M 1021 = some (iaE 60 f)) : mg_Ct Y_Mo_tell { frames := 0, cells := 0, slots := 0, locals := 0 } [.ref 1000] M (fun v M' => v = none ∧ M' 1000 = some (moE (upd si 40 (nI (tlL σ).length)) x s) ∧ isA M' 1021 60 (tlL σ) ∧ ∀ k, k ≠ 1000 → k ≠ 1021 → M' k = M k) := by
  obtain ⟨a1, a2, a3, a4, a5, a6, a7, a8, a9, a10, a11, ⟨nf, n1, n2, n3⟩⟩ := id h
  obtain ⟨tf, ht1⟩ := ht
  refine mg_met [some (.ref 1000), none] (by decide +kernel) rfl (Nat.le_of_ble_eq_true rfl) ?_
  intro X hR _
  first | refine mg_aload_n d_Mo_tell_0 rfl rfl ?_ | refine mg_aload_nN d_Mo_tell_0 rfl rfl ?_
  first | refine mg_aload_n d_Mo_tell_1 rfl rfl ?_ | refine mg_aload_nN d_Mo_tell_1 rfl rfl ?_
  refine mg_getfield fl_Mo_114 d_Mo_tell_2 (by first | assumption | exact mg_up_s _ _ _ | (rw [mg_up_n _ _ (by decide)]; first | assumption | exact mg_up_s _ _ _ | (rw [mg_up_n _ _ (by decide)]; first | assumption | exact mg_up_s _ _ _ | (rw [mg_up_n _ _ (by decide)]; first | assumption | exact mg_up_s _ _ _ | (rw [mg_up_n _ _ (by decide)]; first | assumption | exact mg_up_s _ _ _ | (rw [mg_up_n _ _ (by decide)]; first | assumption | exact mg_up_s _ _ _ | (rw [mg_up_n _ _ (by decide)]; first | assumption | exact mg_up_s _ _ _))))))) rfl ?_
  refine mg_if_eq (tgt := 12) d_Mo_tell_5 (by decide) (fun c_5 => ?_) (fun c_5 => ?_)
  · have hil : ¬ σ.2.2.1 = true := by rw [bI_f (show bI σ.2.2.1 = 0 by rw [← a7]; exact c_5)]; decide
    have eT : si 12 = nI (tlL σ).length := by unfold tlL; rw [if_neg hil]; exact a4
    have hnf : ∀ j, j < (tlL σ).length → nf j = (tlL σ).getD j 0 := by unfold tlL; rw [if_neg hil]; exact n3
    have hTl : (tlL σ).length ≤ 60 := by unfold tlL; rw [if_neg hil]; exact n2
    first | refine mg_aload_n d_Mo_tell_12 rfl rfl ?_ | refine mg_aload_nN d_Mo_tell_12 rfl rfl ?_
    refine mg_getfield fl_Mo_124 d_Mo_tell_13 (by first | assumption | exact mg_up_s _ _ _ | (rw [mg_up_n _ _ (by decide)]; first | assumption | exact mg_up_s _ _ _ | (rw [mg_up_n _ _ (by decide)]; first | assumption | exact mg_up_s _ _ _ | (rw [mg_up_n _ _ (by decide)]; first | assumption | exact mg_up_s _ _ _ | (rw [mg_up_n _ _ (by decide)]; first | assumption | exact mg_up_s _ _ _ | (rw [mg_up_n _ _ (by decide)]; first | assumption | exact mg_up_s _ _ _ | (rw [mg_up_n _ _ (by decide)]; first | assumption | exact mg_up_s _ _ _))))))) rfl ?_
    refine mg_eqi eT ?_
    refine mg_putfield (fw_Mo_143 _) d_Mo_tell_16 (by first | assumption | exact mg_up_s _ _ _ | (rw [mg_up_n _ _ (by decide)]; first | assumption | exact mg_up_s _ _ _ | (rw [mg_up_n _ _ (by decide)]; first | assumption | exact mg_up_s _ _ _ | (rw [mg_up_n _ _ (by decide)]; first | assumption | exact mg_up_s _ _ _ | (rw [mg_up_n _ _ (by decide)]; first | assumption | exact mg_up_s _ _ _ | (rw [mg_up_n _ _ (by decide)]; first | assumption | exact mg_up_s _ _ _ | (rw [mg_up_n _ _ (by decide)]; first | assumption | exact mg_up_s _ _ _))))))) (Nat.le_of_ble_eq_true rfl) (fun _ => ⟨rfl, rfl⟩) ?_
    refine mg_eqM (M' := mg_up M 1000 (moE (upd si 40 (nI (tlL σ).length)) x s)) rfl ?_
    refine mg_iconst (v := 0) d_Mo_tell_19 (by decide) ?_
    refine mg_istore_n d_Mo_tell_20 rfl (Nat.le_of_ble_eq_true rfl) rfl ?_
    refine cp_tell (L := tlL σ) (sf := nf) (mg_up_s _ _ _) pk_us hTl ((mg_up_n _ _ (by decide)).trans n1) hnf (fun M' f hM hf hfr => ?_) ((tlL σ).length + 1) 0 _ tf (by omega) (by omega) ((mg_up_n _ _ (by decide)).trans ht1) (fun j hj => absurd hj (Nat.not_lt_zero _)) (fun _ _ => rfl)
    exact mg_return d_Mo_tell_47 rfl (Nat.le_of_ble_eq_true rfl) (Nat.le_of_ble_eq_true rfl) ⟨rfl, (hfr _ (by decide)).trans (mg_up_s _ _ _), ⟨f, hM, hTl, hf⟩, fun k h0 h1 => (hfr k h1).trans (mg_up_n _ _ h0)⟩
  · have hil : σ.2.2.1 = true := bI_t (by rw [← a7]; first | exact c_5 | exact Decidable.not_not.mp c_5)
    have eT : (0 : Int32) = nI (tlL σ).length := by unfold tlL; rw [if_pos hil]; rfl
    have hnf : ∀ j, j < (tlL σ).length → nf j = (tlL σ).getD j 0 := by unfold tlL; rw [if_pos hil]; exact fun j hj => absurd hj (Nat.not_lt_zero _)
    have hTl : (tlL σ).length ≤ 60 := by unfold tlL; rw [if_pos hil]; exact Nat.zero_le _
    refine mg_iconst (v := 0) d_Mo_tell_8 (by decide) ?_
    refine mg_goto (tgt := 16) d_Mo_tell_9 (by decide) ?_
    refine mg_eqi eT ?_
    refine mg_putfield (fw_Mo_143 _) d_Mo_tell_16 (by first | assumption | exact mg_up_s _ _ _ | (rw [mg_up_n _ _ (by decide)]; first | assumption | exact mg_up_s _ _ _ | (rw [mg_up_n _ _ (by decide)]; first | assumption | exact mg_up_s _ _ _ | (rw [mg_up_n _ _ (by decide)]; first | assumption | exact mg_up_s _ _ _ | (rw [mg_up_n _ _ (by decide)]; first | assumption | exact mg_up_s _ _ _ | (rw [mg_up_n _ _ (by decide)]; first | assumption | exact mg_up_s _ _ _ | (rw [mg_up_n _ _ (by decide)]; first | assumption | exact mg_up_s _ _ _))))))) (Nat.le_of_ble_eq_true rfl) (fun _ => ⟨rfl, rfl⟩) ?_
    refine mg_eqM (M' := mg_up M 1000 (moE (upd si 40 (nI (tlL σ).length)) x s)) rfl ?_
    refine mg_iconst (v := 0) d_Mo_tell_19 (by decide) ?_
    refine mg_istore_n d_Mo_tell_20 rfl (Nat.le_of_ble_eq_true rfl) rfl ?_
    refine cp_tell (L := tlL σ) (sf := nf) (mg_up_s _ _ _) pk_us hTl ((mg_up_n _ _ (by decide)).trans n1) hnf (fun M' f hM hf hfr => ?_) ((tlL σ).length + 1) 0 _ tf (by omega) (by omega) ((mg_up_n _ _ (by decide)).trans ht1) (fun j hj => absurd hj (Nat.not_lt_zero _)) (fun _ _ => rfl)
    exact mg_return d_Mo_tell_47 rfl (Nat.le_of_ble_eq_true rfl) (Nat.le_of_ble_eq_true rfl) ⟨rfl, (hfr _ (by decide)).trans (mg_up_s _ _ _), ⟨f, hM, hTl, hf⟩, fun k h0 h1 => (hfr k h1).trans (mg_up_n _ _ h0)⟩

set_option maxHeartbeats 4000000 in
set_option maxRecDepth 100000 in
theorem cp_find {X : mg_X} {M : mg_M} {si : Nat → Int32} {x s : Int64} {L : List Int32} {sf : Nat → Int32} {Q : State → Prop} {g p its : Int32} (hO : M 1000 = some (moE si x s)) (hb : si 11 = nI L.length) (hL : L.length ≤ 60) (hsrc : M 1009 = some (iaE 60 sf)) (hsf : ∀ j, j < L.length → sf j = L.getD j 0) (kk : ∀ (M' : mg_M) (f : Nat → Int32), M' 1016 = some (iaE 60 f) → (∀ j, j < L.length → f j = L.getD j 0) → (∀ k, k ≠ 1016 → M' k = M k) → mg_G X Y_Mo_find Q M' 0 0 55 [some (.ref 1000), some (.int g), some (.int p), some (.int its), some (.int (nI L.length))] []) : ∀ n : Nat, ∀ (i : Nat) (M' : mg_M) (f : Nat → Int32), L.length - i < n → i ≤ L.length → M' 1016 = some (iaE 60 f) → (∀ j, j < i → f j = L.getD j 0) → (∀ k, k ≠ 1016 → M' k = M k) → mg_G X Y_Mo_find Q M' 0 0 26 [some (.ref 1000), some (.int g), some (.int p), some (.int its), some (.int (nI i))] [] := by
  intro n
  induction n with
  | zero =>
    intro i M' f hn hi hM hf hfr
    exact absurd hn (by omega)
  | succ n ih =>
    intro i M' f hn hi hM hf hfr
    have hO2 : M' 1000 = some (moE si x s) := (hfr _ (by decide)).trans hO
    have hsrc2 : M' 1009 = some (iaE 60 sf) := (hfr _ (by decide)).trans hsrc
    refine mg_iload d_Mo_find_26 rfl ?_
    first | refine mg_aload_n d_Mo_find_28 rfl rfl ?_ | refine mg_aload_nN d_Mo_find_28 rfl rfl ?_
    refine mg_getfield fl_Mo_108 d_Mo_find_29 (by first | assumption | exact mg_up_s _ _ _ | (rw [mg_up_n _ _ (by decide)]; first | assumption | exact mg_up_s _ _ _ | (rw [mg_up_n _ _ (by decide)]; first | assumption | exact mg_up_s _ _ _ | (rw [mg_up_n _ _ (by decide)]; first | assumption | exact mg_up_s _ _ _ | (rw [mg_up_n _ _ (by decide)]; first | assumption | exact mg_up_s _ _ _ | (rw [mg_up_n _ _ (by decide)]; first | assumption | exact mg_up_s _ _ _ | (rw [mg_up_n _ _ (by decide)]; first | assumption | exact mg_up_s _ _ _))))))) rfl ?_
    refine mg_icmp_ge (tgt := 55) d_Mo_find_32 (by decide) (fun c_32 => ?_) (fun c_32 => ?_)
    · have e : i = L.length := by
        rw [hb] at c_32
        have := (nI_leI (by omega) (by omega)).mp c_32
        omega
      subst e
      exact kk M' f hM hf hfr
    · have hi2 : i < L.length := by
        rw [hb] at c_32
        exact Nat.lt_of_not_le (fun q => c_32 (nI_le q (by omega)))
      have hin : vp_in (nI i) 60 := vp_in_nI (by omega) (by decide)
      have hin2 : vp_in (nI i) 60 := vp_in_nI (by omega) (by decide)
      first | refine mg_aload_n d_Mo_find_35 rfl rfl ?_ | refine mg_aload_nN d_Mo_find_35 rfl rfl ?_
      refine mg_getfield fl_Mo_59 d_Mo_find_36 (by first | assumption | exact mg_up_s _ _ _ | (rw [mg_up_n _ _ (by decide)]; first | assumption | exact mg_up_s _ _ _ | (rw [mg_up_n _ _ (by decide)]; first | assumption | exact mg_up_s _ _ _ | (rw [mg_up_n _ _ (by decide)]; first | assumption | exact mg_up_s _ _ _ | (rw [mg_up_n _ _ (by decide)]; first | assumption | exact mg_up_s _ _ _ | (rw [mg_up_n _ _ (by decide)]; first | assumption | exact mg_up_s _ _ _ | (rw [mg_up_n _ _ (by decide)]; first | assumption | exact mg_up_s _ _ _))))))) rfl ?_
      refine mg_iload d_Mo_find_39 rfl ?_
      first | refine mg_aload_n d_Mo_find_41 rfl rfl ?_ | refine mg_aload_nN d_Mo_find_41 rfl rfl ?_
      refine mg_getfield fl_Mo_34 d_Mo_find_42 (by first | assumption | exact mg_up_s _ _ _ | (rw [mg_up_n _ _ (by decide)]; first | assumption | exact mg_up_s _ _ _ | (rw [mg_up_n _ _ (by decide)]; first | assumption | exact mg_up_s _ _ _ | (rw [mg_up_n _ _ (by decide)]; first | assumption | exact mg_up_s _ _ _ | (rw [mg_up_n _ _ (by decide)]; first | assumption | exact mg_up_s _ _ _ | (rw [mg_up_n _ _ (by decide)]; first | assumption | exact mg_up_s _ _ _ | (rw [mg_up_n _ _ (by decide)]; first | assumption | exact mg_up_s _ _ _))))))) rfl ?_
      refine mg_iload d_Mo_find_45 rfl ?_
      skip
      refine mg_iaload rfl d_Mo_find_47 (by first | assumption | exact mg_up_s _ _ _ | (rw [mg_up_n _ _ (by decide)]; first | assumption | exact mg_up_s _ _ _ | (rw [mg_up_n _ _ (by decide)]; first | assumption | exact mg_up_s _ _ _ | (rw [mg_up_n _ _ (by decide)]; first | assumption | exact mg_up_s _ _ _ | (rw [mg_up_n _ _ (by decide)]; first | assumption | exact mg_up_s _ _ _ | (rw [mg_up_n _ _ (by decide)]; first | assumption | exact mg_up_s _ _ _ | (rw [mg_up_n _ _ (by decide)]; first | assumption | exact mg_up_s _ _ _))))))) hin2 ?_
      refine mg_eqi (y := L.getD i 0) (by rw [nI_clamp (by omega)]; exact hsf i hi2) ?_
      refine mg_iastore rfl d_Mo_find_48 (by first | assumption | exact mg_up_s _ _ _ | (rw [mg_up_n _ _ (by decide)]; first | assumption | exact mg_up_s _ _ _ | (rw [mg_up_n _ _ (by decide)]; first | assumption | exact mg_up_s _ _ _ | (rw [mg_up_n _ _ (by decide)]; first | assumption | exact mg_up_s _ _ _ | (rw [mg_up_n _ _ (by decide)]; first | assumption | exact mg_up_s _ _ _ | (rw [mg_up_n _ _ (by decide)]; first | assumption | exact mg_up_s _ _ _ | (rw [mg_up_n _ _ (by decide)]; first | assumption | exact mg_up_s _ _ _))))))) hin ?_
      refine mg_eqM (M' := mg_up M' 1016 (iaE 60 (upd f i (L.getD i 0)))) (by rw [nI_clamp (by omega)]) ?_
      refine mg_iinc (v := nI (i + 1)) d_Mo_find_49 rfl (nI_1 _) (Nat.le_of_ble_eq_true rfl) rfl ?_
      refine mg_goto (tgt := 26) d_Mo_find_52 (by decide) ?_
      refine ih (i + 1) _ _ (by omega) (by omega) (mg_up_s _ _ _) (fun j hj => ?_) (fun k hk => (mg_up_n _ _ hk).trans (hfr k hk))
      by_cases e : j = i
      · subst e; rw [pk_us]
      · rw [pk_un e]; exact hf j (by omega)

def fdS (si : Nat → Int32) (σ : dS) (g p its : Int32) : Nat → Int32 := upd (upd (upd (upd (upd si 26 (nI σ.1.length)) 27 g) 28 p) 29 its) 40 (nI (tlL σ).length)
set_option maxHeartbeats 4000000 in
set_option maxRecDepth 100000 in
theorem c_Mo_find {M : mg_M} {si : Nat → Int32} {x s : Int64} {md : dM} {σ : dS} {g p its : Int32} (h : isRun M si x s md σ) (ht : ∃ f, M 1021 = some (iaE 60 f)) (hf0 : ∃ f, M 1016 = some (iaE 60 f)) : mg_Ct Y_Mo_find { frames := 1, cells := 0, slots := 0, locals := 21 } [.ref 1000, .int g, .int p, .int its] M (fun v M' => v = none ∧ M' 1000 = some (moE (fdS si σ g p its) x s) ∧ isA M' 1016 60 σ.1 ∧ isA M' 1021 60 (tlL σ) ∧ ∀ k, k ≠ 1000 → k ≠ 1016 → k ≠ 1021 → M' k = M k) := by
  obtain ⟨a1, a2, a3, a4, a5, a6, a7, a8, a9, ⟨rf, r1, r2, r3⟩, a11, a12⟩ := id h
  obtain ⟨tf, ht1⟩ := ht
  obtain ⟨ff, hf1⟩ := hf0
  refine mg_met [some (.ref 1000), some (.int g), some (.int p), some (.int its), none] (by decide +kernel) rfl (Nat.le_of_ble_eq_true rfl) ?_
  intro X hR _
  first | refine mg_aload_n d_Mo_find_0 rfl rfl ?_ | refine mg_aload_nN d_Mo_find_0 rfl rfl ?_
  first | refine mg_aload_n d_Mo_find_1 rfl rfl ?_ | refine mg_aload_nN d_Mo_find_1 rfl rfl ?_
  refine mg_getfield fl_Mo_108 d_Mo_find_2 (by first | assumption | exact mg_up_s _ _ _ | (rw [mg_up_n _ _ (by decide)]; first | assumption | exact mg_up_s _ _ _ | (rw [mg_up_n _ _ (by decide)]; first | assumption | exact mg_up_s _ _ _ | (rw [mg_up_n _ _ (by decide)]; first | assumption | exact mg_up_s _ _ _ | (rw [mg_up_n _ _ (by decide)]; first | assumption | exact mg_up_s _ _ _ | (rw [mg_up_n _ _ (by decide)]; first | assumption | exact mg_up_s _ _ _ | (rw [mg_up_n _ _ (by decide)]; first | assumption | exact mg_up_s _ _ _))))))) rfl ?_
  refine mg_eqi a3 ?_
  refine mg_putfield (fw_Mo_55 _) d_Mo_find_5 (by first | assumption | exact mg_up_s _ _ _ | (rw [mg_up_n _ _ (by decide)]; first | assumption | exact mg_up_s _ _ _ | (rw [mg_up_n _ _ (by decide)]; first | assumption | exact mg_up_s _ _ _ | (rw [mg_up_n _ _ (by decide)]; first | assumption | exact mg_up_s _ _ _ | (rw [mg_up_n _ _ (by decide)]; first | assumption | exact mg_up_s _ _ _ | (rw [mg_up_n _ _ (by decide)]; first | assumption | exact mg_up_s _ _ _ | (rw [mg_up_n _ _ (by decide)]; first | assumption | exact mg_up_s _ _ _))))))) (Nat.le_of_ble_eq_true rfl) (fun _ => ⟨rfl, rfl⟩) ?_
  refine mg_eqM (M' := mg_up (M) 1000 (moE (upd si 26 (nI σ.1.length)) x s)) rfl ?_
  first | refine mg_aload_n d_Mo_find_8 rfl rfl ?_ | refine mg_aload_nN d_Mo_find_8 rfl rfl ?_
  refine mg_iload_n d_Mo_find_9 rfl rfl ?_
  refine mg_putfield (fw_Mo_146 _) d_Mo_find_10 (by first | assumption | exact mg_up_s _ _ _ | (rw [mg_up_n _ _ (by decide)]; first | assumption | exact mg_up_s _ _ _ | (rw [mg_up_n _ _ (by decide)]; first | assumption | exact mg_up_s _ _ _ | (rw [mg_up_n _ _ (by decide)]; first | assumption | exact mg_up_s _ _ _ | (rw [mg_up_n _ _ (by decide)]; first | assumption | exact mg_up_s _ _ _ | (rw [mg_up_n _ _ (by decide)]; first | assumption | exact mg_up_s _ _ _ | (rw [mg_up_n _ _ (by decide)]; first | assumption | exact mg_up_s _ _ _))))))) (Nat.le_of_ble_eq_true rfl) (fun _ => ⟨rfl, rfl⟩) ?_
  refine mg_eqM (M' := mg_up (mg_up (M) 1000 (moE (upd si 26 (nI σ.1.length)) x s)) 1000 (moE (upd (upd si 26 (nI σ.1.length)) 27 g) x s)) rfl ?_
  first | refine mg_aload_n d_Mo_find_13 rfl rfl ?_ | refine mg_aload_nN d_Mo_find_13 rfl rfl ?_
  refine mg_iload_n d_Mo_find_14 rfl rfl ?_
  refine mg_putfield (fw_Mo_149 _) d_Mo_find_15 (by first | assumption | exact mg_up_s _ _ _ | (rw [mg_up_n _ _ (by decide)]; first | assumption | exact mg_up_s _ _ _ | (rw [mg_up_n _ _ (by decide)]; first | assumption | exact mg_up_s _ _ _ | (rw [mg_up_n _ _ (by decide)]; first | assumption | exact mg_up_s _ _ _ | (rw [mg_up_n _ _ (by decide)]; first | assumption | exact mg_up_s _ _ _ | (rw [mg_up_n _ _ (by decide)]; first | assumption | exact mg_up_s _ _ _ | (rw [mg_up_n _ _ (by decide)]; first | assumption | exact mg_up_s _ _ _))))))) (Nat.le_of_ble_eq_true rfl) (fun _ => ⟨rfl, rfl⟩) ?_
  refine mg_eqM (M' := mg_up (mg_up (mg_up (M) 1000 (moE (upd si 26 (nI σ.1.length)) x s)) 1000 (moE (upd (upd si 26 (nI σ.1.length)) 27 g) x s)) 1000 (moE (upd (upd (upd si 26 (nI σ.1.length)) 27 g) 28 p) x s)) rfl ?_
  first | refine mg_aload_n d_Mo_find_18 rfl rfl ?_ | refine mg_aload_nN d_Mo_find_18 rfl rfl ?_
  refine mg_iload_n d_Mo_find_19 rfl rfl ?_
  refine mg_putfield (fw_Mo_152 _) d_Mo_find_20 (by first | assumption | exact mg_up_s _ _ _ | (rw [mg_up_n _ _ (by decide)]; first | assumption | exact mg_up_s _ _ _ | (rw [mg_up_n _ _ (by decide)]; first | assumption | exact mg_up_s _ _ _ | (rw [mg_up_n _ _ (by decide)]; first | assumption | exact mg_up_s _ _ _ | (rw [mg_up_n _ _ (by decide)]; first | assumption | exact mg_up_s _ _ _ | (rw [mg_up_n _ _ (by decide)]; first | assumption | exact mg_up_s _ _ _ | (rw [mg_up_n _ _ (by decide)]; first | assumption | exact mg_up_s _ _ _))))))) (Nat.le_of_ble_eq_true rfl) (fun _ => ⟨rfl, rfl⟩) ?_
  refine mg_eqM (M' := mg_up (mg_up (mg_up (mg_up (M) 1000 (moE (upd si 26 (nI σ.1.length)) x s)) 1000 (moE (upd (upd si 26 (nI σ.1.length)) 27 g) x s)) 1000 (moE (upd (upd (upd si 26 (nI σ.1.length)) 27 g) 28 p) x s)) 1000 (moE (upd (upd (upd (upd si 26 (nI σ.1.length)) 27 g) 28 p) 29 its) x s)) rfl ?_
  refine mg_iconst (v := 0) d_Mo_find_23 (by decide) ?_
  refine mg_istore d_Mo_find_24 (Nat.le_of_ble_eq_true rfl) rfl ?_
  have U : ∀ k, k ≠ 1000 → (mg_up (mg_up (mg_up (mg_up (M) 1000 (moE (upd si 26 (nI σ.1.length)) x s)) 1000 (moE (upd (upd si 26 (nI σ.1.length)) 27 g) x s)) 1000 (moE (upd (upd (upd si 26 (nI σ.1.length)) 27 g) 28 p) x s)) 1000 (moE (upd (upd (upd (upd si 26 (nI σ.1.length)) 27 g) 28 p) 29 its) x s)) k = M k := fun k hk => (mg_up_n _ _ hk).trans ((mg_up_n _ _ hk).trans ((mg_up_n _ _ hk).trans (mg_up_n _ _ hk)))
  have h0 : (mg_up (mg_up (mg_up (mg_up (M) 1000 (moE (upd si 26 (nI σ.1.length)) x s)) 1000 (moE (upd (upd si 26 (nI σ.1.length)) 27 g) x s)) 1000 (moE (upd (upd (upd si 26 (nI σ.1.length)) 27 g) 28 p) x s)) 1000 (moE (upd (upd (upd (upd si 26 (nI σ.1.length)) 27 g) 28 p) 29 its) x s)) 1000 = some (moE (upd (upd (upd (upd si 26 (nI σ.1.length)) 27 g) 28 p) 29 its) x s) := mg_up_s _ _ _
  generalize mg_up (mg_up (mg_up (mg_up (M) 1000 (moE (upd si 26 (nI σ.1.length)) x s)) 1000 (moE (upd (upd si 26 (nI σ.1.length)) 27 g) x s)) 1000 (moE (upd (upd (upd si 26 (nI σ.1.length)) 27 g) 28 p) x s)) 1000 (moE (upd (upd (upd (upd si 26 (nI σ.1.length)) 27 g) 28 p) 29 its) x s) = M1 at U h0 ⊢
  refine cp_find (L := σ.1) (sf := rf) h0 a3 r2 ((U _ (by decide)).trans r1) r3 (fun M' f hM hf hfr => ?_) (σ.1.length + 1) 0 _ ff (by omega) (by omega) ((U _ (by decide)).trans hf1) (fun j hj => absurd hj (Nat.not_lt_zero _)) (fun _ _ => rfl)
  have h2 : isRun M' (upd (upd (upd (upd si 26 (nI σ.1.length)) 27 g) 28 p) 29 its) x s md σ := h.fr ((hfr _ (by decide)).trans h0) (fun k hk => by rcases hk with rfl | rfl | rfl | rfl | rfl | rfl <;> rfl) (fun k k1 k2 => (hfr k (by omega)).trans (U k (by omega)))
  have hO2 := h2.1
  first | refine mg_aload_n d_Mo_find_55 rfl rfl ?_ | refine mg_aload_nN d_Mo_find_55 rfl rfl ?_
  refine mg_callV (vl_Mo_155 rfl) d_Mo_find_56 (by first | assumption | exact mg_up_s _ _ _ | (rw [mg_up_n _ _ (by decide)]; first | assumption | exact mg_up_s _ _ _ | (rw [mg_up_n _ _ (by decide)]; first | assumption | exact mg_up_s _ _ _ | (rw [mg_up_n _ _ (by decide)]; first | assumption | exact mg_up_s _ _ _ | (rw [mg_up_n _ _ (by decide)]; first | assumption | exact mg_up_s _ _ _ | (rw [mg_up_n _ _ (by decide)]; first | assumption | exact mg_up_s _ _ _ | (rw [mg_up_n _ _ (by decide)]; first | assumption | exact mg_up_s _ _ _))))))) rfl rfl (c_Mo_tell h2 ⟨tf, (hfr _ (by decide)).trans ((U _ (by decide)).trans ht1)⟩) rfl rfl (by rw [hR]; decide) (by rw [hR]; decide) (Nat.le_of_ble_eq_true rfl) ?_
  rintro v M2 ⟨rfl, t1, t2, t3⟩
  exact mg_return d_Mo_find_59 rfl (Nat.le_of_ble_eq_true rfl) (Nat.le_of_ble_eq_true rfl) ⟨rfl, t1, ⟨f, (t3 _ (by decide) (by decide)).trans hM, r2, hf⟩, t2, fun k k0 k1 k2 => (t3 k k0 k2).trans ((hfr k k1).trans (U k k0))⟩

def cpP (M : mg_M) (si : Nat → Int32) (x s : Int64) (L : List Int32) (v0 : Option Value) : Option Value → mg_M → Prop := fun v M' => v = v0 ∧ M' 1000 = some (moE (upd si 20 (nI L.length)) x s) ∧ isA M' 1008 60 L ∧ ∀ k, k ≠ 1000 → k ≠ 1008 → M' k = M k

