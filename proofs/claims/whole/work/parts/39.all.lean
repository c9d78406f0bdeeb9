/-! ALL; and a new object -/
def cntF (t : dS) (c : Nat) (s : Int64) : Nat × Int64 := if t.2.2.1 = true then (c, s) else (c + 1, addS s t.2.1)
def allF (gs : List gN) (i most : Nat) : Nat → Nat → List Int32 → Int64 → Nat × Int64
  | 0, c, _, s => (c, s)
  | n + 1, c, gv, s => if most ≤ c then (c, s) else match nextF (turnC gs i gv).1 (turnC gs i gv).2.2.2.2 (turnC gs i gv).1.length with
    | none => cntF (turnC gs i gv) c s
    | some g => allF gs i most n (cntF (turnC gs i gv) c s).1 g (cntF (turnC gs i gv) c s).2

set_option maxHeartbeats 4000000 in
set_option maxRecDepth 100000 in
theorem lp_all0 {X : mg_X} {M0 M : mg_M} {gs : List gN} {ps : List pN} {ks : List kN} {wa : Nat} {fo : fO} {le : Bool} {row nu pu : List Int32} {i most lk : Nat} {gi : Int32} {r : Nat × Int64} (h : isPS M gs ps ks wa fo le row nu pu r.2) (hC : smC M0 M) : mg_G X Y_PS_all (mg_Q X (fun v M' => v = some (.int (nI r.1)) ∧ isPS M' gs ps ks wa fo le row nu pu r.2 ∧ smC M0 M') { frames := 11, cells := 0, slots := 0, locals := 259 }) M 0 0 45 [some (.ref 1), some (.int gi), some (.int (nI most)), some (.ref (100 + i)), some (.int (nI r.1)), some (.int 0), some (.int (nI lk))] [] := by
  refine mg_iload d_PS_all_45 rfl ?_
  refine mg_sipush (v := 2000) d_PS_all_47 (by decide) ?_
  refine mg_icmp_ge (tgt := 111) d_PS_all_50 (by decide) (fun _ => ?_) (fun _ => ?_)
  · refine mg_iload d_PS_all_111 rfl ?_
    exact mg_ireturn d_PS_all_113 rfl rfl (Nat.le_of_ble_eq_true rfl) (Nat.le_of_ble_eq_true rfl) ⟨rfl, h, hC⟩
  · refine mg_iload d_PS_all_53 rfl ?_
    refine mg_iload_n d_PS_all_55 rfl rfl ?_
    refine mg_icmp_ge (tgt := 111) d_PS_all_56 (by decide) (fun _ => ?_) (fun _ => ?_)
    · refine mg_iload d_PS_all_111 rfl ?_
      exact mg_ireturn d_PS_all_113 rfl rfl (Nat.le_of_ble_eq_true rfl) (Nat.le_of_ble_eq_true rfl) ⟨rfl, h, hC⟩
    · refine mg_iload d_PS_all_59 rfl ?_
      refine mg_if_eq (tgt := 111) d_PS_all_61 (by decide) (fun _ => ?_) (fun c => absurd rfl c)
      refine mg_iload d_PS_all_111 rfl ?_
      exact mg_ireturn d_PS_all_113 rfl rfl (Nat.le_of_ble_eq_true rfl) (Nat.le_of_ble_eq_true rfl) ⟨rfl, h, hC⟩

set_option maxHeartbeats 4000000 in
set_option maxRecDepth 100000 in
theorem lp_all {X : mg_X} {M0 : mg_M} {gs : List gN} {ps : List pN} {ks : List kN} {wa : Nat} {fo : fO} {le : Bool} {row nu pu : List Int32} {i most : Nat} {gi : Int32} {g : gN} {r : Nat × Int64} (hR : mg_R X = { frames := 11, cells := 0, slots := 0, locals := 259 }) (hw : wfG gs) (hg : gs[i]? = some g) (hmo : most ≤ 200) : ∀ (n c lk : Nat) (M : mg_M) (sm0 : Int64) (gv : List Int32) (z : Int32) (x : Int64) (lm : Nat → Int32), lk + n = 2000 → c ≤ lk → isPS M gs ps ks wa fo le row nu pu sm0 → isD M 12 (2, gv, z) ([], [], false, x, lm) → smC M0 M → allF gs i most n c gv sm0 = r → mg_G X Y_PS_all (mg_Q X (fun v M' => v = some (.int (nI r.1)) ∧ isPS M' gs ps ks wa fo le row nu pu r.2 ∧ smC M0 M') { frames := 11, cells := 0, slots := 0, locals := 259 }) M 0 0 45 [some (.ref 1), some (.int gi), some (.int (nI most)), some (.ref (100 + i)), some (.int (nI c)), some (.int 1), some (.int (nI lk))] [] := by
  intro n
  induction n with
  | zero =>
    intro c lk M sm0 gv z x lm hn hc h hD hC hr
    rw [allF] at hr
    subst hr
    refine mg_iload d_PS_all_45 rfl ?_
    refine mg_sipush (v := 2000) d_PS_all_47 (by decide) ?_
    refine mg_icmp_ge (tgt := 111) d_PS_all_50 (by decide) (fun _ => ?_) (fun c_50 => absurd (nI_le (a := 2000) (b := lk) (by omega) (by omega)) c_50)
    refine mg_iload d_PS_all_111 rfl ?_
    exact mg_ireturn d_PS_all_113 rfl rfl (Nat.le_of_ble_eq_true rfl) (Nat.le_of_ble_eq_true rfl) ⟨rfl, h, hC⟩
  | succ n ih =>
    intro c lk M sm0 gv z x lm hn hc h hD hC hr
    obtain ⟨hO, hA, hB, hG, hRr, hK, h4, h6, h8, ⟨st, h10⟩, -, hF, T, hT, hJ⟩ := id h
    rw [allF] at hr
    refine mg_iload d_PS_all_45 rfl ?_
    refine mg_sipush (v := 2000) d_PS_all_47 (by decide) ?_
    refine mg_icmp_ge (tgt := 111) d_PS_all_50 (by decide) (fun c_50 => ?_) (fun c_50 => ?_)
    · exact absurd c_50 (nI_ge (a := lk) (b := 2000) (by omega) (by decide))
    · refine mg_iload d_PS_all_53 rfl ?_
      refine mg_iload_n d_PS_all_55 rfl rfl ?_
      refine mg_icmp_ge (tgt := 111) d_PS_all_56 (by decide) (fun c_56 => ?_) (fun c_56 => ?_)
      · have hge : most ≤ c := by
          rcases Nat.lt_or_ge c most with q | q
          · exact absurd c_56 (nI_ge q (by omega))
          · exact q
        rw [if_pos hge] at hr
        subst hr
        refine mg_iload d_PS_all_111 rfl ?_
        exact mg_ireturn d_PS_all_113 rfl rfl (Nat.le_of_ble_eq_true rfl) (Nat.le_of_ble_eq_true rfl) ⟨rfl, h, hC⟩
      · have hlt : ¬ most ≤ c := fun q => absurd (nI_le q (by omega)) c_56
        rw [if_neg hlt] at hr
        refine mg_iload d_PS_all_59 rfl ?_
        refine mg_if_eq (tgt := 111) d_PS_all_61 (by decide) (fun c_61 => ?_) (fun c_61 => ?_)
        · exact absurd c_61 (by decide)
        · first | refine mg_aload_n d_PS_all_64 rfl rfl ?_ | refine mg_aload_nN d_PS_all_64 rfl rfl ?_
          first | refine mg_aload_n d_PS_all_65 rfl rfl ?_ | refine mg_aload_nN d_PS_all_65 rfl rfl ?_
          refine mg_getfield fl_PS_40 d_PS_all_66 hO rfl ?_
          refine mg_callG (gv_PS rfl) d_PS_all_69 hG hg (wf_dp hw hg).1 (c_give hw _ 8 i g hg (wf_dp hw hg).2 8 _ _ (wf_dp hw hg).2 hG hD) rfl (by rw [hR]; have := (wf_dp hw hg).2; constructor <;> simp only [] <;> omega) (by rw [hR]; exact ⟨Nat.le_of_ble_eq_true rfl, Nat.le_of_ble_eq_true rfl⟩) (Nat.le_of_ble_eq_true rfl) ?_
          rintro v M3 ⟨rfl, hD3, hs3⟩
          obtain ⟨t1, t2, tn⟩ := turn_eq gs i gv z x lm
          generalize giveF gs (2, gv, z) 8 i ([], [], false, x, lm) = σ3 at hD3 t1 t2 tn
          obtain ⟨cs3, ns3, il3, x3, lm3⟩ := σ3
          replace t1 : ns3 = (turnC gs i gv).2.1 := t1
          replace t2 : il3 = (turnC gs i gv).2.2.1 := t2
          replace tn : nextF cs3 lm3 cs3.length = _ := tn
          have h3 := h.mk' ((hs3 1 (by omega)).trans hO) (h4.sm hs3 (by omega)) (h6.sm hs3 (by omega)) (h8.sm hs3 (by omega)) ⟨st, h10.sm hs3 (by omega)⟩ ⟨_, _, hD3⟩ (fun k hk => hs3 k (by omega))
          replace hC := hC.tr (smC.of hs3 (by omega) (by omega))
          clear h hO hA hB hG hRr hK h4 h6 h8 h10 hD hF hT hJ hs3
          have h := h3
          clear h3
          obtain ⟨hO, hA, hB, hG, hRr, hK, h4, h6, h8, ⟨st, h10⟩, -, hF, T, hT, hJ⟩ := id h
          have hD := hD3
          clear hD3
          first | refine mg_aload_n d_PS_all_72 rfl rfl ?_ | refine mg_aload_nN d_PS_all_72 rfl rfl ?_
          refine mg_getfield fl_PS_40 d_PS_all_73 hO rfl ?_
          refine mg_getfield fl_PS_149 d_PS_all_76 hD.1 rfl ?_
          refine mg_if_ne (tgt := 96) d_PS_all_79 (by decide) (fun c_79 => ?_) (fun c_79 => ?_)
          · obtain rfl := bI_t c_79
            have hcn : cntF (turnC gs i gv) c sm0 = (c, sm0) := by unfold cntF; rw [← t2, if_pos rfl]
            refine mg_aload_n d_PS_all_96 rfl rfl ?_
            refine mg_getfield fl_PS_40 d_PS_all_97 hO rfl ?_
            refine mg_callV (vl_PS_155 rfl) d_PS_all_100 hD.1 rfl rfl (c_Dr_beginNextTurn hD) rfl rfl (by rw [hR]; decide) (by rw [hR]; decide) (Nat.le_of_ble_eq_true rfl) ?_
            intro v M6 hq
            rw [tn] at hq
            refine ?_
            cases hx : nextF (turnC gs i gv).1 (turnC gs i gv).2.2.2.2 (turnC gs i gv).1.length with
            | none =>
              rw [hx] at hq hr
              obtain ⟨rfl, rfl⟩ := hq
              dsimp only at hr
              refine mg_istore d_PS_all_103 (Nat.le_of_ble_eq_true rfl) rfl ?_
              refine mg_iinc (v := nI (lk + 1)) d_PS_all_105 rfl (nI_1 _) (Nat.le_of_ble_eq_true rfl) rfl ?_
              refine mg_goto (tgt := 45) d_PS_all_108 (by decide) ?_
              rw [hcn] at hr
              subst hr
              exact lp_all0 (r := (c, sm0)) h hC
            | some g2 =>
              rw [hx] at hq hr
              obtain ⟨rfl, qD, qs⟩ := hq
              dsimp only at hr
              rw [hcn] at hr
              refine mg_istore d_PS_all_103 (Nat.le_of_ble_eq_true rfl) rfl ?_
              refine mg_iinc (v := nI (lk + 1)) d_PS_all_105 rfl (nI_1 _) (Nat.le_of_ble_eq_true rfl) rfl ?_
              refine mg_goto (tgt := 45) d_PS_all_108 (by decide) ?_
              have h6' : isPS M6 gs ps ks wa fo le row nu pu sm0 := h.mk' ((qs 1 (by omega)).trans hO) (h4.sm qs (by omega)) (h6.sm qs (by omega)) (h8.sm qs (by omega)) ⟨st, h10.sm qs (by omega)⟩ ⟨_, _, qD⟩ (fun k hk => qs k (by omega))
              exact ih (c) (lk + 1) _ _ _ _ _ _ (by omega) (by omega) h6' qD (hC.tr (smC.of qs (by omega) (by omega))) hr
          · obtain rfl := bI_f c_79
            have hcn : cntF (turnC gs i gv) c sm0 = (c + 1, addS sm0 ns3) := by unfold cntF; rw [← t2, if_neg (by decide), ← t1]
            refine mg_iinc (v := nI (c + 1)) d_PS_all_82 rfl (nI_1 _) (Nat.le_of_ble_eq_true rfl) rfl ?_
            first | refine mg_aload_n d_PS_all_85 rfl rfl ?_ | refine mg_aload_nN d_PS_all_85 rfl rfl ?_
            first | refine mg_aload_n d_PS_all_86 rfl rfl ?_ | refine mg_aload_nN d_PS_all_86 rfl rfl ?_
            refine mg_getfield fl_PS_40 d_PS_all_87 hO rfl ?_
            refine mg_getfield fl_PS_122 d_PS_all_90 hD.1 rfl ?_
            refine mg_callV (vl_PS_152 rfl) d_PS_all_93 hO rfl rfl (c_PS_addToRowsSum hO hD.2.2.1 (by omega)) rfl rfl (by rw [hR]; decide) (by rw [hR]; decide) (Nat.le_of_ble_eq_true rfl) ?_
            rintro v M5 ⟨rfl, qO, qs⟩
            have h5 := h.mk' qO (h4.sm qs (by omega)) (h6.sm qs (by omega)) (h8.sm qs (by omega)) ⟨st, h10.sm qs (by omega)⟩ ⟨_, _, hD.fr qs (by omega)⟩ (fun k hk => qs k (by omega))
            replace hC := hC.tr (smC.of qs (by omega) (by omega))
            replace hD := hD.fr qs (by omega)
            clear h hO hA hB hG hRr hK h4 h6 h8 h10 hF hT hJ
            have h := h5
            clear h5
            obtain ⟨hO, hA, hB, hG, hRr, hK, h4, h6, h8, ⟨st, h10⟩, -, hF, T, hT, hJ⟩ := id h
            dsimp only at h hO
            refine mg_aload_n d_PS_all_96 rfl rfl ?_
            refine mg_getfield fl_PS_40 d_PS_all_97 hO rfl ?_
            refine mg_callV (vl_PS_155 rfl) d_PS_all_100 hD.1 rfl rfl (c_Dr_beginNextTurn hD) rfl rfl (by rw [hR]; decide) (by rw [hR]; decide) (Nat.le_of_ble_eq_true rfl) ?_
            intro v M6 hq
            rw [tn] at hq
            refine ?_
            cases hx : nextF (turnC gs i gv).1 (turnC gs i gv).2.2.2.2 (turnC gs i gv).1.length with
            | none =>
              rw [hx] at hq hr
              obtain ⟨rfl, rfl⟩ := hq
              dsimp only at hr
              refine mg_istore d_PS_all_103 (Nat.le_of_ble_eq_true rfl) rfl ?_
              refine mg_iinc (v := nI (lk + 1)) d_PS_all_105 rfl (nI_1 _) (Nat.le_of_ble_eq_true rfl) rfl ?_
              refine mg_goto (tgt := 45) d_PS_all_108 (by decide) ?_
              rw [hcn] at hr
              subst hr
              exact lp_all0 (r := (c + 1, (addS sm0 ns3))) h hC
            | some g2 =>
              rw [hx] at hq hr
              obtain ⟨rfl, qD, qs⟩ := hq
              dsimp only at hr
              rw [hcn] at hr
              refine mg_istore d_PS_all_103 (Nat.le_of_ble_eq_true rfl) rfl ?_
              refine mg_iinc (v := nI (lk + 1)) d_PS_all_105 rfl (nI_1 _) (Nat.le_of_ble_eq_true rfl) rfl ?_
              refine mg_goto (tgt := 45) d_PS_all_108 (by decide) ?_
              have h6' : isPS M6 gs ps ks wa fo le row nu pu (addS sm0 ns3) := h.mk' ((qs 1 (by omega)).trans hO) (h4.sm qs (by omega)) (h6.sm qs (by omega)) (h8.sm qs (by omega)) ⟨st, h10.sm qs (by omega)⟩ ⟨_, _, qD⟩ (fun k hk => qs k (by omega))
              exact ih (c + 1) (lk + 1) _ _ _ _ _ _ (by omega) (by omega) h6' qD (hC.tr (smC.of qs (by omega) (by omega))) hr

set_option maxHeartbeats 4000000 in
set_option maxRecDepth 100000 in
theorem c_PS_all_n {M : mg_M} {gs : List gN} {ps : List pN} {ks : List kN} {wa : Nat} {fo : fO} {le : Bool} {row nu pu : List Int32} {s : Int64} {gi mo : Int32} (h : isPS M gs ps ks wa fo le row nu pu s) (hi : offR gi gs.length) : mg_Ct Y_PS_all { frames := 11, cells := 0, slots := 0, locals := 259 } [.ref 1, .int gi, .int mo] M (fun v M' => v = some (.int (-1)) ∧ M' = M) := by
  obtain ⟨hO, hA, hB, hG, hRr, hK, h4, h6, h8, ⟨st, h10⟩, ⟨md, σ, hD⟩, hF, T, hT, hJ⟩ := id h
  refine mg_met [some (.ref 1), some (.int gi), some (.int mo), none, none, none, none] (by decide +kernel) rfl (Nat.le_of_ble_eq_true rfl) ?_
  intro X hR _
  first | refine mg_aload_n d_PS_all_0 rfl rfl ?_ | refine mg_aload_nN d_PS_all_0 rfl rfl ?_
  refine mg_iload_n d_PS_all_1 rfl rfl ?_
  refine mg_callV (vl_PS_61 rfl) d_PS_all_2 hO rfl rfl (c_PS_generatorAt_out hO hi) rfl rfl (by rw [hR]; decide) (by rw [hR]; decide) (Nat.le_of_ble_eq_true rfl) ?_
  rintro v M2 ⟨rfl, rfl⟩
  first | refine mg_astore_n d_PS_all_5 rfl (Nat.le_of_ble_eq_true rfl) rfl ?_ | refine mg_astore_nN d_PS_all_5 rfl (Nat.le_of_ble_eq_true rfl) rfl ?_
  first | refine mg_aload_n d_PS_all_6 rfl rfl ?_ | refine mg_aload_nN d_PS_all_6 rfl rfl ?_
  refine mg_ifnullN (tgt := 22) d_PS_all_7 (by decide) ?_
  refine mg_iconst (v := -1) d_PS_all_22 (by decide) ?_
  exact mg_ireturn d_PS_all_23 rfl rfl (Nat.le_of_ble_eq_true rfl) (Nat.le_of_ble_eq_true rfl) ⟨rfl, rfl⟩

set_option maxHeartbeats 4000000 in
set_option maxRecDepth 100000 in
theorem c_PS_all_m {M : mg_M} {gs : List gN} {ps : List pN} {ks : List kN} {wa : Nat} {fo : fO} {le : Bool} {row nu pu : List Int32} {s : Int64} {mo : Int32} {i : Nat} (h : isPS M gs ps ks wa fo le row nu pu s) (hw : wfG gs) (hi : i < gs.length) (hb : mo < 1 ∨ 200 < mo) : mg_Ct Y_PS_all { frames := 11, cells := 0, slots := 0, locals := 259 } [.ref 1, .int (nI i), .int mo] M (fun v M' => v = some (.int (-1)) ∧ M' = M) := by
  obtain ⟨hO, hA, hB, hG, hRr, hK, h4, h6, h8, ⟨st, h10⟩, ⟨md, σ, hD⟩, hF, T, hT, hJ⟩ := id h
  refine mg_met [some (.ref 1), some (.int (nI i)), some (.int mo), none, none, none, none] (by decide +kernel) rfl (Nat.le_of_ble_eq_true rfl) ?_
  intro X hR _
  first | refine mg_aload_n d_PS_all_0 rfl rfl ?_ | refine mg_aload_nN d_PS_all_0 rfl rfl ?_
  refine mg_iload_n d_PS_all_1 rfl rfl ?_
  refine mg_callV (vl_PS_61 rfl) d_PS_all_2 hO rfl rfl (c_PS_generatorAt_in hO hA hi hw.1) rfl rfl (by rw [hR]; decide) (by rw [hR]; decide) (Nat.le_of_ble_eq_true rfl) ?_
  rintro v M2 ⟨rfl, rfl⟩
  first | refine mg_astore_n d_PS_all_5 rfl (Nat.le_of_ble_eq_true rfl) rfl ?_ | refine mg_astore_nN d_PS_all_5 rfl (Nat.le_of_ble_eq_true rfl) rfl ?_
  first | refine mg_aload_n d_PS_all_6 rfl rfl ?_ | refine mg_aload_nN d_PS_all_6 rfl rfl ?_
  refine mg_ifnull d_PS_all_7 ?_
  refine mg_iload_n d_PS_all_10 rfl rfl ?_
  refine mg_iconst (v := 1) d_PS_all_11 (by decide) ?_
  refine mg_icmp_lt (tgt := 22) d_PS_all_12 (by decide) (fun c_12 => ?_) (fun c_12 => ?_)
  · refine mg_iconst (v := -1) d_PS_all_22 (by decide) ?_
    exact mg_ireturn d_PS_all_23 rfl rfl (Nat.le_of_ble_eq_true rfl) (Nat.le_of_ble_eq_true rfl) ⟨rfl, rfl⟩
  · refine mg_iload_n d_PS_all_15 rfl rfl ?_
    refine mg_sipush (v := 200) d_PS_all_16 (by decide) ?_
    refine mg_icmp_le (tgt := 24) d_PS_all_19 (by decide) (fun c_19 => ?_) (fun c_19 => ?_)
    · exact False.elim (hb.elim c_12 (fun q => Int32.not_lt.mpr c_19 q))
    · refine mg_iconst (v := -1) d_PS_all_22 (by decide) ?_
      exact mg_ireturn d_PS_all_23 rfl rfl (Nat.le_of_ble_eq_true rfl) (Nat.le_of_ble_eq_true rfl) ⟨rfl, rfl⟩

set_option maxHeartbeats 4000000 in
set_option maxRecDepth 100000 in
theorem c_PS_all {M : mg_M} {gs : List gN} {ps : List pN} {ks : List kN} {wa : Nat} {fo : fO} {le : Bool} {row nu pu : List Int32} {s : Int64} {i most : Nat} {g : gN} (h : isPS M gs ps ks wa fo le row nu pu s) (hw : wfG gs) (hg : gs[i]? = some g) (hm1 : 1 ≤ most) (hm2 : most ≤ 200) : mg_Ct Y_PS_all { frames := 11, cells := 0, slots := 0, locals := 259 } [.ref 1, .int (nI i), .int (nI most)] M (fun v M' => v = some (.int (nI (allF gs i most 2000 0 [] 0).1)) ∧ isPS M' gs ps ks wa fo le row nu pu (allF gs i most 2000 0 [] 0).2 ∧ smC M M') := by
  obtain ⟨hO, hA, hB, hG, hRr, hK, h4, h6, h8, ⟨st, h10⟩, ⟨md, σ, hD⟩, hF, T, hT, hJ⟩ := id h
  obtain ⟨how, gv, z⟩ := md
  obtain ⟨cs, ns, il, x, lm⟩ := σ
  have hi := (List.getElem?_eq_some_iff.mp hg).1
  refine mg_met [some (.ref 1), some (.int (nI i)), some (.int (nI most)), none, none, none, none] (by decide +kernel) rfl (Nat.le_of_ble_eq_true rfl) ?_
  intro X hR _
  first | refine mg_aload_n d_PS_all_0 rfl rfl ?_ | refine mg_aload_nN d_PS_all_0 rfl rfl ?_
  refine mg_iload_n d_PS_all_1 rfl rfl ?_
  refine mg_callV (vl_PS_61 rfl) d_PS_all_2 hO rfl rfl (c_PS_generatorAt_in hO hA hi hw.1) rfl rfl (by rw [hR]; decide) (by rw [hR]; decide) (Nat.le_of_ble_eq_true rfl) ?_
  rintro v M2 ⟨rfl, rfl⟩
  first | refine mg_astore_n d_PS_all_5 rfl (Nat.le_of_ble_eq_true rfl) rfl ?_ | refine mg_astore_nN d_PS_all_5 rfl (Nat.le_of_ble_eq_true rfl) rfl ?_
  first | refine mg_aload_n d_PS_all_6 rfl rfl ?_ | refine mg_aload_nN d_PS_all_6 rfl rfl ?_
  refine mg_ifnull d_PS_all_7 ?_
  refine mg_iload_n d_PS_all_10 rfl rfl ?_
  refine mg_iconst (v := 1) d_PS_all_11 (by decide) ?_
  refine mg_icmp_lt (tgt := 22) d_PS_all_12 (by decide) (fun c_12 => ?_) (fun c_12 => ?_)
  · exact absurd c_12 (nI_nlt (b := 1) hm1 (by omega))
  · refine mg_iload_n d_PS_all_15 rfl rfl ?_
    refine mg_sipush (v := 200) d_PS_all_16 (by decide) ?_
    refine mg_icmp_le (tgt := 24) d_PS_all_19 (by decide) (fun c_19 => ?_) (fun c_19 => ?_)
    · first | refine mg_aload_n d_PS_all_24 rfl rfl ?_ | refine mg_aload_nN d_PS_all_24 rfl rfl ?_
      refine mg_lconst (v := 0) d_PS_all_25 (by decide) ?_
      refine mg_putfield (fw_PS_138 _) d_PS_all_26 hO (Nat.le_of_ble_eq_true rfl) (fun _ => ⟨rfl, rfl⟩) ?_
      refine mg_eqM (M' := mg_up M2 1 (psF gs.length ps.length (kpV ks.length) ks.length (nI wa) (foG fo) (foP fo) (foV fo) le 0)) rfl ?_
      have h1 : isPS (mg_up M2 1 (psF gs.length ps.length (kpV ks.length) ks.length (nI wa) (foG fo) (foP fo) (foV fo) le 0)) gs ps ks wa fo le row nu pu 0 := h.mk' (mg_up_s _ _ _) (h4.up (by omega) (by omega)) (h6.up (by omega) (by omega)) (h8.up (by omega) (by omega)) ⟨st, h10.up (by omega) (by omega)⟩ ⟨_, _, hD.up (by omega)⟩ (fun k hk => mg_up_n _ _ (by omega))
      have hC1 : smC M2 (mg_up M2 1 (psF gs.length ps.length (kpV ks.length) ks.length (nI wa) (foG fo) (foP fo) (foV fo) le 0)) := fun k hk => mg_up_n _ _ (by omega)
      replace hD := hD.up (k := 1) (e := psF gs.length ps.length (kpV ks.length) ks.length (nI wa) (foG fo) (foP fo) (foV fo) le 0) (by omega)
      generalize mg_up M2 1 (psF gs.length ps.length (kpV ks.length) ks.length (nI wa) (foG fo) (foP fo) (foV fo) le 0) = M3 at h1 hC1 hD ⊢
      clear h hO hA hB hG hRr hK h4 h6 h8 h10 hF hT hJ
      obtain ⟨hO, hA, hB, hG, hRr, hK, h4, h6, h8, ⟨st, h10⟩, -, hF, T, hT, hJ⟩ := id h1
      refine mg_iconst (v := 0) d_PS_all_29 (by decide) ?_
      refine mg_istore d_PS_all_30 (Nat.le_of_ble_eq_true rfl) rfl ?_
      refine mg_iconst (v := 1) d_PS_all_32 (by decide) ?_
      refine mg_istore d_PS_all_33 (Nat.le_of_ble_eq_true rfl) rfl ?_
      first | refine mg_aload_n d_PS_all_35 rfl rfl ?_ | refine mg_aload_nN d_PS_all_35 rfl rfl ?_
      refine mg_getfield fl_PS_40 d_PS_all_36 hO rfl ?_
      refine mg_callV (vl_PS_142 rfl) d_PS_all_39 hD.1 rfl rfl (c_Dr_beginFirstTurn hD) rfl rfl (by rw [hR]; decide) (by rw [hR]; decide) (Nat.le_of_ble_eq_true rfl) ?_
      rintro v M4 ⟨rfl, hD4, hs4⟩
      have h4' := h1.mk' ((hs4 1 (by omega)).trans hO) (h4.sm hs4 (by omega)) (h6.sm hs4 (by omega)) (h8.sm hs4 (by omega)) ⟨st, h10.sm hs4 (by omega)⟩ ⟨_, _, hD4⟩ (fun k hk => hs4 k (by omega))
      refine mg_iconst (v := 0) d_PS_all_42 (by decide) ?_
      refine mg_istore d_PS_all_43 (Nat.le_of_ble_eq_true rfl) rfl ?_
      exact lp_all hR hw hg hm2 2000 0 0 M4 0 [] _ _ _ (by omega) (by omega) h4' hD4 (hC1.tr (smC.of hs4 (by omega) (by omega))) rfl
    · exact absurd (nI_le (b := 200) hm2 (by decide)) c_19

