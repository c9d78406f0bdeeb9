/-! THE REFERENCE's go -/
def siG (si si' : Nat → Int32) : Prop := ∀ k, k ≠ 10 → k ≠ 11 → k ≠ 12 → k ≠ 15 → k ≠ 25 → si' k = si k
theorem siG.rf {si : Nat → Int32} : siG si si := fun _ _ _ _ _ _ => rfl
theorem siG.tr {a b c : Nat → Int32} (h : siG a b) (h' : siG b c) : siG a c := fun k h0 h1 h2 h3 h4 => (h' k h0 h1 h2 h3 h4).trans (h k h0 h1 h2 h3 h4)
theorem siG.up {a b : Nat → Int32} {n : Nat} {v : Int32} (h : siG a b) (hn : n = 10 ∨ n = 11 ∨ n = 12 ∨ n = 15 ∨ n = 25) : siG a (upd b n v) := fun k h0 h1 h2 h3 h4 => (pk_un (by omega)).trans (h k h0 h1 h2 h3 h4)
theorem siR.g {a b : Nat → Int32} (h : siR a b) : siG a b := fun k _ h1 h2 h3 h4 => h k h1 h2 h3 h4
def isWk (M : mg_M) : Prop := (∃ f, M 1009 = some (iaE 60 f)) ∧ (∃ f, M 1010 = some (iaE 60 f)) ∧ (∃ f, M 1011 = some (iaE 60 f)) ∧ ∃ pi sg co sa, isSt M pi sg co sa
theorem isMR.wk {M : mg_M} {si : Nat → Int32} {s : Int64} {md : dM} {σ : dS} {fr : List fR} (h : isMR M si s md σ fr) : isWk M := by
  obtain ⟨⟨a1, a2, a3, a4, a5, a6, a7, a8, a9, ⟨f, a10, -⟩, a11, ⟨f2, a12, -⟩⟩, hh, pi, sg, co, sa, hS, hk⟩ := h
  exact ⟨⟨f, a10⟩, ⟨_, a11⟩, ⟨f2, a12⟩, pi, sg, co, sa, hS⟩
def gRel (τ T : dS) : Prop := τ.1 = T.1 ∧ τ.2.2 = T.2.2 ∧ (T.2.2.1 = false → τ.2.1 = T.2.1)
def goP (M : mg_M) (si : Nat → Int32) (s : Int64) (gs : List gN) (md : dM) (i : Nat) (x : Int64) : Option Value → mg_M → Prop := fun v M' => v = none ∧ ∃ si' τ lm, isRun M' si' τ.2.2.2.1 s md τ ∧ isWk M' ∧ gRel τ (giveF gs md 8 i ([], [], false, x, lm)) ∧ siG si si' ∧ smR M M'

set_option maxHeartbeats 4000000 in
set_option maxRecDepth 100000 in
theorem go_exit {X : mg_X} {M0 M : mg_M} {si0 si : Nat → Int32} {s : Int64} {md : dM} {σ : dS} {fr : List fR} {i : Nat} {how : Int32} (h : isMR M si s md σ fr) (hst : fr = [] ∨ σ.2.2.1 = true) (hsi : siG si0 si) (hs : smR M0 M) {P : Option Value → mg_M → Prop} (hP : ∀ M' si', isMR M' si' s md σ fr → siG si0 si' → smR M0 M' → P none M') : mg_G X Y_Mo_go (mg_Q X P { frames := 3, cells := 0, slots := 0, locals := 71 }) M 0 0 30 [some (.ref 1000), some (.int (nI i)), some (.int how)] [] := by
  have hO := h.1.1
  have hh := h.2.1
  first | refine mg_aload_n d_Mo_go_30 rfl rfl ?_ | refine mg_aload_nN d_Mo_go_30 rfl rfl ?_
  refine mg_getfield fl_Mo_121 d_Mo_go_31 (by first | assumption | exact mg_up_s _ _ _ | (rw [mg_up_n _ _ (by decide)]; first | assumption | exact mg_up_s _ _ _ | (rw [mg_up_n _ _ (by decide)]; first | assumption | exact mg_up_s _ _ _ | (rw [mg_up_n _ _ (by decide)]; first | assumption | exact mg_up_s _ _ _ | (rw [mg_up_n _ _ (by decide)]; first | assumption | exact mg_up_s _ _ _ | (rw [mg_up_n _ _ (by decide)]; first | assumption | exact mg_up_s _ _ _ | (rw [mg_up_n _ _ (by decide)]; first | assumption | exact mg_up_s _ _ _))))))) rfl ?_
  refine mg_if_le (tgt := 68) d_Mo_go_34 (by decide) (fun c_34 => ?_) (fun c_34 => ?_)
  · exact mg_return d_Mo_go_68 rfl (Nat.le_of_ble_eq_true rfl) (Nat.le_of_ble_eq_true rfl) (hP _ _ h hsi hs)
  · have hill : σ.2.2.1 = true := hst.elim (fun e => absurd (show si 25 ≤ 0 by rw [hh, e]; decide) c_34) id
    first | refine mg_aload_n d_Mo_go_37 rfl rfl ?_ | refine mg_aload_nN d_Mo_go_37 rfl rfl ?_
    refine mg_getfield fl_Mo_114 d_Mo_go_38 (by first | assumption | exact mg_up_s _ _ _ | (rw [mg_up_n _ _ (by decide)]; first | assumption | exact mg_up_s _ _ _ | (rw [mg_up_n _ _ (by decide)]; first | assumption | exact mg_up_s _ _ _ | (rw [mg_up_n _ _ (by decide)]; first | assumption | exact mg_up_s _ _ _ | (rw [mg_up_n _ _ (by decide)]; first | assumption | exact mg_up_s _ _ _ | (rw [mg_up_n _ _ (by decide)]; first | assumption | exact mg_up_s _ _ _ | (rw [mg_up_n _ _ (by decide)]; first | assumption | exact mg_up_s _ _ _))))))) rfl ?_
    refine mg_if_ne (tgt := 68) d_Mo_go_41 (by decide) (fun c_41 => ?_) (fun c_41 => ?_)
    · exact mg_return d_Mo_go_68 rfl (Nat.le_of_ble_eq_true rfl) (Nat.le_of_ble_eq_true rfl) (hP _ _ h hsi hs)
    · exact absurd (show si 15 = 0 by first | exact c_41 | exact Decidable.not_not.mp c_41) (by rw [h.1.2.2.2.2.2.2.1, hill]; decide)

theorem mg_eqst {X : mg_X} {Y : mg_Y} {Q : State → Prop} {M : mg_M} {k j pc : Nat} {lv : List (Option Value)} {st st' : List Value} (e : st = st') (kk : mg_G X Y Q M k j pc lv st') : mg_G X Y Q M k j pc lv st := e ▸ kk
set_option maxHeartbeats 4000000 in
set_option maxRecDepth 100000 in
theorem go_turn {X : mg_X} {Q : State → Prop} {M : mg_M} {gs : List gN} {si : Nat → Int32} {s : Int64} {md : dM} {σ : dS} {g a i : Nat} {s0 c how : Int32} {r : List fR} (hR : mg_R X = { frames := 3, cells := 0, slots := 0, locals := 71 }) (hw : wfG gs) (hm : okM md) (hσ : okS md σ) (hil : σ.2.2.1 = false) (hGM : isGM M gs) (hok : okF gs σ.2.1.length ((g, s0, c, a) :: r)) (h : isMR M si s md σ ((g, s0, c, a) :: r)) (kk : ∀ M2 si2, isMR M2 si2 s md (turnF gs md σ ((g, s0, c, a) :: r)).1 (turnF gs md σ ((g, s0, c, a) :: r)).2 → siR si si2 → smR M M2 → mg_G X Y_Mo_go Q M2 0 0 30 [some (.ref 1000), some (.int (nI i)), some (.int how)] []) : mg_G X Y_Mo_go Q M 0 0 30 [some (.ref 1000), some (.int (nI i)), some (.int how)] [] := by
  obtain ⟨hRun, hh, pi, sg, co, sa, ⟨q1, q2, q3, q4⟩, t1, t2, t3, t4, t5⟩ := id h
  have hO := hRun.1
  replace hh : si 25 = nI (r.length + 1) := hh
  have hl : r.length ≤ 8 := by
    obtain ⟨⟨G, -, hGl⟩, -⟩ := hok
    omega
  have hink : vp_in (nI r.length) 20 := vp_in_nI (by omega) (by decide)
  first | refine mg_aload_n d_Mo_go_30 rfl rfl ?_ | refine mg_aload_nN d_Mo_go_30 rfl rfl ?_
  refine mg_getfield fl_Mo_121 d_Mo_go_31 (by first | assumption | exact mg_up_s _ _ _ | (rw [mg_up_n _ _ (by decide)]; first | assumption | exact mg_up_s _ _ _ | (rw [mg_up_n _ _ (by decide)]; first | assumption | exact mg_up_s _ _ _ | (rw [mg_up_n _ _ (by decide)]; first | assumption | exact mg_up_s _ _ _ | (rw [mg_up_n _ _ (by decide)]; first | assumption | exact mg_up_s _ _ _ | (rw [mg_up_n _ _ (by decide)]; first | assumption | exact mg_up_s _ _ _ | (rw [mg_up_n _ _ (by decide)]; first | assumption | exact mg_up_s _ _ _))))))) rfl ?_
  refine mg_if_le (tgt := 68) d_Mo_go_34 (by decide) (fun c_34 => ?_) (fun c_34 => ?_)
  · exact absurd ((nI_leI (b := 0) (by omega) (by decide)).mp (show nI (r.length + 1) ≤ nI 0 by rw [← hh]; exact c_34)) (by omega)
  · first | refine mg_aload_n d_Mo_go_37 rfl rfl ?_ | refine mg_aload_nN d_Mo_go_37 rfl rfl ?_
    refine mg_getfield fl_Mo_114 d_Mo_go_38 (by first | assumption | exact mg_up_s _ _ _ | (rw [mg_up_n _ _ (by decide)]; first | assumption | exact mg_up_s _ _ _ | (rw [mg_up_n _ _ (by decide)]; first | assumption | exact mg_up_s _ _ _ | (rw [mg_up_n _ _ (by decide)]; first | assumption | exact mg_up_s _ _ _ | (rw [mg_up_n _ _ (by decide)]; first | assumption | exact mg_up_s _ _ _ | (rw [mg_up_n _ _ (by decide)]; first | assumption | exact mg_up_s _ _ _ | (rw [mg_up_n _ _ (by decide)]; first | assumption | exact mg_up_s _ _ _))))))) rfl ?_
    refine mg_if_ne (tgt := 68) d_Mo_go_41 (by decide) (fun c_41 => ?_) (fun c_41 => ?_)
    · exact absurd (show si 15 = 0 by rw [h.1.2.2.2.2.2.2.1, hil]; rfl) c_41
    · first | refine mg_aload_n d_Mo_go_44 rfl rfl ?_ | refine mg_aload_nN d_Mo_go_44 rfl rfl ?_
      first | refine mg_aload_n d_Mo_go_45 rfl rfl ?_ | refine mg_aload_nN d_Mo_go_45 rfl rfl ?_
      refine mg_getfield fl_Mo_121 d_Mo_go_46 (by first | assumption | exact mg_up_s _ _ _ | (rw [mg_up_n _ _ (by decide)]; first | assumption | exact mg_up_s _ _ _ | (rw [mg_up_n _ _ (by decide)]; first | assumption | exact mg_up_s _ _ _ | (rw [mg_up_n _ _ (by decide)]; first | assumption | exact mg_up_s _ _ _ | (rw [mg_up_n _ _ (by decide)]; first | assumption | exact mg_up_s _ _ _ | (rw [mg_up_n _ _ (by decide)]; first | assumption | exact mg_up_s _ _ _ | (rw [mg_up_n _ _ (by decide)]; first | assumption | exact mg_up_s _ _ _))))))) rfl ?_
      refine mg_iconst (v := 1) d_Mo_go_49 (by decide) ?_
      refine mg_isub d_Mo_go_50 ?_
      first | refine mg_aload_n d_Mo_go_51 rfl rfl ?_ | refine mg_aload_nN d_Mo_go_51 rfl rfl ?_
      refine mg_getfield fl_Mo_43 d_Mo_go_52 (by first | assumption | exact mg_up_s _ _ _ | (rw [mg_up_n _ _ (by decide)]; first | assumption | exact mg_up_s _ _ _ | (rw [mg_up_n _ _ (by decide)]; first | assumption | exact mg_up_s _ _ _ | (rw [mg_up_n _ _ (by decide)]; first | assumption | exact mg_up_s _ _ _ | (rw [mg_up_n _ _ (by decide)]; first | assumption | exact mg_up_s _ _ _ | (rw [mg_up_n _ _ (by decide)]; first | assumption | exact mg_up_s _ _ _ | (rw [mg_up_n _ _ (by decide)]; first | assumption | exact mg_up_s _ _ _))))))) rfl ?_
      first | refine mg_aload_n d_Mo_go_55 rfl rfl ?_ | refine mg_aload_nN d_Mo_go_55 rfl rfl ?_
      refine mg_getfield fl_Mo_121 d_Mo_go_56 (by first | assumption | exact mg_up_s _ _ _ | (rw [mg_up_n _ _ (by decide)]; first | assumption | exact mg_up_s _ _ _ | (rw [mg_up_n _ _ (by decide)]; first | assumption | exact mg_up_s _ _ _ | (rw [mg_up_n _ _ (by decide)]; first | assumption | exact mg_up_s _ _ _ | (rw [mg_up_n _ _ (by decide)]; first | assumption | exact mg_up_s _ _ _ | (rw [mg_up_n _ _ (by decide)]; first | assumption | exact mg_up_s _ _ _ | (rw [mg_up_n _ _ (by decide)]; first | assumption | exact mg_up_s _ _ _))))))) rfl ?_
      refine mg_iconst (v := 1) d_Mo_go_59 (by decide) ?_
      refine mg_isub d_Mo_go_60 ?_
      refine mg_eqi (y := nI r.length) (by rw [hh, nI_pred]) ?_
      refine mg_iaload rfl d_Mo_go_61 (by first | assumption | exact mg_up_s _ _ _ | (rw [mg_up_n _ _ (by decide)]; first | assumption | exact mg_up_s _ _ _ | (rw [mg_up_n _ _ (by decide)]; first | assumption | exact mg_up_s _ _ _ | (rw [mg_up_n _ _ (by decide)]; first | assumption | exact mg_up_s _ _ _ | (rw [mg_up_n _ _ (by decide)]; first | assumption | exact mg_up_s _ _ _ | (rw [mg_up_n _ _ (by decide)]; first | assumption | exact mg_up_s _ _ _ | (rw [mg_up_n _ _ (by decide)]; first | assumption | exact mg_up_s _ _ _))))))) hink ?_
      refine mg_eqi (y := nI g) (by rw [nI_clamp (by omega)]; exact t1) ?_
      refine mg_eqst (st' := [.int (nI g), .int (nI r.length), .ref 1000]) (by rw [hh, nI_pred]) ?_
      refine mg_callV (vl_Mo_131 rfl) d_Mo_go_62 (by first | assumption | exact mg_up_s _ _ _ | (rw [mg_up_n _ _ (by decide)]; first | assumption | exact mg_up_s _ _ _ | (rw [mg_up_n _ _ (by decide)]; first | assumption | exact mg_up_s _ _ _ | (rw [mg_up_n _ _ (by decide)]; first | assumption | exact mg_up_s _ _ _ | (rw [mg_up_n _ _ (by decide)]; first | assumption | exact mg_up_s _ _ _ | (rw [mg_up_n _ _ (by decide)]; first | assumption | exact mg_up_s _ _ _ | (rw [mg_up_n _ _ (by decide)]; first | assumption | exact mg_up_s _ _ _))))))) rfl rfl (c_Mo_turn hw hm hσ hil hGM hok h) rfl rfl (by rw [hR]; decide) (by rw [hR]; decide) (Nat.le_of_ble_eq_true rfl) ?_
      rintro v M2 ⟨rfl, si2, h2, hs2, hm2⟩
      refine mg_goto (tgt := 30) d_Mo_go_65 (by decide) ?_
      exact kk M2 si2 h2 hs2 hm2

theorem lp_Mo_go {X : mg_X} {M0 : mg_M} {si0 : Nat → Int32} {gs : List gN} {s : Int64} {md : dM} {i : Nat} {how : Int32} {τ : dS} {fr' : List fR} (hR : mg_R X = { frames := 3, cells := 0, slots := 0, locals := 71 }) (hw : wfG gs) (hm : okM md) (hst : fr' = [] ∨ τ.2.2.1 = true) {P : Option Value → mg_M → Prop} (hP : ∀ M' si', isMR M' si' s md τ fr' → siG si0 si' → smR M0 M' → P none M') : ∀ (n : Nat) (M : mg_M) (si : Nat → Int32) (σ : dS) (fr : List fR), isMR M si s md σ fr → isGM M gs → okF gs σ.2.1.length fr → okS md σ → siG si0 si → smR M0 M → goF gs md n σ fr = (τ, fr') → mg_G X Y_Mo_go (mg_Q X P { frames := 3, cells := 0, slots := 0, locals := 71 }) M 0 0 30 [some (.ref 1000), some (.int (nI i)), some (.int how)] [] := by
  intro n
  induction n with
  | zero =>
    intro M si σ fr h hGM hok hσ hsi hs hn
    obtain ⟨rfl, rfl⟩ := Prod.mk.inj hn
    exact go_exit h hst hsi hs hP
  | succ n ih =>
    intro M si σ fr h hGM hok hσ hsi hs hn
    by_cases hc : fr = [] ∨ σ.2.2.1 = true
    · rw [goF_stop hc] at hn
      obtain ⟨rfl, rfl⟩ := Prod.mk.inj hn
      exact go_exit h hst hsi hs hP
    · rw [goF, if_neg hc] at hn
      have hil : σ.2.2.1 = false := by
        cases e : σ.2.2.1 with
        | true => exact absurd (Or.inr e) hc
        | false => rfl
      match fr, hc, hn, h, hok with
      | [], hc, _, _, _ => exact absurd (Or.inl rfl) hc
      | (g, s0, c, a) :: r, hc, hn, h, hok =>
        obtain ⟨k1, k2⟩ := turn_ok hw hok hσ
        exact go_turn hR hw hm hσ hil hGM hok h (fun M2 si2 h2 hs2 hm2 => ih M2 si2 _ _ h2 (hGM.fr hm2) k1 k2 (hsi.tr hs2.g) (hs.tr hm2) hn)

set_option maxHeartbeats 4000000 in
set_option maxRecDepth 100000 in
theorem c_Mo_go {M : mg_M} {si : Nat → Int32} {x s : Int64} {gv : List Int32} {how : Int32} {gs : List gN} {i : Nat} {g : gN} (hO : M 1000 = some (moE si x s)) (hI : isA M 1008 60 gv) (h20 : si 20 = nI gv.length) (hWk : isWk M) (hGM : isGM M gs) (hw : wfG gs) (hg : gs[i]? = some g) (hm : okM (how, gv, si 13)) : mg_Ct Y_Mo_go { frames := 3, cells := 0, slots := 0, locals := 71 } [.ref 1000, .int (nI i), .int how] M (goP M si s gs (how, gv, si 13) i x) := by
  obtain ⟨⟨rf, r1⟩, ⟨lm, r2⟩, ⟨nf, r3⟩, pi, sg, co, sa, q1, q2, q3, q4⟩ := id hWk
  refine mg_met [some (.ref 1000), some (.int (nI i)), some (.int how)] (by decide +kernel) rfl (Nat.le_of_ble_eq_true rfl) ?_
  intro X hR _
  first | refine mg_aload_n d_Mo_go_0 rfl rfl ?_ | refine mg_aload_nN d_Mo_go_0 rfl rfl ?_
  refine mg_iload_n d_Mo_go_1 rfl rfl ?_
  refine mg_putfield (fw_Mo_97 _) d_Mo_go_2 (by first | assumption | exact mg_up_s _ _ _ | (rw [mg_up_n _ _ (by decide)]; first | assumption | exact mg_up_s _ _ _ | (rw [mg_up_n _ _ (by decide)]; first | assumption | exact mg_up_s _ _ _ | (rw [mg_up_n _ _ (by decide)]; first | assumption | exact mg_up_s _ _ _ | (rw [mg_up_n _ _ (by decide)]; first | assumption | exact mg_up_s _ _ _ | (rw [mg_up_n _ _ (by decide)]; first | assumption | exact mg_up_s _ _ _ | (rw [mg_up_n _ _ (by decide)]; first | assumption | exact mg_up_s _ _ _))))))) (Nat.le_of_ble_eq_true rfl) (fun _ => ⟨rfl, rfl⟩) ?_
  refine mg_eqM (M' := mg_up (M) 1000 (moE (upd si 10 how) x s)) rfl ?_
  first | refine mg_aload_n d_Mo_go_5 rfl rfl ?_ | refine mg_aload_nN d_Mo_go_5 rfl rfl ?_
  refine mg_iconst (v := 0) d_Mo_go_6 (by decide) ?_
  refine mg_putfield (fw_Mo_108 _) d_Mo_go_7 (by first | assumption | exact mg_up_s _ _ _ | (rw [mg_up_n _ _ (by decide)]; first | assumption | exact mg_up_s _ _ _ | (rw [mg_up_n _ _ (by decide)]; first | assumption | exact mg_up_s _ _ _ | (rw [mg_up_n _ _ (by decide)]; first | assumption | exact mg_up_s _ _ _ | (rw [mg_up_n _ _ (by decide)]; first | assumption | exact mg_up_s _ _ _ | (rw [mg_up_n _ _ (by decide)]; first | assumption | exact mg_up_s _ _ _ | (rw [mg_up_n _ _ (by decide)]; first | assumption | exact mg_up_s _ _ _))))))) (Nat.le_of_ble_eq_true rfl) (fun _ => ⟨rfl, rfl⟩) ?_
  refine mg_eqM (M' := mg_up (mg_up (M) 1000 (moE (upd si 10 how) x s)) 1000 (moE (upd (upd si 10 how) 11 0) x s)) rfl ?_
  first | refine mg_aload_n d_Mo_go_10 rfl rfl ?_ | refine mg_aload_nN d_Mo_go_10 rfl rfl ?_
  refine mg_iconst (v := 0) d_Mo_go_11 (by decide) ?_
  refine mg_putfield (fw_Mo_124 _) d_Mo_go_12 (by first | assumption | exact mg_up_s _ _ _ | (rw [mg_up_n _ _ (by decide)]; first | assumption | exact mg_up_s _ _ _ | (rw [mg_up_n _ _ (by decide)]; first | assumption | exact mg_up_s _ _ _ | (rw [mg_up_n _ _ (by decide)]; first | assumption | exact mg_up_s _ _ _ | (rw [mg_up_n _ _ (by decide)]; first | assumption | exact mg_up_s _ _ _ | (rw [mg_up_n _ _ (by decide)]; first | assumption | exact mg_up_s _ _ _ | (rw [mg_up_n _ _ (by decide)]; first | assumption | exact mg_up_s _ _ _))))))) (Nat.le_of_ble_eq_true rfl) (fun _ => ⟨rfl, rfl⟩) ?_
  refine mg_eqM (M' := mg_up (mg_up (mg_up (M) 1000 (moE (upd si 10 how) x s)) 1000 (moE (upd (upd si 10 how) 11 0) x s)) 1000 (moE (upd (upd (upd si 10 how) 11 0) 12 0) x s)) rfl ?_
  first | refine mg_aload_n d_Mo_go_15 rfl rfl ?_ | refine mg_aload_nN d_Mo_go_15 rfl rfl ?_
  refine mg_iconst (v := 0) d_Mo_go_16 (by decide) ?_
  refine mg_putfield (fw_Mo_114 _) d_Mo_go_17 (by first | assumption | exact mg_up_s _ _ _ | (rw [mg_up_n _ _ (by decide)]; first | assumption | exact mg_up_s _ _ _ | (rw [mg_up_n _ _ (by decide)]; first | assumption | exact mg_up_s _ _ _ | (rw [mg_up_n _ _ (by decide)]; first | assumption | exact mg_up_s _ _ _ | (rw [mg_up_n _ _ (by decide)]; first | assumption | exact mg_up_s _ _ _ | (rw [mg_up_n _ _ (by decide)]; first | assumption | exact mg_up_s _ _ _ | (rw [mg_up_n _ _ (by decide)]; first | assumption | exact mg_up_s _ _ _))))))) (Nat.le_of_ble_eq_true rfl) (fun _ => ⟨rfl, rfl⟩) ?_
  refine mg_eqM (M' := mg_up (mg_up (mg_up (mg_up (M) 1000 (moE (upd si 10 how) x s)) 1000 (moE (upd (upd si 10 how) 11 0) x s)) 1000 (moE (upd (upd (upd si 10 how) 11 0) 12 0) x s)) 1000 (moE (upd (upd (upd (upd si 10 how) 11 0) 12 0) 15 0) x s)) rfl ?_
  first | refine mg_aload_n d_Mo_go_20 rfl rfl ?_ | refine mg_aload_nN d_Mo_go_20 rfl rfl ?_
  refine mg_iconst (v := 0) d_Mo_go_21 (by decide) ?_
  refine mg_putfield (fw_Mo_121 _) d_Mo_go_22 (by first | assumption | exact mg_up_s _ _ _ | (rw [mg_up_n _ _ (by decide)]; first | assumption | exact mg_up_s _ _ _ | (rw [mg_up_n _ _ (by decide)]; first | assumption | exact mg_up_s _ _ _ | (rw [mg_up_n _ _ (by decide)]; first | assumption | exact mg_up_s _ _ _ | (rw [mg_up_n _ _ (by decide)]; first | assumption | exact mg_up_s _ _ _ | (rw [mg_up_n _ _ (by decide)]; first | assumption | exact mg_up_s _ _ _ | (rw [mg_up_n _ _ (by decide)]; first | assumption | exact mg_up_s _ _ _))))))) (Nat.le_of_ble_eq_true rfl) (fun _ => ⟨rfl, rfl⟩) ?_
  refine mg_eqM (M' := mg_up (mg_up (mg_up (mg_up (mg_up (M) 1000 (moE (upd si 10 how) x s)) 1000 (moE (upd (upd si 10 how) 11 0) x s)) 1000 (moE (upd (upd (upd si 10 how) 11 0) 12 0) x s)) 1000 (moE (upd (upd (upd (upd si 10 how) 11 0) 12 0) 15 0) x s)) 1000 (moE (upd (upd (upd (upd (upd si 10 how) 11 0) 12 0) 15 0) 25 0) x s)) rfl ?_
  have U : ∀ k, k ≠ 1000 → (mg_up (mg_up (mg_up (mg_up (mg_up (M) 1000 (moE (upd si 10 how) x s)) 1000 (moE (upd (upd si 10 how) 11 0) x s)) 1000 (moE (upd (upd (upd si 10 how) 11 0) 12 0) x s)) 1000 (moE (upd (upd (upd (upd si 10 how) 11 0) 12 0) 15 0) x s)) 1000 (moE (upd (upd (upd (upd (upd si 10 how) 11 0) 12 0) 15 0) 25 0) x s)) k = M k := fun k hk => (mg_up_n _ _ hk).trans ((mg_up_n _ _ hk).trans ((mg_up_n _ _ hk).trans ((mg_up_n _ _ hk).trans (mg_up_n _ _ hk))))
  have h1 : isMR (mg_up (mg_up (mg_up (mg_up (mg_up (M) 1000 (moE (upd si 10 how) x s)) 1000 (moE (upd (upd si 10 how) 11 0) x s)) 1000 (moE (upd (upd (upd si 10 how) 11 0) 12 0) x s)) 1000 (moE (upd (upd (upd (upd si 10 how) 11 0) 12 0) 15 0) x s)) 1000 (moE (upd (upd (upd (upd (upd si 10 how) 11 0) 12 0) 15 0) 25 0) x s)) (upd (upd (upd (upd (upd si 10 how) 11 0) 12 0) 15 0) 25 0) s (how, gv, si 13) ([], [], false, x, lm) [] := by
    refine ⟨⟨mg_up_s _ _ _, rfl, rfl, rfl, fun _ => rfl, rfl, rfl, h20, hI.eq (U _ (by decide)), ⟨rf, (U _ (by decide)).trans r1, Nat.zero_le _, fun j hj => absurd hj (Nat.not_lt_zero _)⟩, (U _ (by decide)).trans r2, ⟨nf, (U _ (by decide)).trans r3, Nat.zero_le _, fun j hj => absurd hj (Nat.not_lt_zero _)⟩⟩, rfl, pi, sg, co, sa, ⟨(U _ (by decide)).trans q1, (U _ (by decide)).trans q2, (U _ (by decide)).trans q3, (U _ (by decide)).trans q4⟩, trivial⟩
  have hs1 : smR M (mg_up (mg_up (mg_up (mg_up (mg_up (M) 1000 (moE (upd si 10 how) x s)) 1000 (moE (upd (upd si 10 how) 11 0) x s)) 1000 (moE (upd (upd (upd si 10 how) 11 0) 12 0) x s)) 1000 (moE (upd (upd (upd (upd si 10 how) 11 0) 12 0) 15 0) x s)) 1000 (moE (upd (upd (upd (upd (upd si 10 how) 11 0) 12 0) 15 0) 25 0) x s)) := fun k hk _ => U k hk
  have hsi1 : siG si (upd (upd (upd (upd (upd si 10 how) 11 0) 12 0) 15 0) 25 0) := ((((siG.rf.up (by decide)).up (by decide)).up (by decide)).up (by decide)).up (by decide)
  generalize mg_up (mg_up (mg_up (mg_up (mg_up (M) 1000 (moE (upd si 10 how) x s)) 1000 (moE (upd (upd si 10 how) 11 0) x s)) 1000 (moE (upd (upd (upd si 10 how) 11 0) 12 0) x s)) 1000 (moE (upd (upd (upd (upd si 10 how) 11 0) 12 0) 15 0) x s)) 1000 (moE (upd (upd (upd (upd (upd si 10 how) 11 0) 12 0) 15 0) 25 0) x s) = M1 at h1 hs1 ⊢
  generalize upd (upd (upd (upd (upd si 10 how) 11 0) 12 0) 15 0) 25 0 = si1 at h1 hsi1
  have hO1 := h1.1.1
  first | refine mg_aload_n d_Mo_go_25 rfl rfl ?_ | refine mg_aload_nN d_Mo_go_25 rfl rfl ?_
  refine mg_iload_n d_Mo_go_26 rfl rfl ?_
  refine mg_callV (vl_Mo_127 rfl) d_Mo_go_27 (by first | assumption | exact mg_up_s _ _ _ | (rw [mg_up_n _ _ (by decide)]; first | assumption | exact mg_up_s _ _ _ | (rw [mg_up_n _ _ (by decide)]; first | assumption | exact mg_up_s _ _ _ | (rw [mg_up_n _ _ (by decide)]; first | assumption | exact mg_up_s _ _ _ | (rw [mg_up_n _ _ (by decide)]; first | assumption | exact mg_up_s _ _ _ | (rw [mg_up_n _ _ (by decide)]; first | assumption | exact mg_up_s _ _ _ | (rw [mg_up_n _ _ (by decide)]; first | assumption | exact mg_up_s _ _ _))))))) rfl rfl (c_Mo_push2 (g := i) h1 (by decide)) rfl rfl (by rw [hR]; decide) (by rw [hR]; decide) (Nat.le_of_ble_eq_true rfl) ?_
  rintro v M2 ⟨rfl, si2, h2, hs2, hm2⟩
  have hdp : g.2.2.2 ≤ 8 := wf_le hw hg
  obtain ⟨τ, fr', n, hn, hst, hgr⟩ : ∃ τ fr' n, goF gs (how, gv, si 13) n ([], [], false, x, lm) [nwF i ([], [], false, x, lm)] = (τ, fr') ∧ (fr' = [] ∨ τ.2.2.1 = true) ∧ gRel τ (giveF gs (how, gv, si 13) 8 i ([], [], false, x, lm)) := by
    have hf := rch (md := (how, gv, si 13)) hw 8 i g ([], [], false, x, lm) [] hg hdp rfl
    generalize giveF gs (how, gv, si 13) 8 i ([], [], false, x, lm) = T at hf ⊢
    cases e : T.2.2.1 with
    | false =>
      obtain ⟨n, hn⟩ := hf.1 e
      exact ⟨T, [], n, hn, Or.inl rfl, rfl, rfl, fun _ => rfl⟩
    | true =>
      obtain ⟨τ, fr', ⟨n, hn⟩, h3, h4⟩ := hf.2 e
      exact ⟨τ, fr', n, hn, Or.inr (by rw [h4]; exact e), h3, h4, fun e2 => by rw [e] at e2; cases e2⟩
  refine lp_Mo_go (si0 := si) (M0 := M) hR hw hm hst (fun M3 si3 h3 hs3 hm3 => ?_) n M2 si2 _ _ h2 ((hGM.fr hs1).fr hm2) ⟨⟨g, hg, by show g.2.2.2 + 0 ≤ 8; omega⟩, Nat.le_refl _, trivial⟩ (fun _ => Nat.zero_le _) (hsi1.tr hs2.g) (hs1.tr hm2) hn
  exact ⟨rfl, si3, τ, lm, h3.1, h3.wk, hgr, hs3, hm3⟩

