/-! THE REFERENCE: check -/
def trRel (τ : dS) (t : List Int32 × List Int32 × Bool × Int64) : Prop := τ.1 = t.1 ∧ τ.2.2.1 = t.2.2.1 ∧ τ.2.2.2.1 = t.2.2.2 ∧ (t.2.2.1 = false → τ.2.1 = t.2.1)
theorem tr_of {gs : List gN} {i z : Nat} {gv : List Int32} {x : Int64} {lm : Nat → Int32} {τ : dS} (h : gRel τ (giveF gs (1, gv, nI z) 8 i ([], [], false, x, lm))) : trRel τ (tryC gs i z x) := by
  obtain ⟨r1, r2, r3, r4⟩ := try_eq gs gv i z x lm
  obtain ⟨h1, h2, h3⟩ := h
  refine ⟨h1.trans r1, ?_, ?_, fun e => ?_⟩
  · rw [h2]; exact r3
  · rw [h2]; exact r4
  · rw [← r2]; exact h3 (r3.trans e)
theorem tr_vd {τ : dS} {t : List Int32 × List Int32 × Bool × Int64} {p : pN} (h : trRel τ t) : vdS p τ = vdT p t := by
  unfold vdS vdT
  rw [h.2.1]
  cases e : t.2.2.1 with
  | true => rw [if_pos rfl, if_pos rfl]
  | false => rw [h.2.2.2 e]
theorem tr_tl {τ : dS} {t : List Int32 × List Int32 × Bool × Int64} (h : trRel τ t) (e : t.2.2.1 = false) : tlL τ = t.2.1 := by
  unfold tlL
  rw [h.2.1, e, if_neg (by decide)]; exact h.2.2.2 e
theorem isRun.size {M : mg_M} {si : Nat → Int32} {x s : Int64} {gv : List Int32} {z z' : Int32} {σ : dS} (h : isRun M si x s (1, gv, z) σ) : isRun (mg_up M 1000 (moE (upd si 13 z') x s)) (upd si 13 z') x s (1, gv, z') σ := by
  obtain ⟨a1, a2, a3, a4, a5, a6, a7, a8, a9, a10, a11, a12⟩ := h
  exact ⟨mg_up_s _ _ _, a2, a3, a4, fun _ => pk_us, a6, a7, a8, a9.eq (mg_up_n _ _ (by decide)), a10.eq (mg_up_n _ _ (by decide)), (mg_up_n _ _ (by decide)).trans a11, a12.eq (mg_up_n _ _ (by decide))⟩
def ckQ (M0 : mg_M) (gs : List gN) (ps : List pN) (ks : List kN) (fo : fO) (le : Bool) (row nu pu : List Int32) (s : Int64) (i j : Nat) (r : scR) : Option Value → mg_M → Prop := fun v M' => match r with
  | (some (v0, rw0, ns), c, w) => v = some (.int c) ∧ isMo M' gs ps (ks ++ [(nI i, nI j, rw0)]) w (some (i, j, v0)) false rw0 ns pu s ∧ sm 1000 1023 M0 M'
  | (none, c, w) => v = some (.int c) ∧ isMo M' gs ps ks w fo le row nu pu s ∧ sm 1000 1023 M0 M'
/-- another count of the wasted tries -/
theorem isMoS.wa {M : mg_M} {si : Nat → Int32} {x s : Int64} {gs : List gN} {ps : List pN} {ks : List kN} {wa : Nat} {fo : fO} {le : Bool} {row nu pu : List Int32} (w : Nat) (h : isMoS M si gs ps ks wa fo le row nu pu) : isMoS (mg_up M 1000 (moE (upd si 31 (nI w)) x s)) (upd si 31 (nI w)) gs ps ks w fo le row nu pu := by
  have hS := h
  obtain ⟨⟨a1, a2, a3, a4⟩, ⟨b1, ⟨ff, b2, b3, b4⟩⟩, ⟨c1, c2, c3⟩, d1, ⟨e1, ⟨tf, e2, e3, e4⟩⟩, f1, ⟨pf, f2, f3, f4⟩⟩ := id hS
  have U : ∀ k, k ≠ 1000 → (mg_up M 1000 (moE (upd si 31 (nI w)) x s)) k = M k := fun k hk => mg_up_n _ _ hk
  exact ⟨⟨a1, a2, a3.eq (fun k _ _ => U k (by omega)), a4.eq (fun k _ _ => U k (by omega))⟩, ⟨b1.eq (fun k h1 h2 => pk_un (by omega)), ff, (U _ (by decide)).trans b2, b3, b4⟩, ⟨c1, pk_us, c3.eq (fun k _ _ => U k (by omega))⟩, d1, ⟨e1, tf, (U _ (by decide)).trans e2, e3, e4⟩, f1, pf, (U _ (by decide)).trans f2, f3, f4⟩
theorem isMoS.le {M : mg_M} {si : Nat → Int32} {x s : Int64} {gs : List gN} {ps : List pN} {ks : List kN} {wa : Nat} {fo : fO} {le : Bool} {row nu pu : List Int32} (b : Bool) (h : isMoS M si gs ps ks wa fo le row nu pu) : isMoS (mg_up M 1000 (moE (upd si 37 (bI b)) x s)) (upd si 37 (bI b)) gs ps ks wa fo b row nu pu := by
  have hS := h
  obtain ⟨⟨a1, a2, a3, a4⟩, ⟨b1, ⟨ff, b2, b3, b4⟩⟩, ⟨c1, c2, c3⟩, d1, ⟨e1, ⟨tf, e2, e3, e4⟩⟩, f1, ⟨pf, f2, f3, f4⟩⟩ := id hS
  have U : ∀ k, k ≠ 1000 → (mg_up M 1000 (moE (upd si 37 (bI b)) x s)) k = M k := fun k hk => mg_up_n _ _ hk
  exact ⟨⟨a1, a2, a3.eq (fun k _ _ => U k (by omega)), a4.eq (fun k _ _ => U k (by omega))⟩, ⟨b1.eq (fun k h1 h2 => pk_un (by omega)), ff, (U _ (by decide)).trans b2, b3, b4⟩, ⟨c1, c2, c3.eq (fun k _ _ => U k (by omega))⟩, pk_us, ⟨e1, tf, (U _ (by decide)).trans e2, e3, e4⟩, f1, pf, (U _ (by decide)).trans f2, f3, f4⟩
theorem isMoS.ks {M M' : mg_M} {si : Nat → Int32} {gs : List gN} {ps : List pN} {ks ks' : List kN} {wa : Nat} {fo : fO} {le : Bool} {row nu pu : List Int32} (h : isMoS M si gs ps ks wa fo le row nu pu) (hK : isKM M' ks') (hs : ∀ k, k ≠ 1000 → (k < 1017 ∨ 1021 ≤ k) → M' k = M k) : isMoS M' (upd si 30 (nI ks'.length)) gs ps ks' wa fo le row nu pu := by
  have hS := h
  obtain ⟨⟨a1, a2, a3, a4⟩, ⟨b1, ⟨ff, b2, b3, b4⟩⟩, ⟨c1, c2, c3⟩, d1, ⟨e1, ⟨tf, e2, e3, e4⟩⟩, f1, ⟨pf, f2, f3, f4⟩⟩ := id hS
  exact ⟨⟨a1, a2, a3.eq (fun k _ _ => hs k (by omega) (by omega)), a4.eq (fun k _ _ => hs k (by omega) (by omega))⟩, ⟨b1.eq (fun k h1 h2 => pk_un (by omega)), ff, (hs _ (by decide) (by decide)).trans b2, b3, b4⟩, ⟨pk_us, c2, hK⟩, d1, ⟨e1, tf, (hs _ (by decide) (by decide)).trans e2, e3, e4⟩, f1, pf, (hs _ (by decide) (by decide)).trans f2, f3, f4⟩

set_option maxHeartbeats 4000000 in
set_option maxRecDepth 100000 in
theorem lp_Mo_check {X : mg_X} {M0 : mg_M} {gs : List gN} {ps : List pN} {ks : List kN}  {fo : fO} {le : Bool} {row nu pu : List Int32} {s : Int64} {i j runs : Nat} {g : gN} {p : pN} {sd : Int64} {r : scR} (hR : mg_R X = { frames := 5, cells := 0, slots := 0, locals := 118 }) (hw : wfG gs) (hg : gs[i]? = some g) (hpl : ps.length ≤ 10) (hp : ps[j]? = some p) (hrn : runs ≤ 60) (hk200 : ks.length < 200) : ∀ (n z pa wa : Nat) (M : mg_M) (si : Nat → Int32) (x : Int64) (T7 : Option Value), z + n = 121 → pa + wa = z → pa ≤ runs → wa ≤ runs → M 1000 = some (moE si x s) → isMoS M si gs ps ks wa fo le row nu pu → isWk M → (∃ gv, isA M 1008 60 gv ∧ si 20 = nI gv.length) → si 13 = nI z → sm 1000 1023 M0 M → (T7 = none ∨ ∃ z : Int32, T7 = some (.int z)) → seedC gs p i runs n z pa wa x = r → mg_G X Y_Mo_check (mg_Q X (ckQ M0 gs ps ks fo le row nu pu s i j r) { frames := 5, cells := 0, slots := 0, locals := 118 }) M 0 0 75 [some (.ref 1000), some (.int (nI i)), some (.int (nI j)), some (.long sd), none, some (.int (nI runs)), some (.int (nI pa)), T7] [] := by
  intro n
  induction n with
  | zero =>
    intro z pa wa M si x T7 hz hpw0 hpa hwa hO hS hWk hI hz13 hs0 h7 hr
    omega
  | succ n ih =>
    intro z pa wa M si x T7 hz hpw0 hpa hwa hO hS hWk hI hz13 hs0 h7 hr
    obtain ⟨⟨a1, a2, a3, a4⟩, ⟨b1, ⟨ff, b2, b3, b4⟩⟩, ⟨c1, c2, c3⟩, d1, ⟨e1, ⟨tf, e2, e3, e4⟩⟩, f1, ⟨pf, f2, f3, f4⟩⟩ := id hS
    rcases h7 with rfl | ⟨z7, rfl⟩
    · refine mg_iload d_Mo_check_75 rfl ?_
      refine mg_iload d_Mo_check_77 rfl ?_
      refine mg_icmp_ge (tgt := 181) d_Mo_check_79 (by decide) (fun c_79 => ?_) (fun c_79 => ?_)
      · have hle : runs ≤ pa := (nI_leI (by omega) (by omega)).mp c_79
        rw [seedC, if_pos hle] at hr
        subst hr
        refine mg_iload d_Mo_check_181 rfl ?_
        exact mg_ireturn d_Mo_check_183 rfl rfl (Nat.le_of_ble_eq_true rfl) (Nat.le_of_ble_eq_true rfl) ⟨rfl, ⟨si, x, hO, hS, hWk, hI⟩, hs0⟩
      · have hle : ¬ runs ≤ pa := fun e => c_79 (nI_le e (by omega))
        rw [seedC, if_neg hle] at hr
        obtain ⟨gv, hI1, hI2⟩ := hI
        first | refine mg_aload_n d_Mo_check_82 rfl rfl ?_ | refine mg_aload_nN d_Mo_check_82 rfl rfl ?_
        refine mg_iload_n d_Mo_check_83 rfl rfl ?_
        refine mg_iconst (v := 1) d_Mo_check_84 (by decide) ?_
        refine mg_callV (vl_Mo_161 rfl) d_Mo_check_85 (by first | assumption | exact mg_up_s _ _ _ | (rw [mg_up_n _ _ (by decide)]; first | assumption | exact mg_up_s _ _ _ | (rw [mg_up_n _ _ (by decide)]; first | assumption | exact mg_up_s _ _ _ | (rw [mg_up_n _ _ (by decide)]; first | assumption | exact mg_up_s _ _ _ | (rw [mg_up_n _ _ (by decide)]; first | assumption | exact mg_up_s _ _ _ | (rw [mg_up_n _ _ (by decide)]; first | assumption | exact mg_up_s _ _ _ | (rw [mg_up_n _ _ (by decide)]; first | assumption | exact mg_up_s _ _ _))))))) rfl rfl (c_Mo_go (gs := gs) (i := i) (g := g) (how := 1) hO hI1 hI2 hWk a3 hw hg ⟨Or.inr (Or.inl rfl), fun e => absurd rfl e, fun _ => ⟨by show ¬ si 13 < 0; rw [hz13]; exact nI_pos (by omega), by show si 13 < 1000; rw [hz13]; exact nI_lt (b := 1000) (by omega) (by decide)⟩⟩) rfl rfl (by rw [hR]; decide) (by rw [hR]; decide) (Nat.le_of_ble_eq_true rfl) ?_
        rintro v M2 ⟨rfl, si2, τ, lm, g1, g2, g3, g4, g5⟩
        rw [hz13] at g1 g3
        have htr := tr_of g3
        have hO2 := g1.1
        have hz2 : si2 13 = nI z := (g4 13 (by decide) (by decide) (by decide) (by decide) (by decide)).trans hz13
        first | refine mg_aload_n d_Mo_check_88 rfl rfl ?_ | refine mg_aload_nN d_Mo_check_88 rfl rfl ?_
        refine mg_dup d_Mo_check_89 rfl ?_
        refine mg_getfield fl_Mo_118 d_Mo_check_90 (by first | assumption | exact mg_up_s _ _ _ | (rw [mg_up_n _ _ (by decide)]; first | assumption | exact mg_up_s _ _ _ | (rw [mg_up_n _ _ (by decide)]; first | assumption | exact mg_up_s _ _ _ | (rw [mg_up_n _ _ (by decide)]; first | assumption | exact mg_up_s _ _ _ | (rw [mg_up_n _ _ (by decide)]; first | assumption | exact mg_up_s _ _ _ | (rw [mg_up_n _ _ (by decide)]; first | assumption | exact mg_up_s _ _ _ | (rw [mg_up_n _ _ (by decide)]; first | assumption | exact mg_up_s _ _ _))))))) rfl ?_
        refine mg_iconst (v := 1) d_Mo_check_93 (by decide) ?_
        refine mg_iadd d_Mo_check_94 ?_
        refine mg_eqi (y := nI (z + 1)) (by rw [hz2, nI_1]) ?_
        refine mg_putfield (fw_Mo_118 _) d_Mo_check_95 (by first | assumption | exact mg_up_s _ _ _ | (rw [mg_up_n _ _ (by decide)]; first | assumption | exact mg_up_s _ _ _ | (rw [mg_up_n _ _ (by decide)]; first | assumption | exact mg_up_s _ _ _ | (rw [mg_up_n _ _ (by decide)]; first | assumption | exact mg_up_s _ _ _ | (rw [mg_up_n _ _ (by decide)]; first | assumption | exact mg_up_s _ _ _ | (rw [mg_up_n _ _ (by decide)]; first | assumption | exact mg_up_s _ _ _ | (rw [mg_up_n _ _ (by decide)]; first | assumption | exact mg_up_s _ _ _))))))) (Nat.le_of_ble_eq_true rfl) (fun _ => ⟨rfl, rfl⟩) ?_
        refine mg_eqM (M' := mg_up M2 1000 (moE (upd si2 13 (nI (z + 1))) τ.2.2.2.1 s)) rfl ?_
        have h3 := g1.size (z' := nI (z + 1))
        have hWk3 : isWk (mg_up M2 1000 (moE (upd si2 13 (nI (z + 1))) τ.2.2.2.1 s)) := g2.eq (fun k _ _ => mg_up_n _ _ (by omega))
        have U3 : ∀ k, k ≠ 1000 → (k < 1008 ∨ 1016 ≤ k) → (mg_up M2 1000 (moE (upd si2 13 (nI (z + 1))) τ.2.2.2.1 s)) k = M k := fun k h1 h2 => (mg_up_n _ _ h1).trans (g5 k h1 (by omega))
        have V3 : ∀ k, k ≠ 10 → k ≠ 11 → k ≠ 12 → k ≠ 13 → k ≠ 15 → k ≠ 25 → (upd si2 13 (nI (z + 1))) k = si k := fun k h1 h2 h3 h4 h5 h6 => (pk_un h4).trans (g4 k h1 h2 h3 h5 h6)
        have hz3 : (upd si2 13 (nI (z + 1))) 13 = nI (z + 1) := pk_us
        generalize mg_up M2 1000 (moE (upd si2 13 (nI (z + 1))) τ.2.2.2.1 s) = M3 at h3 hWk3 U3 ⊢
        generalize upd si2 13 (nI (z + 1)) = si3 at h3 V3 hz3 ⊢
        have hO3 := h3.1
        have hS3 : isMoS M3 si3 gs ps ks wa fo le row nu pu := hS.fr (fun k hk => V3 k (by omega) (by omega) (by omega) (by omega) (by omega) (by omega)) (fun k hk => U3 k (by omega) (by omega))
        first | refine mg_aload_n d_Mo_check_98 rfl rfl ?_ | refine mg_aload_nN d_Mo_check_98 rfl rfl ?_
        refine mg_iload_n d_Mo_check_99 rfl rfl ?_
        refine mg_callV (vl_Mo_164 rfl) d_Mo_check_100 (by first | assumption | exact mg_up_s _ _ _ | (rw [mg_up_n _ _ (by decide)]; first | assumption | exact mg_up_s _ _ _ | (rw [mg_up_n _ _ (by decide)]; first | assumption | exact mg_up_s _ _ _ | (rw [mg_up_n _ _ (by decide)]; first | assumption | exact mg_up_s _ _ _ | (rw [mg_up_n _ _ (by decide)]; first | assumption | exact mg_up_s _ _ _ | (rw [mg_up_n _ _ (by decide)]; first | assumption | exact mg_up_s _ _ _ | (rw [mg_up_n _ _ (by decide)]; first | assumption | exact mg_up_s _ _ _))))))) rfl rfl (c_Mo_does h3 (a4.eq (fun k _ _ => U3 k (by omega) (by omega))) hpl hp) rfl rfl (by rw [hR]; decide) (by rw [hR]; decide) (Nat.le_of_ble_eq_true rfl) ?_
        rintro v M4 ⟨rfl, rfl⟩
        refine mg_eqv (y := .int (vdT p (tryC gs i z x))) (congrArg Value.int (tr_vd htr)) ?_
        refine mg_istore d_Mo_check_103 (Nat.le_of_ble_eq_true rfl) rfl ?_
        refine mg_iload d_Mo_check_105 rfl ?_
        refine mg_callS (sl_Mo_168 rfl) d_Mo_check_107 (c_Mo_isBad) rfl rfl (by rw [hR]; decide) (by rw [hR]; decide) (Nat.le_of_ble_eq_true rfl) ?_
        rintro v M5 ⟨rfl, rfl⟩
        refine mg_if_eq (tgt := 132) d_Mo_check_110 (by decide) (fun c_110 => ?_) (fun c_110 => ?_)
        · have hbd : isBd (vdT p (tryC gs i z x)) = false := bI_f (by first | exact c_110 | exact Decidable.not_not.mp c_110)
          rw [if_neg (by rw [hbd]; decide)] at hr
          refine mg_iload d_Mo_check_132 rfl ?_
          refine mg_iload d_Mo_check_134 rfl ?_
          refine mg_if_ne (tgt := 143) d_Mo_check_136 (by decide) (fun c_136 => ?_) (fun c_136 => ?_)
          · have hv0 : ¬ (vdT p (tryC gs i z x)) = 0 := c_136
            rw [if_neg hv0, if_neg hv0] at hr
            refine mg_iconst (v := 0) d_Mo_check_143 (by decide) ?_
            refine mg_iadd d_Mo_check_144 ?_
            obtain ⟨pa2, hpa2, hpa3⟩ : ∃ pa2, pa2 = (if (vdT p (tryC gs i z x)) = 0 then pa + 1 else pa) ∧ pa2 ≤ runs := ⟨_, rfl, by split <;> omega⟩
            refine mg_eqi (y := nI pa2) (by first | (rw [hpa2, if_neg hv0, show (0 : Int32) = nI 0 from rfl, nI_add]; rfl) | (rw [hpa2, if_pos hv0, nI_1])) ?_
            refine mg_istore d_Mo_check_145 (Nat.le_of_ble_eq_true rfl) rfl ?_
            first | refine mg_aload_n d_Mo_check_147 rfl rfl ?_ | refine mg_aload_nN d_Mo_check_147 rfl rfl ?_
            refine mg_dup d_Mo_check_148 rfl ?_
            refine mg_getfield fl_Mo_174 d_Mo_check_149 (by first | assumption | exact mg_up_s _ _ _ | (rw [mg_up_n _ _ (by decide)]; first | assumption | exact mg_up_s _ _ _ | (rw [mg_up_n _ _ (by decide)]; first | assumption | exact mg_up_s _ _ _ | (rw [mg_up_n _ _ (by decide)]; first | assumption | exact mg_up_s _ _ _ | (rw [mg_up_n _ _ (by decide)]; first | assumption | exact mg_up_s _ _ _ | (rw [mg_up_n _ _ (by decide)]; first | assumption | exact mg_up_s _ _ _ | (rw [mg_up_n _ _ (by decide)]; first | assumption | exact mg_up_s _ _ _))))))) rfl ?_
            refine mg_iload d_Mo_check_152 rfl ?_
            refine mg_if_ne (tgt := 161) d_Mo_check_154 (by decide) (fun c_154 => ?_) (fun c_154 => ?_)
            · have e31 : si3 31 + 1 = nI (wa + 1) := by rw [(hS3.2.2.1.2.1), nI_1]
              obtain ⟨w2, hw2⟩ : ∃ w2, w2 = wa + 1 := ⟨_, rfl⟩
              rw [← hw2] at e31 hr
              have hpw : pa2 + w2 = z + 1 := by rw [hpa2, hw2, if_neg hv0]; omega
              refine mg_iconst (v := 1) d_Mo_check_161 (by decide) ?_
              refine mg_iadd d_Mo_check_162 ?_
              refine mg_eqi e31 ?_
              refine mg_putfield (fw_Mo_174 _) d_Mo_check_163 (by first | assumption | exact mg_up_s _ _ _ | (rw [mg_up_n _ _ (by decide)]; first | assumption | exact mg_up_s _ _ _ | (rw [mg_up_n _ _ (by decide)]; first | assumption | exact mg_up_s _ _ _ | (rw [mg_up_n _ _ (by decide)]; first | assumption | exact mg_up_s _ _ _ | (rw [mg_up_n _ _ (by decide)]; first | assumption | exact mg_up_s _ _ _ | (rw [mg_up_n _ _ (by decide)]; first | assumption | exact mg_up_s _ _ _ | (rw [mg_up_n _ _ (by decide)]; first | assumption | exact mg_up_s _ _ _))))))) (Nat.le_of_ble_eq_true rfl) (fun _ => ⟨rfl, rfl⟩) ?_
              refine mg_eqM (M' := mg_up M5 1000 (moE (upd si3 31 (nI w2)) τ.2.2.2.1 s)) rfl ?_
              have hS9 := hS3.wa (x := τ.2.2.2.1) (s := s) w2
              have hO9 : (mg_up M5 1000 (moE (upd si3 31 (nI w2)) τ.2.2.2.1 s)) 1000 = some (moE (upd si3 31 (nI w2)) τ.2.2.2.1 s) := mg_up_s _ _ _
              have hWk9 : isWk (mg_up M5 1000 (moE (upd si3 31 (nI w2)) τ.2.2.2.1 s)) := hWk3.eq (fun k _ _ => mg_up_n _ _ (by omega))
              have hI9 : ∃ gv, isA (mg_up M5 1000 (moE (upd si3 31 (nI w2)) τ.2.2.2.1 s)) 1008 60 gv ∧ (upd si3 31 (nI w2)) 20 = nI gv.length := ⟨gv, h3.2.2.2.2.2.2.2.2.1.eq (mg_up_n _ _ (by decide)), h3.2.2.2.2.2.2.2.1⟩
              have U9 : sm 1000 1023 M0 (mg_up M5 1000 (moE (upd si3 31 (nI w2)) τ.2.2.2.1 s)) := fun k hk => (mg_up_n _ _ (by omega)).trans ((U3 k (by omega) (by omega)).trans (hs0 k hk))
              generalize mg_up M5 1000 (moE (upd si3 31 (nI w2)) τ.2.2.2.1 s) = M9 at hS9 hO9 hWk9 hI9 U9 ⊢
              first | refine mg_aload_n d_Mo_check_166 rfl rfl ?_ | refine mg_aload_nN d_Mo_check_166 rfl rfl ?_
              refine mg_getfield fl_Mo_174 d_Mo_check_167 (by first | assumption | exact mg_up_s _ _ _ | (rw [mg_up_n _ _ (by decide)]; first | assumption | exact mg_up_s _ _ _ | (rw [mg_up_n _ _ (by decide)]; first | assumption | exact mg_up_s _ _ _ | (rw [mg_up_n _ _ (by decide)]; first | assumption | exact mg_up_s _ _ _ | (rw [mg_up_n _ _ (by decide)]; first | assumption | exact mg_up_s _ _ _ | (rw [mg_up_n _ _ (by decide)]; first | assumption | exact mg_up_s _ _ _ | (rw [mg_up_n _ _ (by decide)]; first | assumption | exact mg_up_s _ _ _))))))) rfl ?_
              refine mg_iload d_Mo_check_170 rfl ?_
              refine mg_icmp_le (tgt := 178) d_Mo_check_172 (by decide) (fun c_172 => ?_) (fun c_172 => ?_)
              · have hgt : ¬ runs < w2 := fun e => absurd ((nI_leI (by omega) (by omega)).mp (show nI w2 ≤ nI runs from c_172)) (by omega)
                rw [if_neg hgt] at hr
                rw [htr.2.2.1] at hO9
                refine mg_goto (tgt := 75) d_Mo_check_178 (by decide) ?_
                refine ih (z + 1) pa2 w2 M9 _ _ _ (by omega) hpw hpa3 (by omega) hO9 hS9 hWk9 hI9 ((pk_un (by decide)).trans hz3) U9 (Or.inr ⟨_, rfl⟩) ?_
                rw [← hr]
                first
                | (rw [hpa2, if_pos hv0]; done)
                | (rw [hpa2, if_neg hv0]; done)
              · have hgt : runs < w2 := Nat.lt_of_not_le (fun e => c_172 (nI_le e (by omega)))
                rw [if_pos hgt] at hr
                subst hr
                refine mg_bipush (v := -2) d_Mo_check_175 (by decide) ?_
                exact mg_ireturn d_Mo_check_177 rfl rfl (Nat.le_of_ble_eq_true rfl) (Nat.le_of_ble_eq_true rfl) ⟨rfl, ⟨_, _, hO9, hS9, hWk9, hI9⟩, U9⟩
            · exact absurd (by first | exact c_154 | exact Decidable.not_not.mp c_154) hv0
          · have hv0 : (vdT p (tryC gs i z x)) = 0 := (by first | exact c_136 | exact Decidable.not_not.mp c_136)
            rw [if_pos hv0, if_pos hv0] at hr
            refine mg_iconst (v := 1) d_Mo_check_139 (by decide) ?_
            refine mg_goto (tgt := 144) d_Mo_check_140 (by decide) ?_
            refine mg_iadd d_Mo_check_144 ?_
            obtain ⟨pa2, hpa2, hpa3⟩ : ∃ pa2, pa2 = (if (vdT p (tryC gs i z x)) = 0 then pa + 1 else pa) ∧ pa2 ≤ runs := ⟨_, rfl, by split <;> omega⟩
            refine mg_eqi (y := nI pa2) (by first | (rw [hpa2, if_neg hv0, show (0 : Int32) = nI 0 from rfl, nI_add]; rfl) | (rw [hpa2, if_pos hv0, nI_1])) ?_
            refine mg_istore d_Mo_check_145 (Nat.le_of_ble_eq_true rfl) rfl ?_
            first | refine mg_aload_n d_Mo_check_147 rfl rfl ?_ | refine mg_aload_nN d_Mo_check_147 rfl rfl ?_
            refine mg_dup d_Mo_check_148 rfl ?_
            refine mg_getfield fl_Mo_174 d_Mo_check_149 (by first | assumption | exact mg_up_s _ _ _ | (rw [mg_up_n _ _ (by decide)]; first | assumption | exact mg_up_s _ _ _ | (rw [mg_up_n _ _ (by decide)]; first | assumption | exact mg_up_s _ _ _ | (rw [mg_up_n _ _ (by decide)]; first | assumption | exact mg_up_s _ _ _ | (rw [mg_up_n _ _ (by decide)]; first | assumption | exact mg_up_s _ _ _ | (rw [mg_up_n _ _ (by decide)]; first | assumption | exact mg_up_s _ _ _ | (rw [mg_up_n _ _ (by decide)]; first | assumption | exact mg_up_s _ _ _))))))) rfl ?_
            refine mg_iload d_Mo_check_152 rfl ?_
            refine mg_if_ne (tgt := 161) d_Mo_check_154 (by decide) (fun c_154 => ?_) (fun c_154 => ?_)
            · exact absurd hv0 c_154
            · have e31 : si3 31 + 0 = nI wa := by rw [(hS3.2.2.1.2.1), show (0 : Int32) = nI 0 from rfl, nI_add]; rfl
              obtain ⟨w2, hw2⟩ : ∃ w2, w2 = wa := ⟨_, rfl⟩
              rw [← hw2] at e31 hr
              have hpw : pa2 + w2 = z + 1 := by rw [hpa2, hw2, if_pos hv0]; omega
              refine mg_iconst (v := 0) d_Mo_check_157 (by decide) ?_
              refine mg_goto (tgt := 162) d_Mo_check_158 (by decide) ?_
              refine mg_iadd d_Mo_check_162 ?_
              refine mg_eqi e31 ?_
              refine mg_putfield (fw_Mo_174 _) d_Mo_check_163 (by first | assumption | exact mg_up_s _ _ _ | (rw [mg_up_n _ _ (by decide)]; first | assumption | exact mg_up_s _ _ _ | (rw [mg_up_n _ _ (by decide)]; first | assumption | exact mg_up_s _ _ _ | (rw [mg_up_n _ _ (by decide)]; first | assumption | exact mg_up_s _ _ _ | (rw [mg_up_n _ _ (by decide)]; first | assumption | exact mg_up_s _ _ _ | (rw [mg_up_n _ _ (by decide)]; first | assumption | exact mg_up_s _ _ _ | (rw [mg_up_n _ _ (by decide)]; first | assumption | exact mg_up_s _ _ _))))))) (Nat.le_of_ble_eq_true rfl) (fun _ => ⟨rfl, rfl⟩) ?_
              refine mg_eqM (M' := mg_up M5 1000 (moE (upd si3 31 (nI w2)) τ.2.2.2.1 s)) rfl ?_
              have hS9 := hS3.wa (x := τ.2.2.2.1) (s := s) w2
              have hO9 : (mg_up M5 1000 (moE (upd si3 31 (nI w2)) τ.2.2.2.1 s)) 1000 = some (moE (upd si3 31 (nI w2)) τ.2.2.2.1 s) := mg_up_s _ _ _
              have hWk9 : isWk (mg_up M5 1000 (moE (upd si3 31 (nI w2)) τ.2.2.2.1 s)) := hWk3.eq (fun k _ _ => mg_up_n _ _ (by omega))
              have hI9 : ∃ gv, isA (mg_up M5 1000 (moE (upd si3 31 (nI w2)) τ.2.2.2.1 s)) 1008 60 gv ∧ (upd si3 31 (nI w2)) 20 = nI gv.length := ⟨gv, h3.2.2.2.2.2.2.2.2.1.eq (mg_up_n _ _ (by decide)), h3.2.2.2.2.2.2.2.1⟩
              have U9 : sm 1000 1023 M0 (mg_up M5 1000 (moE (upd si3 31 (nI w2)) τ.2.2.2.1 s)) := fun k hk => (mg_up_n _ _ (by omega)).trans ((U3 k (by omega) (by omega)).trans (hs0 k hk))
              generalize mg_up M5 1000 (moE (upd si3 31 (nI w2)) τ.2.2.2.1 s) = M9 at hS9 hO9 hWk9 hI9 U9 ⊢
              first | refine mg_aload_n d_Mo_check_166 rfl rfl ?_ | refine mg_aload_nN d_Mo_check_166 rfl rfl ?_
              refine mg_getfield fl_Mo_174 d_Mo_check_167 (by first | assumption | exact mg_up_s _ _ _ | (rw [mg_up_n _ _ (by decide)]; first | assumption | exact mg_up_s _ _ _ | (rw [mg_up_n _ _ (by decide)]; first | assumption | exact mg_up_s _ _ _ | (rw [mg_up_n _ _ (by decide)]; first | assumption | exact mg_up_s _ _ _ | (rw [mg_up_n _ _ (by decide)]; first | assumption | exact mg_up_s _ _ _ | (rw [mg_up_n _ _ (by decide)]; first | assumption | exact mg_up_s _ _ _ | (rw [mg_up_n _ _ (by decide)]; first | assumption | exact mg_up_s _ _ _))))))) rfl ?_
              refine mg_iload d_Mo_check_170 rfl ?_
              refine mg_icmp_le (tgt := 178) d_Mo_check_172 (by decide) (fun c_172 => ?_) (fun c_172 => ?_)
              · have hgt : ¬ runs < w2 := fun e => absurd ((nI_leI (by omega) (by omega)).mp (show nI w2 ≤ nI runs from c_172)) (by omega)
                rw [if_neg hgt] at hr
                rw [htr.2.2.1] at hO9
                refine mg_goto (tgt := 75) d_Mo_check_178 (by decide) ?_
                refine ih (z + 1) pa2 w2 M9 _ _ _ (by omega) hpw hpa3 (by omega) hO9 hS9 hWk9 hI9 ((pk_un (by decide)).trans hz3) U9 (Or.inr ⟨_, rfl⟩) ?_
                rw [← hr]
                first
                | (rw [hpa2, if_pos hv0]; done)
                | (rw [hpa2, if_neg hv0]; done)
              · have hgt : runs < w2 := Nat.lt_of_not_le (fun e => c_172 (nI_le e (by omega)))
                rw [if_pos hgt] at hr
                subst hr
                refine mg_bipush (v := -2) d_Mo_check_175 (by decide) ?_
                exact mg_ireturn d_Mo_check_177 rfl rfl (Nat.le_of_ble_eq_true rfl) (Nat.le_of_ble_eq_true rfl) ⟨rfl, ⟨_, _, hO9, hS9, hWk9, hI9⟩, U9⟩
        · have hbd : isBd (vdT p (tryC gs i z x)) = true := bI_t c_110
          rw [if_pos hbd] at hr
          first | refine mg_aload_n d_Mo_check_113 rfl rfl ?_ | refine mg_aload_nN d_Mo_check_113 rfl rfl ?_
          refine mg_iload_n d_Mo_check_114 rfl rfl ?_
          refine mg_iload_n d_Mo_check_115 rfl rfl ?_
          refine mg_iload d_Mo_check_116 rfl ?_
          refine mg_callV (vl_Mo_171 rfl) d_Mo_check_118 (by first | assumption | exact mg_up_s _ _ _ | (rw [mg_up_n _ _ (by decide)]; first | assumption | exact mg_up_s _ _ _ | (rw [mg_up_n _ _ (by decide)]; first | assumption | exact mg_up_s _ _ _ | (rw [mg_up_n _ _ (by decide)]; first | assumption | exact mg_up_s _ _ _ | (rw [mg_up_n _ _ (by decide)]; first | assumption | exact mg_up_s _ _ _ | (rw [mg_up_n _ _ (by decide)]; first | assumption | exact mg_up_s _ _ _ | (rw [mg_up_n _ _ (by decide)]; first | assumption | exact mg_up_s _ _ _))))))) rfl rfl (c_Mo_find (g := nI i) (p := nI j) (its := vdT p (tryC gs i z x)) h3 ⟨tf, (U3 _ (by decide) (by decide)).trans e2⟩ ⟨ff, (U3 _ (by decide) (by decide)).trans b2⟩) rfl rfl (by rw [hR]; decide) (by rw [hR]; decide) (Nat.le_of_ble_eq_true rfl) ?_
          rintro v M7 ⟨rfl, t1, t2, t3, t4⟩
          have hni : (tryC gs i z x).2.2.1 = false := by
            cases e : (tryC gs i z x).2.2.1 with
            | false => rfl
            | true => rw [vdT, if_pos e] at hbd; exact absurd hbd (by decide)
          obtain ⟨hS7, hWk7, hI7⟩ := isMoS.found (i := i) (j := j) (v0 := vdT p (tryC gs i z x)) hS h3 hWk3 (fun k h1 h2 h3 h4 h5 h6 h7 => V3 k h1 h2 h3 h4 h5 h7) U3 t2 t3 t4 htr.1 (tr_tl htr hni)
          have U7 : sm 1000 1023 M0 M7 := fun k hk => (t4 k (by omega) (by omega) (by omega)).trans ((U3 k (by omega) (by omega)).trans (hs0 k hk))
          have f27 : fdS si3 τ (nI i) (nI j) (vdT p (tryC gs i z x)) 27 = nI i := rfl
          have f28 : fdS si3 τ (nI i) (nI j) (vdT p (tryC gs i z x)) 28 = nI j := rfl
          generalize fdS si3 τ (nI i) (nI j) (vdT p (tryC gs i z x)) = si7 at t1 hS7 hI7 f27 f28
          first | refine mg_aload_n d_Mo_check_121 rfl rfl ?_ | refine mg_aload_nN d_Mo_check_121 rfl rfl ?_
          refine mg_callV (vl_Mo_184 rfl) d_Mo_check_122 (by first | assumption | exact mg_up_s _ _ _ | (rw [mg_up_n _ _ (by decide)]; first | assumption | exact mg_up_s _ _ _ | (rw [mg_up_n _ _ (by decide)]; first | assumption | exact mg_up_s _ _ _ | (rw [mg_up_n _ _ (by decide)]; first | assumption | exact mg_up_s _ _ _ | (rw [mg_up_n _ _ (by decide)]; first | assumption | exact mg_up_s _ _ _ | (rw [mg_up_n _ _ (by decide)]; first | assumption | exact mg_up_s _ _ _ | (rw [mg_up_n _ _ (by decide)]; first | assumption | exact mg_up_s _ _ _))))))) rfl rfl (c_Mo_keepRow t1 hS7.2.1.1.1 hS7.2.1.2 hS7.2.2.1.1 hk200 hS7.2.2.1.2.2) rfl rfl (by rw [hR]; decide) (by rw [hR]; decide) (Nat.le_of_ble_eq_true rfl) ?_
          rintro v M8 ⟨rfl, y1, y2, y3⟩
          rw [f27, f28] at y2
          have hS8 := hS7.ks y2 y3
          rw [List.length_append] at hS8
          replace hS8 : isMoS M8 (upd si7 30 (nI (ks.length + 1))) gs ps (ks ++ [(nI i, nI j, (tryC gs i z x).1)]) wa (some (i, j, vdT p (tryC gs i z x))) le (tryC gs i z x).1 (tryC gs i z x).2.1 pu := hS8
          have hWk8 : isWk M8 := hWk7.eq (fun k _ _ => y3 k (by omega) (by omega))
          have hI8 : ∃ gv, isA M8 1008 60 gv ∧ (upd si7 30 (nI (ks.length + 1))) 20 = nI gv.length := by
            obtain ⟨gv7, k1, k2⟩ := hI7
            exact ⟨gv7, k1.eq (y3 _ (by decide) (by decide)), k2⟩
          have U8 : sm 1000 1023 M0 M8 := fun k hk => (y3 k (by omega) (by omega)).trans (U7 k hk)
          generalize upd si7 30 (nI (ks.length + 1)) = si8 at y1 hS8 hI8
          first | refine mg_aload_n d_Mo_check_125 rfl rfl ?_ | refine mg_aload_nN d_Mo_check_125 rfl rfl ?_
          refine mg_iconst (v := 0) d_Mo_check_126 (by decide) ?_
          refine mg_putfield (fw_Mo_181 _) d_Mo_check_127 (by first | assumption | exact mg_up_s _ _ _ | (rw [mg_up_n _ _ (by decide)]; first | assumption | exact mg_up_s _ _ _ | (rw [mg_up_n _ _ (by decide)]; first | assumption | exact mg_up_s _ _ _ | (rw [mg_up_n _ _ (by decide)]; first | assumption | exact mg_up_s _ _ _ | (rw [mg_up_n _ _ (by decide)]; first | assumption | exact mg_up_s _ _ _ | (rw [mg_up_n _ _ (by decide)]; first | assumption | exact mg_up_s _ _ _ | (rw [mg_up_n _ _ (by decide)]; first | assumption | exact mg_up_s _ _ _))))))) (Nat.le_of_ble_eq_true rfl) (fun _ => ⟨rfl, rfl⟩) ?_
          refine mg_eqM (M' := mg_up M8 1000 (moE (upd si8 37 (bI false)) τ.2.2.2.1 s)) rfl ?_
          refine mg_iconst (v := -1) d_Mo_check_130 (by decide) ?_
          subst hr
          refine mg_ireturn d_Mo_check_131 rfl rfl (Nat.le_of_ble_eq_true rfl) (Nat.le_of_ble_eq_true rfl) ⟨rfl, ⟨_, _, mg_up_s _ _ _, hS8.le false, hWk8.eq (fun k _ _ => mg_up_n _ _ (by omega)), ?_⟩, U8.up (by decide) (by decide)⟩
          obtain ⟨gv8, k1, k2⟩ := hI8
          exact ⟨gv8, k1.eq (mg_up_n _ _ (by decide)), k2⟩
    · refine mg_iload d_Mo_check_75 rfl ?_
      refine mg_iload d_Mo_check_77 rfl ?_
      refine mg_icmp_ge (tgt := 181) d_Mo_check_79 (by decide) (fun c_79 => ?_) (fun c_79 => ?_)
      · have hle : runs ≤ pa := (nI_leI (by omega) (by omega)).mp c_79
        rw [seedC, if_pos hle] at hr
        subst hr
        refine mg_iload d_Mo_check_181 rfl ?_
        exact mg_ireturn d_Mo_check_183 rfl rfl (Nat.le_of_ble_eq_true rfl) (Nat.le_of_ble_eq_true rfl) ⟨rfl, ⟨si, x, hO, hS, hWk, hI⟩, hs0⟩
      · have hle : ¬ runs ≤ pa := fun e => c_79 (nI_le e (by omega))
        rw [seedC, if_neg hle] at hr
        obtain ⟨gv, hI1, hI2⟩ := hI
        first | refine mg_aload_n d_Mo_check_82 rfl rfl ?_ | refine mg_aload_nN d_Mo_check_82 rfl rfl ?_
        refine mg_iload_n d_Mo_check_83 rfl rfl ?_
        refine mg_iconst (v := 1) d_Mo_check_84 (by decide) ?_
        refine mg_callV (vl_Mo_161 rfl) d_Mo_check_85 (by first | assumption | exact mg_up_s _ _ _ | (rw [mg_up_n _ _ (by decide)]; first | assumption | exact mg_up_s _ _ _ | (rw [mg_up_n _ _ (by decide)]; first | assumption | exact mg_up_s _ _ _ | (rw [mg_up_n _ _ (by decide)]; first | assumption | exact mg_up_s _ _ _ | (rw [mg_up_n _ _ (by decide)]; first | assumption | exact mg_up_s _ _ _ | (rw [mg_up_n _ _ (by decide)]; first | assumption | exact mg_up_s _ _ _ | (rw [mg_up_n _ _ (by decide)]; first | assumption | exact mg_up_s _ _ _))))))) rfl rfl (c_Mo_go (gs := gs) (i := i) (g := g) (how := 1) hO hI1 hI2 hWk a3 hw hg ⟨Or.inr (Or.inl rfl), fun e => absurd rfl e, fun _ => ⟨by show ¬ si 13 < 0; rw [hz13]; exact nI_pos (by omega), by show si 13 < 1000; rw [hz13]; exact nI_lt (b := 1000) (by omega) (by decide)⟩⟩) rfl rfl (by rw [hR]; decide) (by rw [hR]; decide) (Nat.le_of_ble_eq_true rfl) ?_
        rintro v M2 ⟨rfl, si2, τ, lm, g1, g2, g3, g4, g5⟩
        rw [hz13] at g1 g3
        have htr := tr_of g3
        have hO2 := g1.1
        have hz2 : si2 13 = nI z := (g4 13 (by decide) (by decide) (by decide) (by decide) (by decide)).trans hz13
        first | refine mg_aload_n d_Mo_check_88 rfl rfl ?_ | refine mg_aload_nN d_Mo_check_88 rfl rfl ?_
        refine mg_dup d_Mo_check_89 rfl ?_
        refine mg_getfield fl_Mo_118 d_Mo_check_90 (by first | assumption | exact mg_up_s _ _ _ | (rw [mg_up_n _ _ (by decide)]; first | assumption | exact mg_up_s _ _ _ | (rw [mg_up_n _ _ (by decide)]; first | assumption | exact mg_up_s _ _ _ | (rw [mg_up_n _ _ (by decide)]; first | assumption | exact mg_up_s _ _ _ | (rw [mg_up_n _ _ (by decide)]; first | assumption | exact mg_up_s _ _ _ | (rw [mg_up_n _ _ (by decide)]; first | assumption | exact mg_up_s _ _ _ | (rw [mg_up_n _ _ (by decide)]; first | assumption | exact mg_up_s _ _ _))))))) rfl ?_
        refine mg_iconst (v := 1) d_Mo_check_93 (by decide) ?_
        refine mg_iadd d_Mo_check_94 ?_
        refine mg_eqi (y := nI (z + 1)) (by rw [hz2, nI_1]) ?_
        refine mg_putfield (fw_Mo_118 _) d_Mo_check_95 (by first | assumption | exact mg_up_s _ _ _ | (rw [mg_up_n _ _ (by decide)]; first | assumption | exact mg_up_s _ _ _ | (rw [mg_up_n _ _ (by decide)]; first | assumption | exact mg_up_s _ _ _ | (rw [mg_up_n _ _ (by decide)]; first | assumption | exact mg_up_s _ _ _ | (rw [mg_up_n _ _ (by decide)]; first | assumption | exact mg_up_s _ _ _ | (rw [mg_up_n _ _ (by decide)]; first | assumption | exact mg_up_s _ _ _ | (rw [mg_up_n _ _ (by decide)]; first | assumption | exact mg_up_s _ _ _))))))) (Nat.le_of_ble_eq_true rfl) (fun _ => ⟨rfl, rfl⟩) ?_
        refine mg_eqM (M' := mg_up M2 1000 (moE (upd si2 13 (nI (z + 1))) τ.2.2.2.1 s)) rfl ?_
        have h3 := g1.size (z' := nI (z + 1))
        have hWk3 : isWk (mg_up M2 1000 (moE (upd si2 13 (nI (z + 1))) τ.2.2.2.1 s)) := g2.eq (fun k _ _ => mg_up_n _ _ (by omega))
        have U3 : ∀ k, k ≠ 1000 → (k < 1008 ∨ 1016 ≤ k) → (mg_up M2 1000 (moE (upd si2 13 (nI (z + 1))) τ.2.2.2.1 s)) k = M k := fun k h1 h2 => (mg_up_n _ _ h1).trans (g5 k h1 (by omega))
        have V3 : ∀ k, k ≠ 10 → k ≠ 11 → k ≠ 12 → k ≠ 13 → k ≠ 15 → k ≠ 25 → (upd si2 13 (nI (z + 1))) k = si k := fun k h1 h2 h3 h4 h5 h6 => (pk_un h4).trans (g4 k h1 h2 h3 h5 h6)
        have hz3 : (upd si2 13 (nI (z + 1))) 13 = nI (z + 1) := pk_us
        generalize mg_up M2 1000 (moE (upd si2 13 (nI (z + 1))) τ.2.2.2.1 s) = M3 at h3 hWk3 U3 ⊢
        generalize upd si2 13 (nI (z + 1)) = si3 at h3 V3 hz3 ⊢
        have hO3 := h3.1
        have hS3 : isMoS M3 si3 gs ps ks wa fo le row nu pu := hS.fr (fun k hk => V3 k (by omega) (by omega) (by omega) (by omega) (by omega) (by omega)) (fun k hk => U3 k (by omega) (by omega))
        first | refine mg_aload_n d_Mo_check_98 rfl rfl ?_ | refine mg_aload_nN d_Mo_check_98 rfl rfl ?_
        refine mg_iload_n d_Mo_check_99 rfl rfl ?_
        refine mg_callV (vl_Mo_164 rfl) d_Mo_check_100 (by first | assumption | exact mg_up_s _ _ _ | (rw [mg_up_n _ _ (by decide)]; first | assumption | exact mg_up_s _ _ _ | (rw [mg_up_n _ _ (by decide)]; first | assumption | exact mg_up_s _ _ _ | (rw [mg_up_n _ _ (by decide)]; first | assumption | exact mg_up_s _ _ _ | (rw [mg_up_n _ _ (by decide)]; first | assumption | exact mg_up_s _ _ _ | (rw [mg_up_n _ _ (by decide)]; first | assumption | exact mg_up_s _ _ _ | (rw [mg_up_n _ _ (by decide)]; first | assumption | exact mg_up_s _ _ _))))))) rfl rfl (c_Mo_does h3 (a4.eq (fun k _ _ => U3 k (by omega) (by omega))) hpl hp) rfl rfl (by rw [hR]; decide) (by rw [hR]; decide) (Nat.le_of_ble_eq_true rfl) ?_
        rintro v M4 ⟨rfl, rfl⟩
        refine mg_eqv (y := .int (vdT p (tryC gs i z x))) (congrArg Value.int (tr_vd htr)) ?_
        refine mg_istore d_Mo_check_103 (Nat.le_of_ble_eq_true rfl) rfl ?_
        refine mg_iload d_Mo_check_105 rfl ?_
        refine mg_callS (sl_Mo_168 rfl) d_Mo_check_107 (c_Mo_isBad) rfl rfl (by rw [hR]; decide) (by rw [hR]; decide) (Nat.le_of_ble_eq_true rfl) ?_
        rintro v M5 ⟨rfl, rfl⟩
        refine mg_if_eq (tgt := 132) d_Mo_check_110 (by decide) (fun c_110 => ?_) (fun c_110 => ?_)
        · have hbd : isBd (vdT p (tryC gs i z x)) = false := bI_f (by first | exact c_110 | exact Decidable.not_not.mp c_110)
          rw [if_neg (by rw [hbd]; decide)] at hr
          refine mg_iload d_Mo_check_132 rfl ?_
          refine mg_iload d_Mo_check_134 rfl ?_
          refine mg_if_ne (tgt := 143) d_Mo_check_136 (by decide) (fun c_136 => ?_) (fun c_136 => ?_)
          · have hv0 : ¬ (vdT p (tryC gs i z x)) = 0 := c_136
            rw [if_neg hv0, if_neg hv0] at hr
            refine mg_iconst (v := 0) d_Mo_check_143 (by decide) ?_
            refine mg_iadd d_Mo_check_144 ?_
            obtain ⟨pa2, hpa2, hpa3⟩ : ∃ pa2, pa2 = (if (vdT p (tryC gs i z x)) = 0 then pa + 1 else pa) ∧ pa2 ≤ runs := ⟨_, rfl, by split <;> omega⟩
            refine mg_eqi (y := nI pa2) (by first | (rw [hpa2, if_neg hv0, show (0 : Int32) = nI 0 from rfl, nI_add]; rfl) | (rw [hpa2, if_pos hv0, nI_1])) ?_
            refine mg_istore d_Mo_check_145 (Nat.le_of_ble_eq_true rfl) rfl ?_
            first | refine mg_aload_n d_Mo_check_147 rfl rfl ?_ | refine mg_aload_nN d_Mo_check_147 rfl rfl ?_
            refine mg_dup d_Mo_check_148 rfl ?_
            refine mg_getfield fl_Mo_174 d_Mo_check_149 (by first | assumption | exact mg_up_s _ _ _ | (rw [mg_up_n _ _ (by decide)]; first | assumption | exact mg_up_s _ _ _ | (rw [mg_up_n _ _ (by decide)]; first | assumption | exact mg_up_s _ _ _ | (rw [mg_up_n _ _ (by decide)]; first | assumption | exact mg_up_s _ _ _ | (rw [mg_up_n _ _ (by decide)]; first | assumption | exact mg_up_s _ _ _ | (rw [mg_up_n _ _ (by decide)]; first | assumption | exact mg_up_s _ _ _ | (rw [mg_up_n _ _ (by decide)]; first | assumption | exact mg_up_s _ _ _))))))) rfl ?_
            refine mg_iload d_Mo_check_152 rfl ?_
            refine mg_if_ne (tgt := 161) d_Mo_check_154 (by decide) (fun c_154 => ?_) (fun c_154 => ?_)
            · have e31 : si3 31 + 1 = nI (wa + 1) := by rw [(hS3.2.2.1.2.1), nI_1]
              obtain ⟨w2, hw2⟩ : ∃ w2, w2 = wa + 1 := ⟨_, rfl⟩
              rw [← hw2] at e31 hr
              have hpw : pa2 + w2 = z + 1 := by rw [hpa2, hw2, if_neg hv0]; omega
              refine mg_iconst (v := 1) d_Mo_check_161 (by decide) ?_
              refine mg_iadd d_Mo_check_162 ?_
              refine mg_eqi e31 ?_
              refine mg_putfield (fw_Mo_174 _) d_Mo_check_163 (by first | assumption | exact mg_up_s _ _ _ | (rw [mg_up_n _ _ (by decide)]; first | assumption | exact mg_up_s _ _ _ | (rw [mg_up_n _ _ (by decide)]; first | assumption | exact mg_up_s _ _ _ | (rw [mg_up_n _ _ (by decide)]; first | assumption | exact mg_up_s _ _ _ | (rw [mg_up_n _ _ (by decide)]; first | assumption | exact mg_up_s _ _ _ | (rw [mg_up_n _ _ (by decide)]; first | assumption | exact mg_up_s _ _ _ | (rw [mg_up_n _ _ (by decide)]; first | assumption | exact mg_up_s _ _ _))))))) (Nat.le_of_ble_eq_true rfl) (fun _ => ⟨rfl, rfl⟩) ?_
              refine mg_eqM (M' := mg_up M5 1000 (moE (upd si3 31 (nI w2)) τ.2.2.2.1 s)) rfl ?_
              have hS9 := hS3.wa (x := τ.2.2.2.1) (s := s) w2
              have hO9 : (mg_up M5 1000 (moE (upd si3 31 (nI w2)) τ.2.2.2.1 s)) 1000 = some (moE (upd si3 31 (nI w2)) τ.2.2.2.1 s) := mg_up_s _ _ _
              have hWk9 : isWk (mg_up M5 1000 (moE (upd si3 31 (nI w2)) τ.2.2.2.1 s)) := hWk3.eq (fun k _ _ => mg_up_n _ _ (by omega))
              have hI9 : ∃ gv, isA (mg_up M5 1000 (moE (upd si3 31 (nI w2)) τ.2.2.2.1 s)) 1008 60 gv ∧ (upd si3 31 (nI w2)) 20 = nI gv.length := ⟨gv, h3.2.2.2.2.2.2.2.2.1.eq (mg_up_n _ _ (by decide)), h3.2.2.2.2.2.2.2.1⟩
              have U9 : sm 1000 1023 M0 (mg_up M5 1000 (moE (upd si3 31 (nI w2)) τ.2.2.2.1 s)) := fun k hk => (mg_up_n _ _ (by omega)).trans ((U3 k (by omega) (by omega)).trans (hs0 k hk))
              generalize mg_up M5 1000 (moE (upd si3 31 (nI w2)) τ.2.2.2.1 s) = M9 at hS9 hO9 hWk9 hI9 U9 ⊢
              first | refine mg_aload_n d_Mo_check_166 rfl rfl ?_ | refine mg_aload_nN d_Mo_check_166 rfl rfl ?_
              refine mg_getfield fl_Mo_174 d_Mo_check_167 (by first | assumption | exact mg_up_s _ _ _ | (rw [mg_up_n _ _ (by decide)]; first | assumption | exact mg_up_s _ _ _ | (rw [mg_up_n _ _ (by decide)]; first | assumption | exact mg_up_s _ _ _ | (rw [mg_up_n _ _ (by decide)]; first | assumption | exact mg_up_s _ _ _ | (rw [mg_up_n _ _ (by decide)]; first | assumption | exact mg_up_s _ _ _ | (rw [mg_up_n _ _ (by decide)]; first | assumption | exact mg_up_s _ _ _ | (rw [mg_up_n _ _ (by decide)]; first | assumption | exact mg_up_s _ _ _))))))) rfl ?_
              refine mg_iload d_Mo_check_170 rfl ?_
              refine mg_icmp_le (tgt := 178) d_Mo_check_172 (by decide) (fun c_172 => ?_) (fun c_172 => ?_)
              · have hgt : ¬ runs < w2 := fun e => absurd ((nI_leI (by omega) (by omega)).mp (show nI w2 ≤ nI runs from c_172)) (by omega)
                rw [if_neg hgt] at hr
                rw [htr.2.2.1] at hO9
                refine mg_goto (tgt := 75) d_Mo_check_178 (by decide) ?_
                refine ih (z + 1) pa2 w2 M9 _ _ _ (by omega) hpw hpa3 (by omega) hO9 hS9 hWk9 hI9 ((pk_un (by decide)).trans hz3) U9 (Or.inr ⟨_, rfl⟩) ?_
                rw [← hr]
                first
                | (rw [hpa2, if_pos hv0]; done)
                | (rw [hpa2, if_neg hv0]; done)
              · have hgt : runs < w2 := Nat.lt_of_not_le (fun e => c_172 (nI_le e (by omega)))
                rw [if_pos hgt] at hr
                subst hr
                refine mg_bipush (v := -2) d_Mo_check_175 (by decide) ?_
                exact mg_ireturn d_Mo_check_177 rfl rfl (Nat.le_of_ble_eq_true rfl) (Nat.le_of_ble_eq_true rfl) ⟨rfl, ⟨_, _, hO9, hS9, hWk9, hI9⟩, U9⟩
            · exact absurd (by first | exact c_154 | exact Decidable.not_not.mp c_154) hv0
          · have hv0 : (vdT p (tryC gs i z x)) = 0 := (by first | exact c_136 | exact Decidable.not_not.mp c_136)
            rw [if_pos hv0, if_pos hv0] at hr
            refine mg_iconst (v := 1) d_Mo_check_139 (by decide) ?_
            refine mg_goto (tgt := 144) d_Mo_check_140 (by decide) ?_
            refine mg_iadd d_Mo_check_144 ?_
            obtain ⟨pa2, hpa2, hpa3⟩ : ∃ pa2, pa2 = (if (vdT p (tryC gs i z x)) = 0 then pa + 1 else pa) ∧ pa2 ≤ runs := ⟨_, rfl, by split <;> omega⟩
            refine mg_eqi (y := nI pa2) (by first | (rw [hpa2, if_neg hv0, show (0 : Int32) = nI 0 from rfl, nI_add]; rfl) | (rw [hpa2, if_pos hv0, nI_1])) ?_
            refine mg_istore d_Mo_check_145 (Nat.le_of_ble_eq_true rfl) rfl ?_
            first | refine mg_aload_n d_Mo_check_147 rfl rfl ?_ | refine mg_aload_nN d_Mo_check_147 rfl rfl ?_
            refine mg_dup d_Mo_check_148 rfl ?_
            refine mg_getfield fl_Mo_174 d_Mo_check_149 (by first | assumption | exact mg_up_s _ _ _ | (rw [mg_up_n _ _ (by decide)]; first | assumption | exact mg_up_s _ _ _ | (rw [mg_up_n _ _ (by decide)]; first | assumption | exact mg_up_s _ _ _ | (rw [mg_up_n _ _ (by decide)]; first | assumption | exact mg_up_s _ _ _ | (rw [mg_up_n _ _ (by decide)]; first | assumption | exact mg_up_s _ _ _ | (rw [mg_up_n _ _ (by decide)]; first | assumption | exact mg_up_s _ _ _ | (rw [mg_up_n _ _ (by decide)]; first | assumption | exact mg_up_s _ _ _))))))) rfl ?_
            refine mg_iload d_Mo_check_152 rfl ?_
            refine mg_if_ne (tgt := 161) d_Mo_check_154 (by decide) (fun c_154 => ?_) (fun c_154 => ?_)
            · exact absurd hv0 c_154
            · have e31 : si3 31 + 0 = nI wa := by rw [(hS3.2.2.1.2.1), show (0 : Int32) = nI 0 from rfl, nI_add]; rfl
              obtain ⟨w2, hw2⟩ : ∃ w2, w2 = wa := ⟨_, rfl⟩
              rw [← hw2] at e31 hr
              have hpw : pa2 + w2 = z + 1 := by rw [hpa2, hw2, if_pos hv0]; omega
              refine mg_iconst (v := 0) d_Mo_check_157 (by decide) ?_
              refine mg_goto (tgt := 162) d_Mo_check_158 (by decide) ?_
              refine mg_iadd d_Mo_check_162 ?_
              refine mg_eqi e31 ?_
              refine mg_putfield (fw_Mo_174 _) d_Mo_check_163 (by first | assumption | exact mg_up_s _ _ _ | (rw [mg_up_n _ _ (by decide)]; first | assumption | exact mg_up_s _ _ _ | (rw [mg_up_n _ _ (by decide)]; first | assumption | exact mg_up_s _ _ _ | (rw [mg_up_n _ _ (by decide)]; first | assumption | exact mg_up_s _ _ _ | (rw [mg_up_n _ _ (by decide)]; first | assumption | exact mg_up_s _ _ _ | (rw [mg_up_n _ _ (by decide)]; first | assumption | exact mg_up_s _ _ _ | (rw [mg_up_n _ _ (by decide)]; first | assumption | exact mg_up_s _ _ _))))))) (Nat.le_of_ble_eq_true rfl) (fun _ => ⟨rfl, rfl⟩) ?_
              refine mg_eqM (M' := mg_up M5 1000 (moE (upd si3 31 (nI w2)) τ.2.2.2.1 s)) rfl ?_
              have hS9 := hS3.wa (x := τ.2.2.2.1) (s := s) w2
              have hO9 : (mg_up M5 1000 (moE (upd si3 31 (nI w2)) τ.2.2.2.1 s)) 1000 = some (moE (upd si3 31 (nI w2)) τ.2.2.2.1 s) := mg_up_s _ _ _
              have hWk9 : isWk (mg_up M5 1000 (moE (upd si3 31 (nI w2)) τ.2.2.2.1 s)) := hWk3.eq (fun k _ _ => mg_up_n _ _ (by omega))
              have hI9 : ∃ gv, isA (mg_up M5 1000 (moE (upd si3 31 (nI w2)) τ.2.2.2.1 s)) 1008 60 gv ∧ (upd si3 31 (nI w2)) 20 = nI gv.length := ⟨gv, h3.2.2.2.2.2.2.2.2.1.eq (mg_up_n _ _ (by decide)), h3.2.2.2.2.2.2.2.1⟩
              have U9 : sm 1000 1023 M0 (mg_up M5 1000 (moE (upd si3 31 (nI w2)) τ.2.2.2.1 s)) := fun k hk => (mg_up_n _ _ (by omega)).trans ((U3 k (by omega) (by omega)).trans (hs0 k hk))
              generalize mg_up M5 1000 (moE (upd si3 31 (nI w2)) τ.2.2.2.1 s) = M9 at hS9 hO9 hWk9 hI9 U9 ⊢
              first | refine mg_aload_n d_Mo_check_166 rfl rfl ?_ | refine mg_aload_nN d_Mo_check_166 rfl rfl ?_
              refine mg_getfield fl_Mo_174 d_Mo_check_167 (by first | assumption | exact mg_up_s _ _ _ | (rw [mg_up_n _ _ (by decide)]; first | assumption | exact mg_up_s _ _ _ | (rw [mg_up_n _ _ (by decide)]; first | assumption | exact mg_up_s _ _ _ | (rw [mg_up_n _ _ (by decide)]; first | assumption | exact mg_up_s _ _ _ | (rw [mg_up_n _ _ (by decide)]; first | assumption | exact mg_up_s _ _ _ | (rw [mg_up_n _ _ (by decide)]; first | assumption | exact mg_up_s _ _ _ | (rw [mg_up_n _ _ (by decide)]; first | assumption | exact mg_up_s _ _ _))))))) rfl ?_
              refine mg_iload d_Mo_check_170 rfl ?_
              refine mg_icmp_le (tgt := 178) d_Mo_check_172 (by decide) (fun c_172 => ?_) (fun c_172 => ?_)
              · have hgt : ¬ runs < w2 := fun e => absurd ((nI_leI (by omega) (by omega)).mp (show nI w2 ≤ nI runs from c_172)) (by omega)
                rw [if_neg hgt] at hr
                rw [htr.2.2.1] at hO9
                refine mg_goto (tgt := 75) d_Mo_check_178 (by decide) ?_
                refine ih (z + 1) pa2 w2 M9 _ _ _ (by omega) hpw hpa3 (by omega) hO9 hS9 hWk9 hI9 ((pk_un (by decide)).trans hz3) U9 (Or.inr ⟨_, rfl⟩) ?_
                rw [← hr]
                first
                | (rw [hpa2, if_pos hv0]; done)
                | (rw [hpa2, if_neg hv0]; done)
              · have hgt : runs < w2 := Nat.lt_of_not_le (fun e => c_172 (nI_le e (by omega)))
                rw [if_pos hgt] at hr
                subst hr
                refine mg_bipush (v := -2) d_Mo_check_175 (by decide) ?_
                exact mg_ireturn d_Mo_check_177 rfl rfl (Nat.le_of_ble_eq_true rfl) (Nat.le_of_ble_eq_true rfl) ⟨rfl, ⟨_, _, hO9, hS9, hWk9, hI9⟩, U9⟩
        · have hbd : isBd (vdT p (tryC gs i z x)) = true := bI_t c_110
          rw [if_pos hbd] at hr
          first | refine mg_aload_n d_Mo_check_113 rfl rfl ?_ | refine mg_aload_nN d_Mo_check_113 rfl rfl ?_
          refine mg_iload_n d_Mo_check_114 rfl rfl ?_
          refine mg_iload_n d_Mo_check_115 rfl rfl ?_
          refine mg_iload d_Mo_check_116 rfl ?_
          refine mg_callV (vl_Mo_171 rfl) d_Mo_check_118 (by first | assumption | exact mg_up_s _ _ _ | (rw [mg_up_n _ _ (by decide)]; first | assumption | exact mg_up_s _ _ _ | (rw [mg_up_n _ _ (by decide)]; first | assumption | exact mg_up_s _ _ _ | (rw [mg_up_n _ _ (by decide)]; first | assumption | exact mg_up_s _ _ _ | (rw [mg_up_n _ _ (by decide)]; first | assumption | exact mg_up_s _ _ _ | (rw [mg_up_n _ _ (by decide)]; first | assumption | exact mg_up_s _ _ _ | (rw [mg_up_n _ _ (by decide)]; first | assumption | exact mg_up_s _ _ _))))))) rfl rfl (c_Mo_find (g := nI i) (p := nI j) (its := vdT p (tryC gs i z x)) h3 ⟨tf, (U3 _ (by decide) (by decide)).trans e2⟩ ⟨ff, (U3 _ (by decide) (by decide)).trans b2⟩) rfl rfl (by rw [hR]; decide) (by rw [hR]; decide) (Nat.le_of_ble_eq_true rfl) ?_
          rintro v M7 ⟨rfl, t1, t2, t3, t4⟩
          have hni : (tryC gs i z x).2.2.1 = false := by
            cases e : (tryC gs i z x).2.2.1 with
            | false => rfl
            | true => rw [vdT, if_pos e] at hbd; exact absurd hbd (by decide)
          obtain ⟨hS7, hWk7, hI7⟩ := isMoS.found (i := i) (j := j) (v0 := vdT p (tryC gs i z x)) hS h3 hWk3 (fun k h1 h2 h3 h4 h5 h6 h7 => V3 k h1 h2 h3 h4 h5 h7) U3 t2 t3 t4 htr.1 (tr_tl htr hni)
          have U7 : sm 1000 1023 M0 M7 := fun k hk => (t4 k (by omega) (by omega) (by omega)).trans ((U3 k (by omega) (by omega)).trans (hs0 k hk))
          have f27 : fdS si3 τ (nI i) (nI j) (vdT p (tryC gs i z x)) 27 = nI i := rfl
          have f28 : fdS si3 τ (nI i) (nI j) (vdT p (tryC gs i z x)) 28 = nI j := rfl
          generalize fdS si3 τ (nI i) (nI j) (vdT p (tryC gs i z x)) = si7 at t1 hS7 hI7 f27 f28
          first | refine mg_aload_n d_Mo_check_121 rfl rfl ?_ | refine mg_aload_nN d_Mo_check_121 rfl rfl ?_
          refine mg_callV (vl_Mo_184 rfl) d_Mo_check_122 (by first | assumption | exact mg_up_s _ _ _ | (rw [mg_up_n _ _ (by decide)]; first | assumption | exact mg_up_s _ _ _ | (rw [mg_up_n _ _ (by decide)]; first | assumption | exact mg_up_s _ _ _ | (rw [mg_up_n _ _ (by decide)]; first | assumption | exact mg_up_s _ _ _ | (rw [mg_up_n _ _ (by decide)]; first | assumption | exact mg_up_s _ _ _ | (rw [mg_up_n _ _ (by decide)]; first | assumption | exact mg_up_s _ _ _ | (rw [mg_up_n _ _ (by decide)]; first | assumption | exact mg_up_s _ _ _))))))) rfl rfl (c_Mo_keepRow t1 hS7.2.1.1.1 hS7.2.1.2 hS7.2.2.1.1 hk200 hS7.2.2.1.2.2) rfl rfl (by rw [hR]; decide) (by rw [hR]; decide) (Nat.le_of_ble_eq_true rfl) ?_
          rintro v M8 ⟨rfl, y1, y2, y3⟩
          rw [f27, f28] at y2
          have hS8 := hS7.ks y2 y3
          rw [List.length_append] at hS8
          replace hS8 : isMoS M8 (upd si7 30 (nI (ks.length + 1))) gs ps (ks ++ [(nI i, nI j, (tryC gs i z x).1)]) wa (some (i, j, vdT p (tryC gs i z x))) le (tryC gs i z x).1 (tryC gs i z x).2.1 pu := hS8
          have hWk8 : isWk M8 := hWk7.eq (fun k _ _ => y3 k (by omega) (by omega))
          have hI8 : ∃ gv, isA M8 1008 60 gv ∧ (upd si7 30 (nI (ks.length + 1))) 20 = nI gv.length := by
            obtain ⟨gv7, k1, k2⟩ := hI7
            exact ⟨gv7, k1.eq (y3 _ (by decide) (by decide)), k2⟩
          have U8 : sm 1000 1023 M0 M8 := fun k hk => (y3 k (by omega) (by omega)).trans (U7 k hk)
          generalize upd si7 30 (nI (ks.length + 1)) = si8 at y1 hS8 hI8
          first | refine mg_aload_n d_Mo_check_125 rfl rfl ?_ | refine mg_aload_nN d_Mo_check_125 rfl rfl ?_
          refine mg_iconst (v := 0) d_Mo_check_126 (by decide) ?_
          refine mg_putfield (fw_Mo_181 _) d_Mo_check_127 (by first | assumption | exact mg_up_s _ _ _ | (rw [mg_up_n _ _ (by decide)]; first | assumption | exact mg_up_s _ _ _ | (rw [mg_up_n _ _ (by decide)]; first | assumption | exact mg_up_s _ _ _ | (rw [mg_up_n _ _ (by decide)]; first | assumption | exact mg_up_s _ _ _ | (rw [mg_up_n _ _ (by decide)]; first | assumption | exact mg_up_s _ _ _ | (rw [mg_up_n _ _ (by decide)]; first | assumption | exact mg_up_s _ _ _ | (rw [mg_up_n _ _ (by decide)]; first | assumption | exact mg_up_s _ _ _))))))) (Nat.le_of_ble_eq_true rfl) (fun _ => ⟨rfl, rfl⟩) ?_
          refine mg_eqM (M' := mg_up M8 1000 (moE (upd si8 37 (bI false)) τ.2.2.2.1 s)) rfl ?_
          refine mg_iconst (v := -1) d_Mo_check_130 (by decide) ?_
          subst hr
          refine mg_ireturn d_Mo_check_131 rfl rfl (Nat.le_of_ble_eq_true rfl) (Nat.le_of_ble_eq_true rfl) ⟨rfl, ⟨_, _, mg_up_s _ _ _, hS8.le false, hWk8.eq (fun k _ _ => mg_up_n _ _ (by omega)), ?_⟩, U8.up (by decide) (by decide)⟩
          obtain ⟨gv8, k1, k2⟩ := hI8
          exact ⟨gv8, k1.eq (mg_up_n _ _ (by decide)), k2⟩

set_option maxHeartbeats 4000000 in
set_option maxRecDepth 100000 in
theorem c_Mo_check_no {M : mg_M} {gs : List gN} {ps : List pN} {ks : List kN} {wa : Nat} {fo : fO} {le : Bool} {row nu pu : List Int32} {s : Int64} {gi pj rn : Int32} {sd : Int64} (h : isMo M gs ps ks wa fo le row nu pu s) (hb : offR gi gs.length ∨ offR pj ps.length ∨ rn < 1 ∨ 60 < rn) : mg_Ct Y_Mo_check { frames := 5, cells := 0, slots := 0, locals := 118 } [.ref 1000, .int gi, .int pj, .long sd, .int rn] M (fun v M' => v = some (.int (-3)) ∧ isMo M' gs ps ks wa fo le row nu pu s ∧ sm 1000 1023 M M') := by
  obtain ⟨si, x, hO, hS, hWk, hI⟩ := id h
  obtain ⟨⟨a1, a2, a3, a4⟩, ⟨b1, ⟨ff, b2, b3, b4⟩⟩, ⟨c1, c2, c3⟩, d1, ⟨e1, ⟨tf, e2, e3, e4⟩⟩, f1, ⟨pf, f2, f3, f4⟩⟩ := id hS
  have hz := isMo.c0 (x := x) (s := s) hS hWk hI
  refine mg_met [some (.ref 1000), some (.int gi), some (.int pj), some (.long sd), none, some (.int rn), none, none] (by decide +kernel) rfl (Nat.le_of_ble_eq_true rfl) ?_
  intro X hR _
  first | refine mg_aload_n d_Mo_check_0 rfl rfl ?_ | refine mg_aload_nN d_Mo_check_0 rfl rfl ?_
  refine mg_iconst (v := 0) d_Mo_check_1 (by decide) ?_
  refine mg_putfield (fw_Mo_80 _) d_Mo_check_2 (by first | assumption | exact mg_up_s _ _ _ | (rw [mg_up_n _ _ (by decide)]; first | assumption | exact mg_up_s _ _ _ | (rw [mg_up_n _ _ (by decide)]; first | assumption | exact mg_up_s _ _ _ | (rw [mg_up_n _ _ (by decide)]; first | assumption | exact mg_up_s _ _ _ | (rw [mg_up_n _ _ (by decide)]; first | assumption | exact mg_up_s _ _ _ | (rw [mg_up_n _ _ (by decide)]; first | assumption | exact mg_up_s _ _ _ | (rw [mg_up_n _ _ (by decide)]; first | assumption | exact mg_up_s _ _ _))))))) (Nat.le_of_ble_eq_true rfl) (fun _ => ⟨rfl, rfl⟩) ?_
  refine mg_eqM (M' := c0M M si x s) rfl ?_
  have hO1 : (c0M M si x s) 1000 = some (moE (upd si 0 0) x s) := mg_up_s _ _ _
  have hT1 : (c0M M si x s) 1021 = some (iaE 60 tf) := (mg_up_n _ _ (by decide)).trans e2
  have hF1 : (c0M M si x s) 1016 = some (iaE 60 ff) := (mg_up_n _ _ (by decide)).trans b2
  have hP1 : (c0M M si x s) 1022 = some (iaE 60 pf) := (mg_up_n _ _ (by decide)).trans f2
  first | refine mg_aload_n d_Mo_check_5 rfl rfl ?_ | refine mg_aload_nN d_Mo_check_5 rfl rfl ?_
  refine mg_iload_n d_Mo_check_6 rfl rfl ?_
  refine mg_callV (vl_Mo_90 rfl) d_Mo_check_7 (by first | assumption | exact mg_up_s _ _ _ | (rw [mg_up_n _ _ (by decide)]; first | assumption | exact mg_up_s _ _ _ | (rw [mg_up_n _ _ (by decide)]; first | assumption | exact mg_up_s _ _ _ | (rw [mg_up_n _ _ (by decide)]; first | assumption | exact mg_up_s _ _ _ | (rw [mg_up_n _ _ (by decide)]; first | assumption | exact mg_up_s _ _ _ | (rw [mg_up_n _ _ (by decide)]; first | assumption | exact mg_up_s _ _ _ | (rw [mg_up_n _ _ (by decide)]; first | assumption | exact mg_up_s _ _ _))))))) rfl rfl (c_Mo_isGenerator hO1) rfl rfl (by rw [hR]; decide) (by rw [hR]; decide) (Nat.le_of_ble_eq_true rfl) ?_
  rintro v M1 ⟨rfl, rfl⟩
  refine mg_if_eq (tgt := 38) d_Mo_check_10 (by decide) (fun c_10 => ?_) (fun c_10 => ?_)
  · refine mg_bipush (v := -3) d_Mo_check_38 (by decide) ?_
    exact mg_ireturn d_Mo_check_40 rfl rfl (Nat.le_of_ble_eq_true rfl) (Nat.le_of_ble_eq_true rfl) ⟨rfl, hz⟩
  · have hgo : ¬ offR gi gs.length := fun e => c_10 (by rw [show (upd si 0 0) 1 = nI gs.length from a1, ig_f e]; rfl)
    refine mg_iload_n d_Mo_check_13 rfl rfl ?_
    refine mg_if_lt (tgt := 38) d_Mo_check_14 (by decide) (fun c_14 => ?_) (fun c_14 => ?_)
    · refine mg_bipush (v := -3) d_Mo_check_38 (by decide) ?_
      exact mg_ireturn d_Mo_check_40 rfl rfl (Nat.le_of_ble_eq_true rfl) (Nat.le_of_ble_eq_true rfl) ⟨rfl, hz⟩
    · refine mg_iload_n d_Mo_check_17 rfl rfl ?_
      first | refine mg_aload_n d_Mo_check_18 rfl rfl ?_ | refine mg_aload_nN d_Mo_check_18 rfl rfl ?_
      refine mg_getfield fl_Mo_94 d_Mo_check_19 (by first | assumption | exact mg_up_s _ _ _ | (rw [mg_up_n _ _ (by decide)]; first | assumption | exact mg_up_s _ _ _ | (rw [mg_up_n _ _ (by decide)]; first | assumption | exact mg_up_s _ _ _ | (rw [mg_up_n _ _ (by decide)]; first | assumption | exact mg_up_s _ _ _ | (rw [mg_up_n _ _ (by decide)]; first | assumption | exact mg_up_s _ _ _ | (rw [mg_up_n _ _ (by decide)]; first | assumption | exact mg_up_s _ _ _ | (rw [mg_up_n _ _ (by decide)]; first | assumption | exact mg_up_s _ _ _))))))) rfl ?_
      refine mg_icmp_ge (tgt := 38) d_Mo_check_22 (by decide) (fun c_22 => ?_) (fun c_22 => ?_)
      · refine mg_bipush (v := -3) d_Mo_check_38 (by decide) ?_
        exact mg_ireturn d_Mo_check_40 rfl rfl (Nat.le_of_ble_eq_true rfl) (Nat.le_of_ble_eq_true rfl) ⟨rfl, hz⟩
      · refine mg_iload d_Mo_check_25 rfl ?_
        refine mg_iconst (v := 1) d_Mo_check_27 (by decide) ?_
        refine mg_icmp_lt (tgt := 38) d_Mo_check_28 (by decide) (fun c_28 => ?_) (fun c_28 => ?_)
        · refine mg_bipush (v := -3) d_Mo_check_38 (by decide) ?_
          exact mg_ireturn d_Mo_check_40 rfl rfl (Nat.le_of_ble_eq_true rfl) (Nat.le_of_ble_eq_true rfl) ⟨rfl, hz⟩
        · refine mg_iload d_Mo_check_31 rfl ?_
          refine mg_bipush (v := 60) d_Mo_check_33 (by decide) ?_
          refine mg_icmp_le (tgt := 41) d_Mo_check_35 (by decide) (fun c_35 => ?_) (fun c_35 => ?_)
          · rcases hb with hb | (hb | hb) | hb | hb
            · exact absurd hb hgo
            · exact absurd hb c_14
            · exact absurd (show (upd si 0 0) 2 ≤ pj by rw [show (upd si 0 0) 2 = nI ps.length from a2]; exact hb) c_22
            · exact absurd hb c_28
            · exact absurd c_35 (Int32.not_le.mpr hb)
          · refine mg_bipush (v := -3) d_Mo_check_38 (by decide) ?_
            exact mg_ireturn d_Mo_check_40 rfl rfl (Nat.le_of_ble_eq_true rfl) (Nat.le_of_ble_eq_true rfl) ⟨rfl, hz⟩

theorem mg_pst {X : mg_X} {Y : mg_Y} {P P' : Option Value → mg_M → Prop} {rm : Room} {M : mg_M} {k j pc : Nat} {lv : List (Option Value)} {st : List Value} (e : P' = P) (kk : mg_G X Y (mg_Q X P rm) M k j pc lv st) : mg_G X Y (mg_Q X P' rm) M k j pc lv st := e ▸ kk

set_option maxHeartbeats 4000000 in
set_option maxRecDepth 100000 in
theorem c_Mo_check {M : mg_M} {gs : List gN} {ps : List pN} {ks : List kN} {wa : Nat} {fo : fO} {le : Bool} {row nu pu : List Int32} {s : Int64} {i j runs : Nat} {g : gN} {p : pN} {sd : Int64} (h : isMo M gs ps ks wa fo le row nu pu s) (hw : wfG gs) (hpl : ps.length ≤ 10) (hg : gs[i]? = some g) (hp : ps[j]? = some p) (hr1 : 1 ≤ runs) (hr2 : runs ≤ 60) (hkl : ks.length ≤ 200) (hkn : ∀ k ∈ ks, nnL k.2.2) (hk200 : findKC gs p i (nI i) (nI j) ks ks.length = none → ks.length < 200) : mg_Ct Y_Mo_check { frames := 5, cells := 0, slots := 0, locals := 118 } [.ref 1000, .int (nI i), .int (nI j), .long sd, .int (nI runs)] M (fun v M' => v = some (.int (chkS gs ks fo le row nu p i j runs sd).1) ∧ isMo M' gs ps (chkS gs ks fo le row nu p i j runs sd).2.1 (chkS gs ks fo le row nu p i j runs sd).2.2.1 (chkS gs ks fo le row nu p i j runs sd).2.2.2.1 (chkS gs ks fo le row nu p i j runs sd).2.2.2.2.1 (chkS gs ks fo le row nu p i j runs sd).2.2.2.2.2.1 (chkS gs ks fo le row nu p i j runs sd).2.2.2.2.2.2 pu s ∧ sm 1000 1023 M M') := by
  obtain ⟨si, x, hO, hS, hWk, hI⟩ := id h
  obtain ⟨⟨a1, a2, a3, a4⟩, ⟨b1, ⟨ff, b2, b3, b4⟩⟩, ⟨c1, c2, c3⟩, d1, ⟨e1, ⟨tf, e2, e3, e4⟩⟩, f1, ⟨pf, f2, f3, f4⟩⟩ := id hS
  have hz := isMo.c0 (x := x) (s := s) hS hWk hI
  have hi : i < gs.length := (List.getElem?_eq_some_iff.mp hg).1
  have hj : j < ps.length := (List.getElem?_eq_some_iff.mp hp).1
  refine mg_met [some (.ref 1000), some (.int (nI i)), some (.int (nI j)), some (.long sd), none, some (.int (nI runs)), none, none] (by decide +kernel) rfl (Nat.le_of_ble_eq_true rfl) ?_
  intro X hR _
  first | refine mg_aload_n d_Mo_check_0 rfl rfl ?_ | refine mg_aload_nN d_Mo_check_0 rfl rfl ?_
  refine mg_iconst (v := 0) d_Mo_check_1 (by decide) ?_
  refine mg_putfield (fw_Mo_80 _) d_Mo_check_2 (by first | assumption | exact mg_up_s _ _ _ | (rw [mg_up_n _ _ (by decide)]; first | assumption | exact mg_up_s _ _ _ | (rw [mg_up_n _ _ (by decide)]; first | assumption | exact mg_up_s _ _ _ | (rw [mg_up_n _ _ (by decide)]; first | assumption | exact mg_up_s _ _ _ | (rw [mg_up_n _ _ (by decide)]; first | assumption | exact mg_up_s _ _ _ | (rw [mg_up_n _ _ (by decide)]; first | assumption | exact mg_up_s _ _ _ | (rw [mg_up_n _ _ (by decide)]; first | assumption | exact mg_up_s _ _ _))))))) (Nat.le_of_ble_eq_true rfl) (fun _ => ⟨rfl, rfl⟩) ?_
  refine mg_eqM (M' := c0M M si x s) rfl ?_
  have hO1 : (c0M M si x s) 1000 = some (moE (upd si 0 0) x s) := mg_up_s _ _ _
  have hT1 : (c0M M si x s) 1021 = some (iaE 60 tf) := (mg_up_n _ _ (by decide)).trans e2
  have hF1 : (c0M M si x s) 1016 = some (iaE 60 ff) := (mg_up_n _ _ (by decide)).trans b2
  have hP1 : (c0M M si x s) 1022 = some (iaE 60 pf) := (mg_up_n _ _ (by decide)).trans f2
  first | refine mg_aload_n d_Mo_check_5 rfl rfl ?_ | refine mg_aload_nN d_Mo_check_5 rfl rfl ?_
  refine mg_iload_n d_Mo_check_6 rfl rfl ?_
  refine mg_callV (vl_Mo_90 rfl) d_Mo_check_7 (by first | assumption | exact mg_up_s _ _ _ | (rw [mg_up_n _ _ (by decide)]; first | assumption | exact mg_up_s _ _ _ | (rw [mg_up_n _ _ (by decide)]; first | assumption | exact mg_up_s _ _ _ | (rw [mg_up_n _ _ (by decide)]; first | assumption | exact mg_up_s _ _ _ | (rw [mg_up_n _ _ (by decide)]; first | assumption | exact mg_up_s _ _ _ | (rw [mg_up_n _ _ (by decide)]; first | assumption | exact mg_up_s _ _ _ | (rw [mg_up_n _ _ (by decide)]; first | assumption | exact mg_up_s _ _ _))))))) rfl rfl (c_Mo_isGenerator hO1) rfl rfl (by rw [hR]; decide) (by rw [hR]; decide) (Nat.le_of_ble_eq_true rfl) ?_
  rintro v M1 ⟨rfl, rfl⟩
  refine mg_if_eq (tgt := 38) d_Mo_check_10 (by decide) (fun c_10 => ?_) (fun c_10 => ?_)
  · exact absurd (by first | exact c_10 | exact Decidable.not_not.mp c_10) (by rw [show (upd si 0 0) 1 = nI gs.length from a1, ig_t hi hw.1]; decide)
  · refine mg_iload_n d_Mo_check_13 rfl rfl ?_
    refine mg_if_lt (tgt := 38) d_Mo_check_14 (by decide) (fun c_14 => ?_) (fun c_14 => ?_)
    · exact absurd c_14 (nI_pos (by omega))
    · refine mg_iload_n d_Mo_check_17 rfl rfl ?_
      first | refine mg_aload_n d_Mo_check_18 rfl rfl ?_ | refine mg_aload_nN d_Mo_check_18 rfl rfl ?_
      refine mg_getfield fl_Mo_94 d_Mo_check_19 (by first | assumption | exact mg_up_s _ _ _ | (rw [mg_up_n _ _ (by decide)]; first | assumption | exact mg_up_s _ _ _ | (rw [mg_up_n _ _ (by decide)]; first | assumption | exact mg_up_s _ _ _ | (rw [mg_up_n _ _ (by decide)]; first | assumption | exact mg_up_s _ _ _ | (rw [mg_up_n _ _ (by decide)]; first | assumption | exact mg_up_s _ _ _ | (rw [mg_up_n _ _ (by decide)]; first | assumption | exact mg_up_s _ _ _ | (rw [mg_up_n _ _ (by decide)]; first | assumption | exact mg_up_s _ _ _))))))) rfl ?_
      refine mg_icmp_ge (tgt := 38) d_Mo_check_22 (by decide) (fun c_22 => ?_) (fun c_22 => ?_)
      · exact absurd c_22 (by rw [show (upd si 0 0) 2 = nI ps.length from a2]; exact nI_ge hj (by omega))
      · refine mg_iload d_Mo_check_25 rfl ?_
        refine mg_iconst (v := 1) d_Mo_check_27 (by decide) ?_
        refine mg_icmp_lt (tgt := 38) d_Mo_check_28 (by decide) (fun c_28 => ?_) (fun c_28 => ?_)
        · exact absurd ((nI_ltI (b := 1) (by omega) (by decide)).mp c_28) (by omega)
        · refine mg_iload d_Mo_check_31 rfl ?_
          refine mg_bipush (v := 60) d_Mo_check_33 (by decide) ?_
          refine mg_icmp_le (tgt := 41) d_Mo_check_35 (by decide) (fun c_35 => ?_) (fun c_35 => ?_)
          · first | refine mg_aload_n d_Mo_check_41 rfl rfl ?_ | refine mg_aload_nN d_Mo_check_41 rfl rfl ?_
            refine mg_iconst (v := 0) d_Mo_check_42 (by decide) ?_
            refine mg_putfield (fw_Mo_174 _) d_Mo_check_43 (by first | assumption | exact mg_up_s _ _ _ | (rw [mg_up_n _ _ (by decide)]; first | assumption | exact mg_up_s _ _ _ | (rw [mg_up_n _ _ (by decide)]; first | assumption | exact mg_up_s _ _ _ | (rw [mg_up_n _ _ (by decide)]; first | assumption | exact mg_up_s _ _ _ | (rw [mg_up_n _ _ (by decide)]; first | assumption | exact mg_up_s _ _ _ | (rw [mg_up_n _ _ (by decide)]; first | assumption | exact mg_up_s _ _ _ | (rw [mg_up_n _ _ (by decide)]; first | assumption | exact mg_up_s _ _ _))))))) (Nat.le_of_ble_eq_true rfl) (fun _ => ⟨rfl, rfl⟩) ?_
            refine mg_eqM (M' := mg_up (c0M M si x s) 1000 (moE (upd (upd si 0 0) 31 (nI 0)) x s)) rfl ?_
            have hS2 : isMoS (mg_up (c0M M si x s) 1000 (moE (upd (upd si 0 0) 31 (nI 0)) x s)) (upd (upd si 0 0) 31 (nI 0)) gs ps ks 0 fo le row nu pu := isMoS.wa 0 hS.c0
            have hO2 : (mg_up (c0M M si x s) 1000 (moE (upd (upd si 0 0) 31 (nI 0)) x s)) 1000 = some (moE (upd (upd si 0 0) 31 (nI 0)) x s) := mg_up_s _ _ _
            have hWk2 : isWk (mg_up (c0M M si x s) 1000 (moE (upd (upd si 0 0) 31 (nI 0)) x s)) := hWk.eq (fun k _ _ => (mg_up_n _ _ (by omega)).trans (mg_up_n _ _ (by omega)))
            have hI2 : ∃ gv, isA (mg_up (c0M M si x s) 1000 (moE (upd (upd si 0 0) 31 (nI 0)) x s)) 1008 60 gv ∧ (upd (upd si 0 0) 31 (nI 0)) 20 = nI gv.length := by
              obtain ⟨gv, k1, k2⟩ := hI
              exact ⟨gv, k1.eq ((mg_up_n _ _ (by decide)).trans (mg_up_n _ _ (by decide))), k2⟩
            have U2 : sm 1000 1023 M (mg_up (c0M M si x s) 1000 (moE (upd (upd si 0 0) 31 (nI 0)) x s)) := fun k hk => (mg_up_n _ _ (by omega)).trans (mg_up_n _ _ (by omega))
            generalize mg_up (c0M M si x s) 1000 (moE (upd (upd si 0 0) 31 (nI 0)) x s) = M2 at hS2 hO2 hWk2 hI2 U2 ⊢
            generalize upd (upd si 0 0) 31 (nI 0) = si2 at hS2 hO2 hI2
            first | refine mg_aload_n d_Mo_check_46 rfl rfl ?_ | refine mg_aload_nN d_Mo_check_46 rfl rfl ?_
            refine mg_iload_n d_Mo_check_47 rfl rfl ?_
            refine mg_iload_n d_Mo_check_48 rfl rfl ?_
            refine mg_callV (vl_Mo_177 rfl) d_Mo_check_49 (by first | assumption | exact mg_up_s _ _ _ | (rw [mg_up_n _ _ (by decide)]; first | assumption | exact mg_up_s _ _ _ | (rw [mg_up_n _ _ (by decide)]; first | assumption | exact mg_up_s _ _ _ | (rw [mg_up_n _ _ (by decide)]; first | assumption | exact mg_up_s _ _ _ | (rw [mg_up_n _ _ (by decide)]; first | assumption | exact mg_up_s _ _ _ | (rw [mg_up_n _ _ (by decide)]; first | assumption | exact mg_up_s _ _ _ | (rw [mg_up_n _ _ (by decide)]; first | assumption | exact mg_up_s _ _ _))))))) rfl rfl (c_Mo_findKept hO2 hS2 hWk2 hI2 hw hg hpl hp hkl hkn) rfl rfl (by rw [hR]; decide) (by rw [hR]; decide) (Nat.le_of_ble_eq_true rfl) ?_
            rintro v M3 hv
            unfold chkS
            cases hf : findKC gs p i (nI i) (nI j) ks ks.length with
            | some rr =>
              obtain ⟨v0, rw0, ns⟩ := rr
              rw [hf] at hv
              obtain ⟨rfl, ⟨si3, x3, hO3, hS3, hWk3, hI3⟩, hs3⟩ := hv
              refine mg_if_eq (tgt := 62) d_Mo_check_52 (by decide) (fun e => absurd e (by decide)) (fun _ => ?_)
              refine mg_aload_n d_Mo_check_55 rfl rfl ?_
              refine mg_iconst (v := 0) d_Mo_check_56 (by decide) ?_
              refine mg_putfield (fw_Mo_181 _) d_Mo_check_57 (by first | assumption | exact mg_up_s _ _ _ | (rw [mg_up_n _ _ (by decide)]; first | assumption | exact mg_up_s _ _ _ | (rw [mg_up_n _ _ (by decide)]; first | assumption | exact mg_up_s _ _ _ | (rw [mg_up_n _ _ (by decide)]; first | assumption | exact mg_up_s _ _ _ | (rw [mg_up_n _ _ (by decide)]; first | assumption | exact mg_up_s _ _ _ | (rw [mg_up_n _ _ (by decide)]; first | assumption | exact mg_up_s _ _ _ | (rw [mg_up_n _ _ (by decide)]; first | assumption | exact mg_up_s _ _ _))))))) (Nat.le_of_ble_eq_true rfl) (fun _ => ⟨rfl, rfl⟩) ?_
              refine mg_eqM (M' := mg_up M3 1000 (moE (upd si3 37 (bI false)) x3 s)) rfl ?_
              refine mg_iconst (v := -1) d_Mo_check_60 (by decide) ?_
              refine mg_ireturn d_Mo_check_61 rfl rfl (Nat.le_of_ble_eq_true rfl) (Nat.le_of_ble_eq_true rfl) ⟨rfl, ⟨_, _, mg_up_s _ _ _, hS3.le false, hWk3.eq (fun k _ _ => mg_up_n _ _ (by omega)), ?_⟩, (U2.tr hs3).up (by decide) (by decide)⟩
              obtain ⟨gv8, k1, k2⟩ := hI3
              exact ⟨gv8, k1.eq (mg_up_n _ _ (by decide)), k2⟩
            | none =>
              rw [hf] at hv
              obtain ⟨rfl, ⟨si3, x3, hO3, hS3, hWk3, hI3⟩, hs3⟩ := hv
              refine mg_if_eq (tgt := 62) d_Mo_check_52 (by decide) (fun _ => ?_) (fun e => absurd rfl e)
              refine mg_aload_n d_Mo_check_62 rfl rfl ?_
              refine mg_lload_n d_Mo_check_63 rfl rfl ?_
              refine mg_putfield (fw_Mo_100 _) d_Mo_check_64 (by first | assumption | exact mg_up_s _ _ _ | (rw [mg_up_n _ _ (by decide)]; first | assumption | exact mg_up_s _ _ _ | (rw [mg_up_n _ _ (by decide)]; first | assumption | exact mg_up_s _ _ _ | (rw [mg_up_n _ _ (by decide)]; first | assumption | exact mg_up_s _ _ _ | (rw [mg_up_n _ _ (by decide)]; first | assumption | exact mg_up_s _ _ _ | (rw [mg_up_n _ _ (by decide)]; first | assumption | exact mg_up_s _ _ _ | (rw [mg_up_n _ _ (by decide)]; first | assumption | exact mg_up_s _ _ _))))))) (Nat.le_of_ble_eq_true rfl) (fun _ => ⟨rfl, rfl⟩) ?_
              refine mg_eqM (M' := mg_up M3 1000 (moE si3 sd s)) rfl ?_
              refine mg_aload_n d_Mo_check_67 rfl rfl ?_
              refine mg_iconst (v := 0) d_Mo_check_68 (by decide) ?_
              refine mg_putfield (fw_Mo_118 _) d_Mo_check_69 (by first | assumption | exact mg_up_s _ _ _ | (rw [mg_up_n _ _ (by decide)]; first | assumption | exact mg_up_s _ _ _ | (rw [mg_up_n _ _ (by decide)]; first | assumption | exact mg_up_s _ _ _ | (rw [mg_up_n _ _ (by decide)]; first | assumption | exact mg_up_s _ _ _ | (rw [mg_up_n _ _ (by decide)]; first | assumption | exact mg_up_s _ _ _ | (rw [mg_up_n _ _ (by decide)]; first | assumption | exact mg_up_s _ _ _ | (rw [mg_up_n _ _ (by decide)]; first | assumption | exact mg_up_s _ _ _))))))) (Nat.le_of_ble_eq_true rfl) (fun _ => ⟨rfl, rfl⟩) ?_
              refine mg_eqM (M' := mg_up (mg_up M3 1000 (moE si3 sd s)) 1000 (moE (upd si3 13 0) sd s)) rfl ?_
              refine mg_iconst (v := 0) d_Mo_check_72 (by decide) ?_
              refine mg_istore d_Mo_check_73 (Nat.le_of_ble_eq_true rfl) rfl ?_
              have U4 : ∀ k, k ≠ 1000 → (mg_up (mg_up M3 1000 (moE si3 sd s)) 1000 (moE (upd si3 13 0) sd s)) k = M3 k := fun k hk => (mg_up_n _ _ hk).trans (mg_up_n _ _ hk)
              refine mg_pst (P := ckQ M gs ps ks fo le row nu pu s i j (seedC gs p i runs 121 0 0 0 sd)) ?_ ?_
              · dsimp only
                obtain ⟨rr, cc, ww⟩ := seedC gs p i runs 121 0 0 0 sd
                cases rr with
                | none => rfl
                | some rr => obtain ⟨v0, rw0, ns⟩ := rr; rfl
              refine lp_Mo_check hR hw hg hpl hp hr2 (hk200 hf) 121 0 0 0 _ (upd si3 13 0) sd none (by omega) (by omega) (by omega) (by omega) (mg_up_s _ _ _) (hS3.fr (fun k hk => pk_un (by omega)) (fun k hk => U4 k (by omega))) (hWk3.eq (fun k _ _ => U4 k (by omega))) ?_ pk_us (fun k hk => (U4 k (by omega)).trans ((hs3 k hk).trans (U2 k hk))) (Or.inl rfl) rfl
              obtain ⟨gv8, k1, k2⟩ := hI3
              exact ⟨gv8, k1.eq (U4 _ (by decide)), k2⟩
          · exact absurd (nI_le (b := 60) hr2 (by decide)) c_35

