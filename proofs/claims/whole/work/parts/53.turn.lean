/-! THE REFERENCE's turn -/
theorem tF_0 {gs : List gN} {md : dM} {σ : dS} {g a dp : Nat} {s c p q : Int32} {r : List fR} (hG : gs[g]? = some (0, p, q, dp)) : turnF gs md σ ((g, s, c, a) :: r) = (numF (drawF md σ (q - p) (spanF md.2.2 (q - p))).2 (p + (drawF md σ (q - p) (spanF md.2.2 (q - p))).1), r) := by simp only [turnF, hG]
theorem tF_1 {gs : List gN} {md : dM} {σ : dS} {g a dp : Nat} {s c p q : Int32} {r : List fR} (hG : gs[g]? = some (1, p, q, dp)) : turnF gs md σ ((g, s, c, a) :: r) = if c = q then (σ, r) else if (drawF md σ 1 2).1 = 0 then ((drawF md σ 1 2).2, r) else ((drawF md σ 1 2).2, nwF p.toNatClampNeg (drawF md σ 1 2).2 :: (g, s + 1, c + 1, a) :: r) := by simp only [turnF, hG]
theorem tF_2 {gs : List gN} {md : dM} {σ : dS} {g a dp : Nat} {s c p q : Int32} {r : List fR} (hG : gs[g]? = some (2, p, q, dp)) : turnF gs md σ ((g, s, c, a) :: r) = if s + 1 < 3 then (σ, nwF (if s + 1 = 1 then p else q).toNatClampNeg σ :: (g, s + 1, c, a) :: r) else (σ, r) := by simp only [turnF, hG]
theorem tF_3 {gs : List gN} {md : dM} {σ : dS} {g a dp : Nat} {s c p q : Int32} {r : List fR} (hG : gs[g]? = some (3, p, q, dp)) : turnF gs md σ ((g, s, c, a) :: r) = if s + 1 = 1 then ((drawF md σ 1 2).2, nwF (if (drawF md σ 1 2).1 = 0 then p else q).toNatClampNeg (drawF md σ 1 2).2 :: (g, s + 1, c, a) :: r) else (σ, r) := by simp only [turnF, hG]
theorem tF_4 {gs : List gN} {md : dM} {σ : dS} {g a dp : Nat} {s c p q : Int32} {r : List fR} (hG : gs[g]? = some (4, p, q, dp)) : turnF gs md σ ((g, s, c, a) :: r) = if 1 < s + 1 ∧ sumI 0 (σ.2.1.drop a) &&& 1 = q then (σ, r) else if s + 1 = 4 then (illF (cutF σ a), (g, s + 1, c, a) :: r) else (cutF σ a, nwF p.toNatClampNeg (cutF σ a) :: (g, s + 1, c, a) :: r) := by simp only [turnF, hG]
theorem tF_5 {gs : List gN} {md : dM} {σ : dS} {g a dp : Nat} {s c p q : Int32} {r : List fR} (hG : gs[g]? = some (5, p, q, dp)) : turnF gs md σ ((g, s, c, a) :: r) = if s + 1 = 1 then (σ, nwF p.toNatClampNeg σ :: (g, s + 1, c, a) :: r) else (if s + 1 = 2 then raiseF σ a q else σ, r) := by simp only [turnF, hG]
theorem numF_60 {σ : dS} {n : Int32} (h : ¬ σ.2.1.length < 60) : numF σ n = illF σ := by
  obtain ⟨cs, ns, il, x, lm⟩ := σ
  unfold numF illF
  cases il
  · rw [if_neg (show ¬ (false = true) by decide), if_neg h]
  · rw [if_pos rfl]
theorem numF_ill {σ : dS} {n : Int32} (h : σ.2.2.1 = true) : numF σ n = σ := by unfold numF; rw [if_pos h]
theorem numF_ok {σ : dS} {n : Int32} (h : σ.2.2.1 = false) (hl : σ.2.1.length < 60) : numF σ n = (σ.1, σ.2.1 ++ [n], false, σ.2.2.2) := by unfold numF; rw [if_neg (by rw [h]; decide), if_pos hl]
theorem span_ok {z p q : Int32} (h1 : ¬ z < 0) (h2 : z < 1000) (h3 : -1000 ≤ p.toInt ∧ p.toInt ≤ q.toInt ∧ q.toInt ≤ 1000) : ¬ spanF z (q - p) < 1 := by
  have e : (q - p).toInt = q.toInt - p.toInt := by
    rw [Int32.toInt_sub]; exact Int.bmod_eq_of_le (by omega) (by omega)
  rw [Int32.lt_iff_toInt_lt] at h1 h2
  have k0 : (0 : Int32).toInt = 0 := by decide
  have k1 : (1 : Int32).toInt = 1 := by decide
  have k2 : (2 : Int32).toInt = 2 := by decide
  have k3 : (1000 : Int32).toInt = 1000 := by decide
  rw [k0] at h1; rw [k3] at h2
  unfold spanF
  split
  · rw [Int32.lt_iff_toInt_lt, Int32.toInt_add, k1, e, Int.bmod_eq_of_le (by omega) (by omega)]; omega
  · rw [Int32.lt_iff_toInt_lt, Int32.toInt_add, k1, k2, Int.bmod_eq_of_le (by omega) (by omega)]; omega
theorem isMR.num {M : mg_M} {si : Nat → Int32} {s : Int64} {md : dM} {σ : dS} {fr : List fR} {nf : Nat → Int32} {n v : Int32} (h : isMR M si s md σ fr) (hil : σ.2.2.1 = false) (hl : σ.2.1.length < 60) (hn : M 1011 = some (iaE 60 nf)) (hv : v = nI (σ.2.1.length + 1)) : isMR (mg_up (mg_up M 1011 (iaE 60 (upd nf σ.2.1.length n))) 1000 (moE (upd si 12 v) σ.2.2.2.1 s)) (upd si 12 v) s md (numF σ n) fr := by
  rw [numF_ok hil hl]
  subst hv
  obtain ⟨⟨a1, a2, a3, a4, a5, a6, a7, a8, a9, a10, a11, nf', n1, n2, n3⟩, hh, pi, sg, co, sa, ⟨q1, q2, q3, q4⟩, hk⟩ := h
  have e : nf' = nf := by rw [hn] at n1; exact (Sum.inl.inj (Prod.mk.inj (Prod.mk.inj (Sum.inl.inj (Option.some.inj n1))).2).2).symm
  subst e
  have U : ∀ k, k ≠ 1000 → k ≠ 1011 → (mg_up (mg_up M 1011 (iaE 60 (upd nf' σ.2.1.length n))) 1000 (moE (upd si 12 (nI (σ.2.1.length + 1))) σ.2.2.2.1 s)) k = M k := fun k h1 h2 => (mg_up_n _ _ h1).trans (mg_up_n _ _ h2)
  refine ⟨⟨mg_up_s _ _ _, a2, a3, ?_, a5, rfl, ?_, a8, a9.eq (U _ (by decide) (by decide)), a10.eq (U _ (by decide) (by decide)), (U _ (by decide) (by decide)).trans a11, isA_push n3 hl ((mg_up_n _ _ (by decide)).trans (mg_up_s _ _ _))⟩, hh, pi, sg, co, sa, ⟨(U _ (by decide) (by decide)).trans q1, (U _ (by decide) (by decide)).trans q2, (U _ (by decide) (by decide)).trans q3, (U _ (by decide) (by decide)).trans q4⟩, hk⟩
  · show upd si 12 (nI (σ.2.1.length + 1)) 12 = nI (σ.2.1 ++ [n]).length
    rw [pk_us, List.length_append]; rfl
  · rw [hil] at a7; exact a7
theorem isMR.set {M : mg_M} {si : Nat → Int32} {s : Int64} {md : dM} {cs zs : List Int32} {τ : Bool × Int64 × (Nat → Int32)} {fr : List fR} {nf : Nat → Int32} {i : Nat} {v : Int32} (h : isMR M si s md (cs, zs, τ) fr) (hi : i < zs.length) (hn : M 1011 = some (iaE 60 nf)) : isMR (mg_up M 1011 (iaE 60 (upd nf i v))) si s md (cs, zs.set i v, τ) fr := by
  obtain ⟨⟨a1, a2, a3, a4, a5, a6, a7, a8, a9, a10, a11, nf', n1, n2, n3⟩, hh, pi, sg, co, sa, ⟨q1, q2, q3, q4⟩, hk⟩ := h
  have e : nf' = nf := by rw [hn] at n1; exact (Sum.inl.inj (Prod.mk.inj (Prod.mk.inj (Sum.inl.inj (Option.some.inj n1))).2).2).symm
  subst e
  have U : ∀ k, k ≠ 1011 → (mg_up M 1011 (iaE 60 (upd nf' i v))) k = M k := fun k h2 => mg_up_n _ _ h2
  refine ⟨⟨(U _ (by decide)).trans a1, a2, a3, ?_, a5, a6, a7, a8, a9.eq (U _ (by decide)), a10.eq (U _ (by decide)), (U _ (by decide)).trans a11, _, mg_up_s _ _ _, ?_, ?_⟩, hh, pi, sg, co, sa, ⟨(U _ (by decide)).trans q1, (U _ (by decide)).trans q2, (U _ (by decide)).trans q3, (U _ (by decide)).trans q4⟩, hk⟩
  · show si 12 = nI (zs.set i v).length
    rw [List.length_set]; exact a4
  · show (zs.set i v).length ≤ 60
    rw [List.length_set]; exact n2
  · intro j hj
    have hj2 : j < (zs.set i v).length := hj
    rw [List.length_set] at hj2
    show upd nf' i v j = (zs.set i v).getD j 0
    by_cases e : j = i
    · subst e; rw [pk_us, List.getD_eq_getElem?_getD, List.getElem?_set_self hi]; rfl
    · rw [pk_un e, List.getD_eq_getElem?_getD, List.getElem?_set_ne (fun h => e h.symm), ← List.getD_eq_getElem?_getD]; exact n3 j hj2

set_option maxHeartbeats 4000000 in
set_option maxRecDepth 100000 in
theorem tu_1a {X : mg_X} {M0 M : mg_M} {si0 si : Nat → Int32} {s : Int64} {md : dM} {σ : dS} {g a : Nat} {s1 c p q : Int32} {r : List fR} (h : isMR M si s md σ ((g, s1, c, a) :: r)) (hl : r.length < 19) (hsi : siR si0 si) (hs : smR M0 M) : mg_G X Y_Mo_turn (mg_Q X (tuP M0 si0 s md (σ, r)) { frames := 2, cells := 0, slots := 0, locals := 46 }) M 0 0 156 [some (.ref 1000), some (.int (nI r.length)), some (.int (nI g)), some (.int p), some (.int q), none] [.ref 1000] := by
  obtain ⟨o1, -, -, -, -, -, -, -, -, -, -, -⟩ := id h.1
  obtain ⟨-, hh, pi, sg, co, sa, ⟨q1, q2, q3, q4⟩, t1, t2, t3, t4, t5⟩ := id h
  have hin : vp_in (nI r.length) 20 := vp_in_nI (by omega) (by decide)
  refine mg_iload_n d_Mo_turn_156 rfl rfl ?_
  refine mg_goto (tgt := 164) d_Mo_turn_157 (by decide) ?_
  refine mg_putfield (fw_Mo_121 _) d_Mo_turn_164 (by first | assumption | exact mg_up_s _ _ _ | (rw [mg_up_n _ _ (by decide)]; first | assumption | exact mg_up_s _ _ _ | (rw [mg_up_n _ _ (by decide)]; first | assumption | exact mg_up_s _ _ _ | (rw [mg_up_n _ _ (by decide)]; first | assumption | exact mg_up_s _ _ _ | (rw [mg_up_n _ _ (by decide)]; first | assumption | exact mg_up_s _ _ _ | (rw [mg_up_n _ _ (by decide)]; first | assumption | exact mg_up_s _ _ _ | (rw [mg_up_n _ _ (by decide)]; first | assumption | exact mg_up_s _ _ _))))))) (Nat.le_of_ble_eq_true rfl) (fun _ => ⟨rfl, rfl⟩) ?_
  refine mg_eqM (M' := mg_up M 1000 (moE (upd si 25 (nI r.length)) σ.2.2.2.1 s)) rfl ?_
  have h2 := h.pop
  first | refine mg_aload_n d_Mo_turn_167 rfl rfl ?_ | refine mg_aload_nN d_Mo_turn_167 rfl rfl ?_
  refine mg_getfield fl_Mo_49 d_Mo_turn_168 (by first | assumption | exact mg_up_s _ _ _ | (rw [mg_up_n _ _ (by decide)]; first | assumption | exact mg_up_s _ _ _ | (rw [mg_up_n _ _ (by decide)]; first | assumption | exact mg_up_s _ _ _ | (rw [mg_up_n _ _ (by decide)]; first | assumption | exact mg_up_s _ _ _ | (rw [mg_up_n _ _ (by decide)]; first | assumption | exact mg_up_s _ _ _ | (rw [mg_up_n _ _ (by decide)]; first | assumption | exact mg_up_s _ _ _ | (rw [mg_up_n _ _ (by decide)]; first | assumption | exact mg_up_s _ _ _))))))) rfl ?_
  refine mg_iload_n d_Mo_turn_171 rfl rfl ?_
  refine mg_dup2 d_Mo_turn_172 rfl rfl ?_
  refine mg_iaload rfl d_Mo_turn_173 (by first | assumption | exact mg_up_s _ _ _ | (rw [mg_up_n _ _ (by decide)]; first | assumption | exact mg_up_s _ _ _ | (rw [mg_up_n _ _ (by decide)]; first | assumption | exact mg_up_s _ _ _ | (rw [mg_up_n _ _ (by decide)]; first | assumption | exact mg_up_s _ _ _ | (rw [mg_up_n _ _ (by decide)]; first | assumption | exact mg_up_s _ _ _ | (rw [mg_up_n _ _ (by decide)]; first | assumption | exact mg_up_s _ _ _ | (rw [mg_up_n _ _ (by decide)]; first | assumption | exact mg_up_s _ _ _))))))) (by assumption) ?_
  refine mg_eqi (y := c) (by rw [nI_clamp (by omega)]; exact t3) ?_
  refine mg_iconst (v := 1) d_Mo_turn_174 (by decide) ?_
  refine mg_iadd d_Mo_turn_175 ?_
  refine mg_iastore rfl d_Mo_turn_176 (by first | assumption | exact mg_up_s _ _ _ | (rw [mg_up_n _ _ (by decide)]; first | assumption | exact mg_up_s _ _ _ | (rw [mg_up_n _ _ (by decide)]; first | assumption | exact mg_up_s _ _ _ | (rw [mg_up_n _ _ (by decide)]; first | assumption | exact mg_up_s _ _ _ | (rw [mg_up_n _ _ (by decide)]; first | assumption | exact mg_up_s _ _ _ | (rw [mg_up_n _ _ (by decide)]; first | assumption | exact mg_up_s _ _ _ | (rw [mg_up_n _ _ (by decide)]; first | assumption | exact mg_up_s _ _ _))))))) hin ?_
  refine mg_eqM (M' := mg_up (mg_up M 1000 (moE (upd si 25 (nI r.length)) σ.2.2.2.1 s)) 1014 (iaE 20 (upd co r.length (c + 1)))) (by rw [nI_clamp (by omega)]) ?_
  have h3 := h2.co0 (v := c + 1) (f := co) ((mg_up_n _ _ (by decide)).trans q3)
  first | refine mg_aload_n d_Mo_turn_177 rfl rfl ?_ | refine mg_aload_nN d_Mo_turn_177 rfl rfl ?_
  refine mg_getfield fl_Mo_121 d_Mo_turn_178 (by first | assumption | exact mg_up_s _ _ _ | (rw [mg_up_n _ _ (by decide)]; first | assumption | exact mg_up_s _ _ _ | (rw [mg_up_n _ _ (by decide)]; first | assumption | exact mg_up_s _ _ _ | (rw [mg_up_n _ _ (by decide)]; first | assumption | exact mg_up_s _ _ _ | (rw [mg_up_n _ _ (by decide)]; first | assumption | exact mg_up_s _ _ _ | (rw [mg_up_n _ _ (by decide)]; first | assumption | exact mg_up_s _ _ _ | (rw [mg_up_n _ _ (by decide)]; first | assumption | exact mg_up_s _ _ _))))))) rfl ?_
  refine mg_iload_n d_Mo_turn_181 rfl rfl ?_
  refine mg_icmp_le (tgt := 368) d_Mo_turn_182 (by decide) (fun c_182 => ?_) (fun c_182 => ?_)
  · exact mg_return d_Mo_turn_368 rfl (Nat.le_of_ble_eq_true rfl) (Nat.le_of_ble_eq_true rfl) ⟨rfl, _, h3, hsi.up (by decide), (hs.up (by decide)).up (by decide)⟩
  · exact absurd (show nI r.length ≤ nI r.length from Int32.le_refl _) c_182

set_option maxHeartbeats 4000000 in
set_option maxRecDepth 100000 in
theorem lp_Mo_add {X : mg_X} {M0 : mg_M} {si : Nat → Int32} {s : Int64} {md : dM} {cs R : List Int32} {τ : Bool × Int64 × (Nat → Int32)} {fr r : List fR} {g g0 a0 : Nat} {c0 p q : Int32} {Q : State → Prop} (hfr : fr = (g0, 2, c0, a0) :: r) (hl : r.length < 19) (kk : ∀ (M : mg_M), isMR M si s md (cs, R, τ) fr → smR M0 M → mg_G X Y_Mo_turn Q M 0 0 340 [some (.ref 1000), some (.int (nI r.length)), some (.int (nI g)), some (.int p), some (.int q), some (.int (nI R.length))] []) : ∀ n : Nat, ∀ (i : Nat) (M : mg_M) (zs : List Int32), zs.length - i < n → i ≤ zs.length → isMR M si s md (cs, zs, τ) fr → smR M0 M → raiseL zs i q = R → mg_G X Y_Mo_turn Q M 0 0 303 [some (.ref 1000), some (.int (nI r.length)), some (.int (nI g)), some (.int p), some (.int q), some (.int (nI i))] [] := by
  intro n
  induction n with
  | zero =>
    intro i M zs hn hi h hs hr
    exact absurd hn (by omega)
  | succ n ih =>
    intro i M zs hn hi h hs hr
    subst hfr
    obtain ⟨o1, o2, o3, o4, o5, o6, o7, o8, o9, o10, o11, ⟨nf, n1, n2, n3⟩⟩ := id h.1
    obtain ⟨-, hh, pi, sg, co, sa, ⟨q1, q2, q3, q4⟩, t1, t2, t3, t4, t5⟩ := id h
    replace o4 : si 12 = nI zs.length := o4
    replace n2 : zs.length ≤ 60 := n2
    replace n3 : ∀ j, j < zs.length → nf j = zs.getD j 0 := n3
    refine mg_iload d_Mo_turn_303 rfl ?_
    first | refine mg_aload_n d_Mo_turn_305 rfl rfl ?_ | refine mg_aload_nN d_Mo_turn_305 rfl rfl ?_
    refine mg_getfield fl_Mo_124 d_Mo_turn_306 (by first | assumption | exact mg_up_s _ _ _ | (rw [mg_up_n _ _ (by decide)]; first | assumption | exact mg_up_s _ _ _ | (rw [mg_up_n _ _ (by decide)]; first | assumption | exact mg_up_s _ _ _ | (rw [mg_up_n _ _ (by decide)]; first | assumption | exact mg_up_s _ _ _ | (rw [mg_up_n _ _ (by decide)]; first | assumption | exact mg_up_s _ _ _ | (rw [mg_up_n _ _ (by decide)]; first | assumption | exact mg_up_s _ _ _ | (rw [mg_up_n _ _ (by decide)]; first | assumption | exact mg_up_s _ _ _))))))) rfl ?_
    refine mg_icmp_ge (tgt := 340) d_Mo_turn_309 (by decide) (fun c_309 => ?_) (fun c_309 => ?_)
    · have e : i = zs.length := by
        rw [o4] at c_309
        have := (nI_leI (by omega) (by omega)).mp c_309
        omega
      subst e
      rw [raiseL_end (Nat.le_refl _)] at hr
      subst hr
      exact kk M h hs
    · have hi2 : i < zs.length := by
        rw [o4] at c_309
        exact Nat.lt_of_not_le (fun q => c_309 (nI_le q (by omega)))
      have hin : vp_in (nI i) 60 := nIw hi2 n2
      have hin2 : vp_in (nI r.length) 20 := vp_in_nI (by omega) (by decide)
      first | refine mg_aload_n d_Mo_turn_312 rfl rfl ?_ | refine mg_aload_nN d_Mo_turn_312 rfl rfl ?_
      refine mg_getfield fl_Mo_46 d_Mo_turn_313 (by first | assumption | exact mg_up_s _ _ _ | (rw [mg_up_n _ _ (by decide)]; first | assumption | exact mg_up_s _ _ _ | (rw [mg_up_n _ _ (by decide)]; first | assumption | exact mg_up_s _ _ _ | (rw [mg_up_n _ _ (by decide)]; first | assumption | exact mg_up_s _ _ _ | (rw [mg_up_n _ _ (by decide)]; first | assumption | exact mg_up_s _ _ _ | (rw [mg_up_n _ _ (by decide)]; first | assumption | exact mg_up_s _ _ _ | (rw [mg_up_n _ _ (by decide)]; first | assumption | exact mg_up_s _ _ _))))))) rfl ?_
      refine mg_iload_n d_Mo_turn_316 rfl rfl ?_
      refine mg_iaload rfl d_Mo_turn_317 (by first | assumption | exact mg_up_s _ _ _ | (rw [mg_up_n _ _ (by decide)]; first | assumption | exact mg_up_s _ _ _ | (rw [mg_up_n _ _ (by decide)]; first | assumption | exact mg_up_s _ _ _ | (rw [mg_up_n _ _ (by decide)]; first | assumption | exact mg_up_s _ _ _ | (rw [mg_up_n _ _ (by decide)]; first | assumption | exact mg_up_s _ _ _ | (rw [mg_up_n _ _ (by decide)]; first | assumption | exact mg_up_s _ _ _ | (rw [mg_up_n _ _ (by decide)]; first | assumption | exact mg_up_s _ _ _))))))) (by assumption) ?_
      refine mg_eqi (y := 2) (by rw [nI_clamp (by omega)]; exact t2) ?_
      refine mg_iconst (v := 2) d_Mo_turn_318 (by decide) ?_
      refine mg_icmp_ne (tgt := 340) d_Mo_turn_319 (by decide) (fun c_319 => ?_) (fun c_319 => ?_)
      · exact absurd rfl c_319
      · first | refine mg_aload_n d_Mo_turn_322 rfl rfl ?_ | refine mg_aload_nN d_Mo_turn_322 rfl rfl ?_
        refine mg_getfield fl_Mo_40 d_Mo_turn_323 (by first | assumption | exact mg_up_s _ _ _ | (rw [mg_up_n _ _ (by decide)]; first | assumption | exact mg_up_s _ _ _ | (rw [mg_up_n _ _ (by decide)]; first | assumption | exact mg_up_s _ _ _ | (rw [mg_up_n _ _ (by decide)]; first | assumption | exact mg_up_s _ _ _ | (rw [mg_up_n _ _ (by decide)]; first | assumption | exact mg_up_s _ _ _ | (rw [mg_up_n _ _ (by decide)]; first | assumption | exact mg_up_s _ _ _ | (rw [mg_up_n _ _ (by decide)]; first | assumption | exact mg_up_s _ _ _))))))) rfl ?_
        refine mg_iload d_Mo_turn_326 rfl ?_
        refine mg_dup2 d_Mo_turn_328 rfl rfl ?_
        refine mg_iaload rfl d_Mo_turn_329 (by first | assumption | exact mg_up_s _ _ _ | (rw [mg_up_n _ _ (by decide)]; first | assumption | exact mg_up_s _ _ _ | (rw [mg_up_n _ _ (by decide)]; first | assumption | exact mg_up_s _ _ _ | (rw [mg_up_n _ _ (by decide)]; first | assumption | exact mg_up_s _ _ _ | (rw [mg_up_n _ _ (by decide)]; first | assumption | exact mg_up_s _ _ _ | (rw [mg_up_n _ _ (by decide)]; first | assumption | exact mg_up_s _ _ _ | (rw [mg_up_n _ _ (by decide)]; first | assumption | exact mg_up_s _ _ _))))))) (by assumption) ?_
        refine mg_eqi (y := zs.getD i 0) (by rw [nI_clampN (by omega)]; exact n3 i hi2) ?_
        refine mg_iload d_Mo_turn_330 rfl ?_
        refine mg_iadd d_Mo_turn_332 ?_
        refine mg_iastore rfl d_Mo_turn_333 (by first | assumption | exact mg_up_s _ _ _ | (rw [mg_up_n _ _ (by decide)]; first | assumption | exact mg_up_s _ _ _ | (rw [mg_up_n _ _ (by decide)]; first | assumption | exact mg_up_s _ _ _ | (rw [mg_up_n _ _ (by decide)]; first | assumption | exact mg_up_s _ _ _ | (rw [mg_up_n _ _ (by decide)]; first | assumption | exact mg_up_s _ _ _ | (rw [mg_up_n _ _ (by decide)]; first | assumption | exact mg_up_s _ _ _ | (rw [mg_up_n _ _ (by decide)]; first | assumption | exact mg_up_s _ _ _))))))) hin ?_
        refine mg_eqM (M' := mg_up M 1011 (iaE 60 (upd nf i (zs.getD i 0 + q)))) (by rw [nI_clampN (by omega)]) ?_
        refine mg_iinc (v := nI (i + 1)) d_Mo_turn_334 rfl (nI_1 _) (Nat.le_of_ble_eq_true rfl) rfl ?_
        refine mg_goto (tgt := 303) d_Mo_turn_337 (by decide) ?_
        refine ih (i + 1) _ (zs.set i (zs.getD i 0 + q)) ?_ ?_ (h.set hi2 n1) (hs.up (by decide)) ?_
        · rw [List.length_set]; omega
        · rw [List.length_set]; omega
        · rw [raiseL_step hi2]; exact hr

set_option maxHeartbeats 4000000 in
set_option maxRecDepth 100000 in
theorem tu_5 {X : mg_X} {M0 M : mg_M} {si0 si : Nat → Int32} {s : Int64} {md : dM} {σ : dS} {g a j : Nat} {s1 c q vi : Int32} {r : List fR} {T : dS × List fR} (hl : r.length < 19) (h : isMR M si s md σ ((g, s1, c, a) :: r)) (hsi : siR si0 si) (hs : smR M0 M) (hT1 : s1 = 1 → T = (σ, nwF j σ :: (g, s1, c, a) :: r)) (hT2 : ¬ s1 = 1 → T = (σ, r)) (hR : mg_R X = { frames := 2, cells := 0, slots := 0, locals := 46 }) : mg_G X Y_Mo_turn (mg_Q X (tuP M0 si0 s md T) { frames := 2, cells := 0, slots := 0, locals := 46 }) M 0 0 340 [some (.ref 1000), some (.int (nI r.length)), some (.int (nI g)), some (.int (nI j)), some (.int q), some (.int vi)] [] := by
  obtain ⟨o1, -, -, -, -, -, -, -, -, -, -, -⟩ := id h.1
  obtain ⟨-, hh, pi, sg, co, sa, ⟨q1, q2, q3, q4⟩, t1, t2, t3, t4, t5⟩ := id h
  have hink : vp_in (nI r.length) 20 := vp_in_nI (by omega) (by decide)
  first | refine mg_aload_n d_Mo_turn_340 rfl rfl ?_ | refine mg_aload_nN d_Mo_turn_340 rfl rfl ?_
  refine mg_getfield fl_Mo_46 d_Mo_turn_341 (by first | assumption | exact mg_up_s _ _ _ | (rw [mg_up_n _ _ (by decide)]; first | assumption | exact mg_up_s _ _ _ | (rw [mg_up_n _ _ (by decide)]; first | assumption | exact mg_up_s _ _ _ | (rw [mg_up_n _ _ (by decide)]; first | assumption | exact mg_up_s _ _ _ | (rw [mg_up_n _ _ (by decide)]; first | assumption | exact mg_up_s _ _ _ | (rw [mg_up_n _ _ (by decide)]; first | assumption | exact mg_up_s _ _ _ | (rw [mg_up_n _ _ (by decide)]; first | assumption | exact mg_up_s _ _ _))))))) rfl ?_
  refine mg_iload_n d_Mo_turn_344 rfl rfl ?_
  refine mg_iaload rfl d_Mo_turn_345 (by first | assumption | exact mg_up_s _ _ _ | (rw [mg_up_n _ _ (by decide)]; first | assumption | exact mg_up_s _ _ _ | (rw [mg_up_n _ _ (by decide)]; first | assumption | exact mg_up_s _ _ _ | (rw [mg_up_n _ _ (by decide)]; first | assumption | exact mg_up_s _ _ _ | (rw [mg_up_n _ _ (by decide)]; first | assumption | exact mg_up_s _ _ _ | (rw [mg_up_n _ _ (by decide)]; first | assumption | exact mg_up_s _ _ _ | (rw [mg_up_n _ _ (by decide)]; first | assumption | exact mg_up_s _ _ _))))))) hink ?_
  refine mg_eqi (y := s1) (by rw [nI_clamp (by omega)]; exact t2) ?_
  refine mg_iconst (v := 1) d_Mo_turn_346 (by decide) ?_
  refine mg_icmp_ne (tgt := 358) d_Mo_turn_347 (by decide) (fun c_347 => ?_) (fun c_347 => ?_)
  · first | refine mg_aload_n d_Mo_turn_358 rfl rfl ?_ | refine mg_aload_nN d_Mo_turn_358 rfl rfl ?_
    refine mg_dup d_Mo_turn_359 rfl ?_
    refine mg_getfield fl_Mo_121 d_Mo_turn_360 (by first | assumption | exact mg_up_s _ _ _ | (rw [mg_up_n _ _ (by decide)]; first | assumption | exact mg_up_s _ _ _ | (rw [mg_up_n _ _ (by decide)]; first | assumption | exact mg_up_s _ _ _ | (rw [mg_up_n _ _ (by decide)]; first | assumption | exact mg_up_s _ _ _ | (rw [mg_up_n _ _ (by decide)]; first | assumption | exact mg_up_s _ _ _ | (rw [mg_up_n _ _ (by decide)]; first | assumption | exact mg_up_s _ _ _ | (rw [mg_up_n _ _ (by decide)]; first | assumption | exact mg_up_s _ _ _))))))) rfl ?_
    refine mg_iconst (v := 1) d_Mo_turn_363 (by decide) ?_
    refine mg_isub d_Mo_turn_364 ?_
    refine mg_putfield (fw_Mo_121 _) d_Mo_turn_365 (by first | assumption | exact mg_up_s _ _ _ | (rw [mg_up_n _ _ (by decide)]; first | assumption | exact mg_up_s _ _ _ | (rw [mg_up_n _ _ (by decide)]; first | assumption | exact mg_up_s _ _ _ | (rw [mg_up_n _ _ (by decide)]; first | assumption | exact mg_up_s _ _ _ | (rw [mg_up_n _ _ (by decide)]; first | assumption | exact mg_up_s _ _ _ | (rw [mg_up_n _ _ (by decide)]; first | assumption | exact mg_up_s _ _ _ | (rw [mg_up_n _ _ (by decide)]; first | assumption | exact mg_up_s _ _ _))))))) (Nat.le_of_ble_eq_true rfl) (fun _ => ⟨rfl, rfl⟩) ?_
    refine mg_eqM (M' := mg_up M 1000 (moE (upd si 25 (nI r.length)) σ.2.2.2.1 s)) (by rw [show si 25 = nI (r.length + 1) from h.2.1, nI_pred]; rfl) ?_
    rw [hT2 c_347]
    exact mg_return d_Mo_turn_368 rfl (Nat.le_of_ble_eq_true rfl) (Nat.le_of_ble_eq_true rfl) ⟨rfl, _, h.pop, hsi.up (by decide), hs.up (by decide)⟩
  · first | refine mg_aload_n d_Mo_turn_350 rfl rfl ?_ | refine mg_aload_nN d_Mo_turn_350 rfl rfl ?_
    refine mg_iload_n d_Mo_turn_351 rfl rfl ?_
    refine mg_callV (vl_Mo_127 rfl) d_Mo_turn_352 (by first | assumption | exact mg_up_s _ _ _ | (rw [mg_up_n _ _ (by decide)]; first | assumption | exact mg_up_s _ _ _ | (rw [mg_up_n _ _ (by decide)]; first | assumption | exact mg_up_s _ _ _ | (rw [mg_up_n _ _ (by decide)]; first | assumption | exact mg_up_s _ _ _ | (rw [mg_up_n _ _ (by decide)]; first | assumption | exact mg_up_s _ _ _ | (rw [mg_up_n _ _ (by decide)]; first | assumption | exact mg_up_s _ _ _ | (rw [mg_up_n _ _ (by decide)]; first | assumption | exact mg_up_s _ _ _))))))) rfl rfl (c_Mo_push2 (g := j) h (show r.length + 1 < 20 by omega)) rfl rfl (by rw [hR]; decide) (by rw [hR]; decide) (Nat.le_of_ble_eq_true rfl) ?_
    rintro v M5 ⟨rfl, si5, h5, hs5, hm5⟩
    refine mg_goto (tgt := 368) d_Mo_turn_355 (by decide) ?_
    rw [hT1 (by first | exact c_347 | exact Decidable.not_not.mp c_347)]
    exact mg_return d_Mo_turn_368 rfl (Nat.le_of_ble_eq_true rfl) (Nat.le_of_ble_eq_true rfl) ⟨rfl, si5, h5, hsi.tr hs5, hs.tr hm5⟩

set_option maxHeartbeats 4000000 in
set_option maxRecDepth 100000 in
theorem tu_5s {X : mg_X} {M : mg_M} {si : Nat → Int32} {s : Int64} {md : dM} {σ : dS} {g a : Nat} {s1 c p q vi : Int32} {r : List fR} {Q : State → Prop} (h : isMR M si s md σ ((g, s1, c, a) :: r)) (hl : r.length < 19) (hne : ¬ s1 = 2) (kk : mg_G X Y_Mo_turn Q M 0 0 340 [some (.ref 1000), some (.int (nI r.length)), some (.int (nI g)), some (.int p), some (.int q), some (.int vi)] []) : mg_G X Y_Mo_turn Q M 0 0 303 [some (.ref 1000), some (.int (nI r.length)), some (.int (nI g)), some (.int p), some (.int q), some (.int vi)] [] := by
  obtain ⟨o1, -, -, -, -, -, -, -, -, -, -, -⟩ := id h.1
  obtain ⟨-, hh, pi, sg, co, sa, ⟨q1, q2, q3, q4⟩, t1, t2, t3, t4, t5⟩ := id h
  have hink : vp_in (nI r.length) 20 := vp_in_nI (by omega) (by decide)
  refine mg_iload d_Mo_turn_303 rfl ?_
  first | refine mg_aload_n d_Mo_turn_305 rfl rfl ?_ | refine mg_aload_nN d_Mo_turn_305 rfl rfl ?_
  refine mg_getfield fl_Mo_124 d_Mo_turn_306 (by first | assumption | exact mg_up_s _ _ _ | (rw [mg_up_n _ _ (by decide)]; first | assumption | exact mg_up_s _ _ _ | (rw [mg_up_n _ _ (by decide)]; first | assumption | exact mg_up_s _ _ _ | (rw [mg_up_n _ _ (by decide)]; first | assumption | exact mg_up_s _ _ _ | (rw [mg_up_n _ _ (by decide)]; first | assumption | exact mg_up_s _ _ _ | (rw [mg_up_n _ _ (by decide)]; first | assumption | exact mg_up_s _ _ _ | (rw [mg_up_n _ _ (by decide)]; first | assumption | exact mg_up_s _ _ _))))))) rfl ?_
  refine mg_icmp_ge (tgt := 340) d_Mo_turn_309 (by decide) (fun c_309 => ?_) (fun c_309 => ?_)
  · exact kk
  · first | refine mg_aload_n d_Mo_turn_312 rfl rfl ?_ | refine mg_aload_nN d_Mo_turn_312 rfl rfl ?_
    refine mg_getfield fl_Mo_46 d_Mo_turn_313 (by first | assumption | exact mg_up_s _ _ _ | (rw [mg_up_n _ _ (by decide)]; first | assumption | exact mg_up_s _ _ _ | (rw [mg_up_n _ _ (by decide)]; first | assumption | exact mg_up_s _ _ _ | (rw [mg_up_n _ _ (by decide)]; first | assumption | exact mg_up_s _ _ _ | (rw [mg_up_n _ _ (by decide)]; first | assumption | exact mg_up_s _ _ _ | (rw [mg_up_n _ _ (by decide)]; first | assumption | exact mg_up_s _ _ _ | (rw [mg_up_n _ _ (by decide)]; first | assumption | exact mg_up_s _ _ _))))))) rfl ?_
    refine mg_iload_n d_Mo_turn_316 rfl rfl ?_
    refine mg_iaload rfl d_Mo_turn_317 (by first | assumption | exact mg_up_s _ _ _ | (rw [mg_up_n _ _ (by decide)]; first | assumption | exact mg_up_s _ _ _ | (rw [mg_up_n _ _ (by decide)]; first | assumption | exact mg_up_s _ _ _ | (rw [mg_up_n _ _ (by decide)]; first | assumption | exact mg_up_s _ _ _ | (rw [mg_up_n _ _ (by decide)]; first | assumption | exact mg_up_s _ _ _ | (rw [mg_up_n _ _ (by decide)]; first | assumption | exact mg_up_s _ _ _ | (rw [mg_up_n _ _ (by decide)]; first | assumption | exact mg_up_s _ _ _))))))) hink ?_
    refine mg_eqi (y := s1) (by rw [nI_clamp (by omega)]; exact t2) ?_
    refine mg_iconst (v := 2) d_Mo_turn_318 (by decide) ?_
    refine mg_icmp_ne (tgt := 340) d_Mo_turn_319 (by decide) (fun c_319 => ?_) (fun c_319 => ?_)
    · exact kk
    · exact absurd (by first | exact c_319 | exact Decidable.not_not.mp c_319) hne

set_option maxHeartbeats 4000000 in
set_option maxRecDepth 100000 in
theorem c_Mo_turn {M : mg_M} {gs : List gN} {md : dM} {σ : dS} {si : Nat → Int32} {s : Int64} {g a : Nat} {s0 c : Int32} {r : List fR} (hw : wfG gs) (hm : okM md) (hσ : okS md σ) (hil : σ.2.2.1 = false) (hGM : isGM M gs) (hok : okF gs σ.2.1.length ((g, s0, c, a) :: r)) (h : isMR M si s md σ ((g, s0, c, a) :: r)) : mg_Ct Y_Mo_turn { frames := 2, cells := 0, slots := 0, locals := 46 } [.ref 1000, .int (nI r.length), .int (nI g)] M (tuP M si s md (turnF gs md σ ((g, s0, c, a) :: r))) := by
  obtain ⟨o1, o2, o3, o4, o5, o6, o7, o8, o9, o10, o11, ⟨nf, n1, n2, n3⟩⟩ := id h.1
  obtain ⟨-, hh, pi, sg, co, sa, ⟨q1, q2, q3, q4⟩, t1, t2, t3, t4, t5⟩ := id h
  obtain ⟨f1, f2, f3, f4, e1, e2, e3, e4, eg⟩ := id hGM
  obtain ⟨⟨⟨kd, p, q, dp⟩, hG, hGl⟩, hal, hok2⟩ := id hok
  obtain ⟨i1, i2, i3, -⟩ := eg g _ hG
  replace i1 : f1 g = nI kd := i1
  replace i2 : f2 g = p := i2
  replace i3 : f3 g = q := i3
  replace hGl : dp + r.length ≤ 8 := hGl
  obtain ⟨w1, w2, w3, w4, w5, w6, w7, w8⟩ := hw.2 g kd p q dp hG
  have hg20 : g < 20 := Nat.lt_of_lt_of_le (List.getElem?_eq_some_iff.mp hG).1 hw.1
  have hin : vp_in (nI g) 20 := vp_in_nI hg20 (by decide)
  have hink : vp_in (nI r.length) 20 := vp_in_nI (by omega) (by decide)
  have hl : r.length < 19 := by omega
  refine mg_met [some (.ref 1000), some (.int (nI r.length)), some (.int (nI g)), none, none, none] (by decide +kernel) rfl (Nat.le_of_ble_eq_true rfl) ?_
  intro X hR _
  first | refine mg_aload_n d_Mo_turn_0 rfl rfl ?_ | refine mg_aload_nN d_Mo_turn_0 rfl rfl ?_
  refine mg_getfield fl_Mo_13 d_Mo_turn_1 (by first | assumption | exact mg_up_s _ _ _ | (rw [mg_up_n _ _ (by decide)]; first | assumption | exact mg_up_s _ _ _ | (rw [mg_up_n _ _ (by decide)]; first | assumption | exact mg_up_s _ _ _ | (rw [mg_up_n _ _ (by decide)]; first | assumption | exact mg_up_s _ _ _ | (rw [mg_up_n _ _ (by decide)]; first | assumption | exact mg_up_s _ _ _ | (rw [mg_up_n _ _ (by decide)]; first | assumption | exact mg_up_s _ _ _ | (rw [mg_up_n _ _ (by decide)]; first | assumption | exact mg_up_s _ _ _))))))) rfl ?_
  refine mg_iload_n d_Mo_turn_4 rfl rfl ?_
  have hin0 := hin
  refine mg_iaload rfl d_Mo_turn_5 (by first | assumption | exact mg_up_s _ _ _ | (rw [mg_up_n _ _ (by decide)]; first | assumption | exact mg_up_s _ _ _ | (rw [mg_up_n _ _ (by decide)]; first | assumption | exact mg_up_s _ _ _ | (rw [mg_up_n _ _ (by decide)]; first | assumption | exact mg_up_s _ _ _ | (rw [mg_up_n _ _ (by decide)]; first | assumption | exact mg_up_s _ _ _ | (rw [mg_up_n _ _ (by decide)]; first | assumption | exact mg_up_s _ _ _ | (rw [mg_up_n _ _ (by decide)]; first | assumption | exact mg_up_s _ _ _))))))) (by assumption) ?_
  refine mg_eqi (y := p) (by rw [nI_clamp (by omega)]; exact i2) ?_
  refine mg_istore_n d_Mo_turn_6 rfl (Nat.le_of_ble_eq_true rfl) rfl ?_
  first | refine mg_aload_n d_Mo_turn_7 rfl rfl ?_ | refine mg_aload_nN d_Mo_turn_7 rfl rfl ?_
  refine mg_getfield fl_Mo_16 d_Mo_turn_8 (by first | assumption | exact mg_up_s _ _ _ | (rw [mg_up_n _ _ (by decide)]; first | assumption | exact mg_up_s _ _ _ | (rw [mg_up_n _ _ (by decide)]; first | assumption | exact mg_up_s _ _ _ | (rw [mg_up_n _ _ (by decide)]; first | assumption | exact mg_up_s _ _ _ | (rw [mg_up_n _ _ (by decide)]; first | assumption | exact mg_up_s _ _ _ | (rw [mg_up_n _ _ (by decide)]; first | assumption | exact mg_up_s _ _ _ | (rw [mg_up_n _ _ (by decide)]; first | assumption | exact mg_up_s _ _ _))))))) rfl ?_
  refine mg_iload_n d_Mo_turn_11 rfl rfl ?_
  refine mg_iaload rfl d_Mo_turn_12 (by first | assumption | exact mg_up_s _ _ _ | (rw [mg_up_n _ _ (by decide)]; first | assumption | exact mg_up_s _ _ _ | (rw [mg_up_n _ _ (by decide)]; first | assumption | exact mg_up_s _ _ _ | (rw [mg_up_n _ _ (by decide)]; first | assumption | exact mg_up_s _ _ _ | (rw [mg_up_n _ _ (by decide)]; first | assumption | exact mg_up_s _ _ _ | (rw [mg_up_n _ _ (by decide)]; first | assumption | exact mg_up_s _ _ _ | (rw [mg_up_n _ _ (by decide)]; first | assumption | exact mg_up_s _ _ _))))))) (by assumption) ?_
  refine mg_eqi (y := q) (by rw [nI_clamp (by omega)]; exact i3) ?_
  refine mg_istore d_Mo_turn_13 (Nat.le_of_ble_eq_true rfl) rfl ?_
  first | refine mg_aload_n d_Mo_turn_15 rfl rfl ?_ | refine mg_aload_nN d_Mo_turn_15 rfl rfl ?_
  refine mg_getfield fl_Mo_46 d_Mo_turn_16 (by first | assumption | exact mg_up_s _ _ _ | (rw [mg_up_n _ _ (by decide)]; first | assumption | exact mg_up_s _ _ _ | (rw [mg_up_n _ _ (by decide)]; first | assumption | exact mg_up_s _ _ _ | (rw [mg_up_n _ _ (by decide)]; first | assumption | exact mg_up_s _ _ _ | (rw [mg_up_n _ _ (by decide)]; first | assumption | exact mg_up_s _ _ _ | (rw [mg_up_n _ _ (by decide)]; first | assumption | exact mg_up_s _ _ _ | (rw [mg_up_n _ _ (by decide)]; first | assumption | exact mg_up_s _ _ _))))))) rfl ?_
  refine mg_iload_n d_Mo_turn_19 rfl rfl ?_
  refine mg_dup2 d_Mo_turn_20 rfl rfl ?_
  refine mg_iaload rfl d_Mo_turn_21 (by first | assumption | exact mg_up_s _ _ _ | (rw [mg_up_n _ _ (by decide)]; first | assumption | exact mg_up_s _ _ _ | (rw [mg_up_n _ _ (by decide)]; first | assumption | exact mg_up_s _ _ _ | (rw [mg_up_n _ _ (by decide)]; first | assumption | exact mg_up_s _ _ _ | (rw [mg_up_n _ _ (by decide)]; first | assumption | exact mg_up_s _ _ _ | (rw [mg_up_n _ _ (by decide)]; first | assumption | exact mg_up_s _ _ _ | (rw [mg_up_n _ _ (by decide)]; first | assumption | exact mg_up_s _ _ _))))))) hink ?_
  refine mg_eqi (y := s0) (by rw [nI_clamp (by omega)]; exact t2) ?_
  refine mg_iconst (v := 1) d_Mo_turn_22 (by decide) ?_
  refine mg_iadd d_Mo_turn_23 ?_
  refine mg_iastore rfl d_Mo_turn_24 (by first | assumption | exact mg_up_s _ _ _ | (rw [mg_up_n _ _ (by decide)]; first | assumption | exact mg_up_s _ _ _ | (rw [mg_up_n _ _ (by decide)]; first | assumption | exact mg_up_s _ _ _ | (rw [mg_up_n _ _ (by decide)]; first | assumption | exact mg_up_s _ _ _ | (rw [mg_up_n _ _ (by decide)]; first | assumption | exact mg_up_s _ _ _ | (rw [mg_up_n _ _ (by decide)]; first | assumption | exact mg_up_s _ _ _ | (rw [mg_up_n _ _ (by decide)]; first | assumption | exact mg_up_s _ _ _))))))) hink ?_
  refine mg_eqM (M' := mg_up M 1013 (iaE 20 (upd sg r.length (s0 + 1)))) (by rw [nI_clamp (by omega)]) ?_
  first | refine mg_aload_n d_Mo_turn_25 rfl rfl ?_ | refine mg_aload_nN d_Mo_turn_25 rfl rfl ?_
  refine mg_getfield fl_Mo_7 d_Mo_turn_26 (by first | assumption | exact mg_up_s _ _ _ | (rw [mg_up_n _ _ (by decide)]; first | assumption | exact mg_up_s _ _ _ | (rw [mg_up_n _ _ (by decide)]; first | assumption | exact mg_up_s _ _ _ | (rw [mg_up_n _ _ (by decide)]; first | assumption | exact mg_up_s _ _ _ | (rw [mg_up_n _ _ (by decide)]; first | assumption | exact mg_up_s _ _ _ | (rw [mg_up_n _ _ (by decide)]; first | assumption | exact mg_up_s _ _ _ | (rw [mg_up_n _ _ (by decide)]; first | assumption | exact mg_up_s _ _ _))))))) rfl ?_
  refine mg_iload_n d_Mo_turn_29 rfl rfl ?_
  refine mg_iaload rfl d_Mo_turn_30 (by first | assumption | exact mg_up_s _ _ _ | (rw [mg_up_n _ _ (by decide)]; first | assumption | exact mg_up_s _ _ _ | (rw [mg_up_n _ _ (by decide)]; first | assumption | exact mg_up_s _ _ _ | (rw [mg_up_n _ _ (by decide)]; first | assumption | exact mg_up_s _ _ _ | (rw [mg_up_n _ _ (by decide)]; first | assumption | exact mg_up_s _ _ _ | (rw [mg_up_n _ _ (by decide)]; first | assumption | exact mg_up_s _ _ _ | (rw [mg_up_n _ _ (by decide)]; first | assumption | exact mg_up_s _ _ _))))))) (by assumption) ?_
  refine mg_eqi (y := nI kd) (by rw [nI_clamp (by omega)]; exact i1) ?_
  have h' := h.sg (v := s0 + 1) q2
  have hm1 : smR M (mg_up M 1013 (iaE 20 (upd sg r.length (s0 + 1)))) := smR.rf.up (by decide)
  generalize mg_up M 1013 (iaE 20 (upd sg r.length (s0 + 1))) = M1 at h' hm1 ⊢
  clear o1 o2 o3 o4 o5 o6 o7 o8 o9 o10 o11 n1 n2 n3 hh q1 q2 q3 q4 t1 t2 t3 t4 t5 e1 e2 e3 e4 eg i1 i2 i3 h
  obtain ⟨o1, o2, o3, o4, o5, o6, o7, o8, o9, o10, o11, ⟨nf, n1, n2, n3⟩⟩ := id h'.1
  obtain ⟨-, hh, pi, sg, co, sa, ⟨q1, q2, q3, q4⟩, t1, t2, t3, t4, t5⟩ := id h'
  match kd, w1, w4, w5, w6, w7, w8, hG with
  | 0, w1, w4, w5, w6, w7, w8, hG =>
    rw [tF_0 hG]
    refine mg_tableIn (tgt := 64) d_Mo_turn_31 (by decide) (by decide) rfl (by decide) ?_
    first | refine mg_aload_n d_Mo_turn_64 rfl rfl ?_ | refine mg_aload_nN d_Mo_turn_64 rfl rfl ?_
    refine mg_iload d_Mo_turn_65 rfl ?_
    refine mg_iload_n d_Mo_turn_67 rfl rfl ?_
    refine mg_isub d_Mo_turn_68 ?_
    refine mg_iconst (v := 1) d_Mo_turn_69 (by decide) ?_
    refine mg_callV (vl_Mo_135 rfl) d_Mo_turn_70 (by first | assumption | exact mg_up_s _ _ _ | (rw [mg_up_n _ _ (by decide)]; first | assumption | exact mg_up_s _ _ _ | (rw [mg_up_n _ _ (by decide)]; first | assumption | exact mg_up_s _ _ _ | (rw [mg_up_n _ _ (by decide)]; first | assumption | exact mg_up_s _ _ _ | (rw [mg_up_n _ _ (by decide)]; first | assumption | exact mg_up_s _ _ _ | (rw [mg_up_n _ _ (by decide)]; first | assumption | exact mg_up_s _ _ _ | (rw [mg_up_n _ _ (by decide)]; first | assumption | exact mg_up_s _ _ _))))))) rfl rfl (c_Mo_draw (span := spanF md.2.2 (q - p)) (w := 1) h'.1 hil hm hσ (by rw [if_neg (by decide)]) (fun e => span_ok (hm.2.2 e).1 (hm.2.2 e).2 (w4 rfl))) rfl rfl (by rw [hR]; decide) (by rw [hR]; decide) (Nat.le_of_ble_eq_true rfl) ?_
    rintro v M2 hd
    obtain ⟨rfl, si2, h2, hs2, hm2⟩ := h'.dr hd
    obtain ⟨d1, d2, d3, d4, d5, d6, d7, d8, d9, d10, d11, ⟨df, dn1, dn2, dn3⟩⟩ := id h2.1
    obtain ⟨-, hhd, pd, sgd, cod, sad, ⟨qd1, qd2, qd3, qd4⟩, td1, td2, td3, td4, td5⟩ := id h2
    generalize drawF md σ (q - p) (spanF md.2.2 (q - p)) = D at *
    refine mg_istore d_Mo_turn_73 (Nat.le_of_ble_eq_true rfl) rfl ?_
    first | refine mg_aload_n d_Mo_turn_75 rfl rfl ?_ | refine mg_aload_nN d_Mo_turn_75 rfl rfl ?_
    refine mg_dup d_Mo_turn_76 rfl ?_
    refine mg_getfield fl_Mo_121 d_Mo_turn_77 (by first | assumption | exact mg_up_s _ _ _ | (rw [mg_up_n _ _ (by decide)]; first | assumption | exact mg_up_s _ _ _ | (rw [mg_up_n _ _ (by decide)]; first | assumption | exact mg_up_s _ _ _ | (rw [mg_up_n _ _ (by decide)]; first | assumption | exact mg_up_s _ _ _ | (rw [mg_up_n _ _ (by decide)]; first | assumption | exact mg_up_s _ _ _ | (rw [mg_up_n _ _ (by decide)]; first | assumption | exact mg_up_s _ _ _ | (rw [mg_up_n _ _ (by decide)]; first | assumption | exact mg_up_s _ _ _))))))) rfl ?_
    refine mg_iconst (v := 1) d_Mo_turn_80 (by decide) ?_
    refine mg_isub d_Mo_turn_81 ?_
    refine mg_putfield (fw_Mo_121 _) d_Mo_turn_82 (by first | assumption | exact mg_up_s _ _ _ | (rw [mg_up_n _ _ (by decide)]; first | assumption | exact mg_up_s _ _ _ | (rw [mg_up_n _ _ (by decide)]; first | assumption | exact mg_up_s _ _ _ | (rw [mg_up_n _ _ (by decide)]; first | assumption | exact mg_up_s _ _ _ | (rw [mg_up_n _ _ (by decide)]; first | assumption | exact mg_up_s _ _ _ | (rw [mg_up_n _ _ (by decide)]; first | assumption | exact mg_up_s _ _ _ | (rw [mg_up_n _ _ (by decide)]; first | assumption | exact mg_up_s _ _ _))))))) (Nat.le_of_ble_eq_true rfl) (fun _ => ⟨rfl, rfl⟩) ?_
    refine mg_eqM (M' := mg_up M2 1000 (moE (upd si2 25 (nI r.length)) D.2.2.2.2.1 s)) (by rw [show si2 25 = nI (r.length + 1) from h2.2.1, nI_pred]; rfl) ?_
    have h3 := h2.pop
    first | refine mg_aload_n d_Mo_turn_85 rfl rfl ?_ | refine mg_aload_nN d_Mo_turn_85 rfl rfl ?_
    refine mg_getfield fl_Mo_124 d_Mo_turn_86 (by first | assumption | exact mg_up_s _ _ _ | (rw [mg_up_n _ _ (by decide)]; first | assumption | exact mg_up_s _ _ _ | (rw [mg_up_n _ _ (by decide)]; first | assumption | exact mg_up_s _ _ _ | (rw [mg_up_n _ _ (by decide)]; first | assumption | exact mg_up_s _ _ _ | (rw [mg_up_n _ _ (by decide)]; first | assumption | exact mg_up_s _ _ _ | (rw [mg_up_n _ _ (by decide)]; first | assumption | exact mg_up_s _ _ _ | (rw [mg_up_n _ _ (by decide)]; first | assumption | exact mg_up_s _ _ _))))))) rfl ?_
    refine mg_bipush (v := 60) d_Mo_turn_89 (by decide) ?_
    refine mg_icmp_ne (tgt := 99) d_Mo_turn_91 (by decide) (fun c_91 => ?_) (fun c_91 => ?_)
    · have c60 : D.2.2.1.length < 60 := by
        have e : ¬ si2 12 = 60 := c_91
        rw [d4] at e
        have n2b : D.2.2.1.length ≤ 60 := dn2
        rcases Nat.lt_or_ge D.2.2.1.length 60 with q0 | q0
        · exact q0
        · exact absurd (by rw [show D.2.2.1.length = 60 by omega]; rfl) e
      have hin3 : vp_in (si2 12) 60 := by rw [d4]; exact nIw c60 (Nat.le_refl _)
      first | refine mg_aload_n d_Mo_turn_99 rfl rfl ?_ | refine mg_aload_nN d_Mo_turn_99 rfl rfl ?_
      refine mg_getfield fl_Mo_114 d_Mo_turn_100 (by first | assumption | exact mg_up_s _ _ _ | (rw [mg_up_n _ _ (by decide)]; first | assumption | exact mg_up_s _ _ _ | (rw [mg_up_n _ _ (by decide)]; first | assumption | exact mg_up_s _ _ _ | (rw [mg_up_n _ _ (by decide)]; first | assumption | exact mg_up_s _ _ _ | (rw [mg_up_n _ _ (by decide)]; first | assumption | exact mg_up_s _ _ _ | (rw [mg_up_n _ _ (by decide)]; first | assumption | exact mg_up_s _ _ _ | (rw [mg_up_n _ _ (by decide)]; first | assumption | exact mg_up_s _ _ _))))))) rfl ?_
      refine mg_if_eq (tgt := 109) d_Mo_turn_103 (by decide) (fun c_103 => ?_) (fun c_103 => ?_)
      · have hi3 : D.2.2.2.1 = false := bI_f (show bI D.2.2.2.1 = 0 by rw [← d7]; exact c_103)
        first | refine mg_aload_n d_Mo_turn_109 rfl rfl ?_ | refine mg_aload_nN d_Mo_turn_109 rfl rfl ?_
        refine mg_getfield fl_Mo_40 d_Mo_turn_110 (by first | assumption | exact mg_up_s _ _ _ | (rw [mg_up_n _ _ (by decide)]; first | assumption | exact mg_up_s _ _ _ | (rw [mg_up_n _ _ (by decide)]; first | assumption | exact mg_up_s _ _ _ | (rw [mg_up_n _ _ (by decide)]; first | assumption | exact mg_up_s _ _ _ | (rw [mg_up_n _ _ (by decide)]; first | assumption | exact mg_up_s _ _ _ | (rw [mg_up_n _ _ (by decide)]; first | assumption | exact mg_up_s _ _ _ | (rw [mg_up_n _ _ (by decide)]; first | assumption | exact mg_up_s _ _ _))))))) rfl ?_
        first | refine mg_aload_n d_Mo_turn_113 rfl rfl ?_ | refine mg_aload_nN d_Mo_turn_113 rfl rfl ?_
        refine mg_getfield fl_Mo_124 d_Mo_turn_114 (by first | assumption | exact mg_up_s _ _ _ | (rw [mg_up_n _ _ (by decide)]; first | assumption | exact mg_up_s _ _ _ | (rw [mg_up_n _ _ (by decide)]; first | assumption | exact mg_up_s _ _ _ | (rw [mg_up_n _ _ (by decide)]; first | assumption | exact mg_up_s _ _ _ | (rw [mg_up_n _ _ (by decide)]; first | assumption | exact mg_up_s _ _ _ | (rw [mg_up_n _ _ (by decide)]; first | assumption | exact mg_up_s _ _ _ | (rw [mg_up_n _ _ (by decide)]; first | assumption | exact mg_up_s _ _ _))))))) rfl ?_
        refine mg_iload_n d_Mo_turn_117 rfl rfl ?_
        refine mg_iload d_Mo_turn_118 rfl ?_
        refine mg_iadd d_Mo_turn_120 ?_
        refine mg_iastore rfl d_Mo_turn_121 (by first | assumption | exact mg_up_s _ _ _ | (rw [mg_up_n _ _ (by decide)]; first | assumption | exact mg_up_s _ _ _ | (rw [mg_up_n _ _ (by decide)]; first | assumption | exact mg_up_s _ _ _ | (rw [mg_up_n _ _ (by decide)]; first | assumption | exact mg_up_s _ _ _ | (rw [mg_up_n _ _ (by decide)]; first | assumption | exact mg_up_s _ _ _ | (rw [mg_up_n _ _ (by decide)]; first | assumption | exact mg_up_s _ _ _ | (rw [mg_up_n _ _ (by decide)]; first | assumption | exact mg_up_s _ _ _))))))) hin3 ?_
        refine mg_eqM (M' := mg_up (mg_up M2 1000 (moE (upd si2 25 (nI r.length)) D.2.2.2.2.1 s)) 1011 (iaE 60 (upd df D.2.2.1.length (p + D.1)))) (by rw [show (upd si2 25 (nI r.length)) 12 = nI D.2.2.1.length from d4, nI_clampN (by omega)]) ?_
        first | refine mg_aload_n d_Mo_turn_122 rfl rfl ?_ | refine mg_aload_nN d_Mo_turn_122 rfl rfl ?_
        refine mg_dup d_Mo_turn_123 rfl ?_
        refine mg_getfield fl_Mo_124 d_Mo_turn_124 (by first | assumption | exact mg_up_s _ _ _ | (rw [mg_up_n _ _ (by decide)]; first | assumption | exact mg_up_s _ _ _ | (rw [mg_up_n _ _ (by decide)]; first | assumption | exact mg_up_s _ _ _ | (rw [mg_up_n _ _ (by decide)]; first | assumption | exact mg_up_s _ _ _ | (rw [mg_up_n _ _ (by decide)]; first | assumption | exact mg_up_s _ _ _ | (rw [mg_up_n _ _ (by decide)]; first | assumption | exact mg_up_s _ _ _ | (rw [mg_up_n _ _ (by decide)]; first | assumption | exact mg_up_s _ _ _))))))) rfl ?_
        refine mg_iconst (v := 1) d_Mo_turn_127 (by decide) ?_
        refine mg_iadd d_Mo_turn_128 ?_
        refine mg_putfield (fw_Mo_124 _) d_Mo_turn_129 (by first | assumption | exact mg_up_s _ _ _ | (rw [mg_up_n _ _ (by decide)]; first | assumption | exact mg_up_s _ _ _ | (rw [mg_up_n _ _ (by decide)]; first | assumption | exact mg_up_s _ _ _ | (rw [mg_up_n _ _ (by decide)]; first | assumption | exact mg_up_s _ _ _ | (rw [mg_up_n _ _ (by decide)]; first | assumption | exact mg_up_s _ _ _ | (rw [mg_up_n _ _ (by decide)]; first | assumption | exact mg_up_s _ _ _ | (rw [mg_up_n _ _ (by decide)]; first | assumption | exact mg_up_s _ _ _))))))) (Nat.le_of_ble_eq_true rfl) (fun _ => ⟨rfl, rfl⟩) ?_
        refine mg_eqM (M' := mg_up (mg_up (mg_up M2 1000 (moE (upd si2 25 (nI r.length)) D.2.2.2.2.1 s)) 1011 (iaE 60 (upd df D.2.2.1.length (p + D.1)))) 1000 (moE (upd (upd si2 25 (nI r.length)) 12 (nI (D.2.2.1.length + 1))) D.2.2.2.2.1 s)) (by rw [show (upd si2 25 (nI r.length)) 12 = nI D.2.2.1.length from d4, nI_1]; rfl) ?_
        refine mg_goto (tgt := 368) d_Mo_turn_132 (by decide) ?_
        exact mg_return d_Mo_turn_368 rfl (Nat.le_of_ble_eq_true rfl) (Nat.le_of_ble_eq_true rfl) ⟨rfl, _, h3.num hi3 c60 ((mg_up_n _ _ (by decide)).trans dn1) rfl, (hs2.up (by decide)).up (by decide), (((hm1.tr hm2).up (by decide)).up (by decide)).up (by decide)⟩
      · refine mg_goto (tgt := 368) d_Mo_turn_106 (by decide) ?_
        have hi3 : D.2.2.2.1 = true := bI_t (show ¬ bI D.2.2.2.1 = 0 by rw [← d7]; exact c_103)
        refine mg_return d_Mo_turn_368 rfl (Nat.le_of_ble_eq_true rfl) (Nat.le_of_ble_eq_true rfl) ?_
        rw [numF_ill hi3]
        exact ⟨rfl, _, h3, hs2.up (by decide), (hm1.tr hm2).up (by decide)⟩
    · have c60 : ¬ D.2.2.1.length < 60 := by
        have e : si2 12 = 60 := by first | exact c_91 | exact Decidable.not_not.mp c_91
        rw [d4] at e
        have := (nI_eq (b := 60) (by omega) (by decide)).mp e
        omega
      refine mg_aload_n d_Mo_turn_94 rfl rfl ?_
      refine mg_iconst (v := 1) d_Mo_turn_95 (by decide) ?_
      refine mg_putfield (fw_Mo_114 _) d_Mo_turn_96 (by first | assumption | exact mg_up_s _ _ _ | (rw [mg_up_n _ _ (by decide)]; first | assumption | exact mg_up_s _ _ _ | (rw [mg_up_n _ _ (by decide)]; first | assumption | exact mg_up_s _ _ _ | (rw [mg_up_n _ _ (by decide)]; first | assumption | exact mg_up_s _ _ _ | (rw [mg_up_n _ _ (by decide)]; first | assumption | exact mg_up_s _ _ _ | (rw [mg_up_n _ _ (by decide)]; first | assumption | exact mg_up_s _ _ _ | (rw [mg_up_n _ _ (by decide)]; first | assumption | exact mg_up_s _ _ _))))))) (Nat.le_of_ble_eq_true rfl) (fun _ => ⟨rfl, rfl⟩) ?_
      refine mg_eqM (M' := mg_up (mg_up M2 1000 (moE (upd si2 25 (nI r.length)) D.2.2.2.2.1 s)) 1000 (moE (upd (upd si2 25 (nI r.length)) 15 1) D.2.2.2.2.1 s)) rfl ?_
      refine mg_aload_n d_Mo_turn_99 rfl rfl ?_
      refine mg_getfield fl_Mo_114 d_Mo_turn_100 (mg_up_s _ _ _) rfl ?_
      refine mg_eqi (y := 1) rfl ?_
      refine mg_if_eq (tgt := 109) d_Mo_turn_103 (by decide) (fun e => absurd e (by decide)) (fun _ => ?_)
      refine mg_goto (tgt := 368) d_Mo_turn_106 (by decide) ?_
      refine mg_return d_Mo_turn_368 rfl (Nat.le_of_ble_eq_true rfl) (Nat.le_of_ble_eq_true rfl) ?_
      rw [numF_60 c60]
      exact ⟨rfl, _, h3.ill, (hs2.up (by decide)).up (by decide), ((hm1.tr hm2).up (by decide)).up (by decide)⟩
  | 1, w1, w4, w5, w6, w7, w8, hG =>
    rw [tF_1 hG]
    obtain ⟨ja, Ga, rfl, hja, hGa, hda⟩ := w5 (by decide)
    have cja : (nI ja).toNatClampNeg = ja := nI_clamp (by omega)
    refine mg_tableIn (tgt := 135) d_Mo_turn_31 (by decide) (by decide) rfl (by decide) ?_
    first | refine mg_aload_n d_Mo_turn_135 rfl rfl ?_ | refine mg_aload_nN d_Mo_turn_135 rfl rfl ?_
    first | refine mg_aload_n d_Mo_turn_136 rfl rfl ?_ | refine mg_aload_nN d_Mo_turn_136 rfl rfl ?_
    refine mg_getfield fl_Mo_49 d_Mo_turn_137 (by first | assumption | exact mg_up_s _ _ _ | (rw [mg_up_n _ _ (by decide)]; first | assumption | exact mg_up_s _ _ _ | (rw [mg_up_n _ _ (by decide)]; first | assumption | exact mg_up_s _ _ _ | (rw [mg_up_n _ _ (by decide)]; first | assumption | exact mg_up_s _ _ _ | (rw [mg_up_n _ _ (by decide)]; first | assumption | exact mg_up_s _ _ _ | (rw [mg_up_n _ _ (by decide)]; first | assumption | exact mg_up_s _ _ _ | (rw [mg_up_n _ _ (by decide)]; first | assumption | exact mg_up_s _ _ _))))))) rfl ?_
    refine mg_iload_n d_Mo_turn_140 rfl rfl ?_
    refine mg_iaload rfl d_Mo_turn_141 (by first | assumption | exact mg_up_s _ _ _ | (rw [mg_up_n _ _ (by decide)]; first | assumption | exact mg_up_s _ _ _ | (rw [mg_up_n _ _ (by decide)]; first | assumption | exact mg_up_s _ _ _ | (rw [mg_up_n _ _ (by decide)]; first | assumption | exact mg_up_s _ _ _ | (rw [mg_up_n _ _ (by decide)]; first | assumption | exact mg_up_s _ _ _ | (rw [mg_up_n _ _ (by decide)]; first | assumption | exact mg_up_s _ _ _ | (rw [mg_up_n _ _ (by decide)]; first | assumption | exact mg_up_s _ _ _))))))) hink ?_
    refine mg_eqi (y := c) (by rw [nI_clamp (by omega)]; exact t3) ?_
    refine mg_iload d_Mo_turn_142 rfl ?_
    refine mg_icmp_eq (tgt := 156) d_Mo_turn_144 (by decide) (fun c_144 => ?_) (fun c_144 => ?_)
    · rw [if_pos c_144]
      exact tu_1a h' hl siR.rf hm1
    · rw [if_neg c_144]
      first | refine mg_aload_n d_Mo_turn_147 rfl rfl ?_ | refine mg_aload_nN d_Mo_turn_147 rfl rfl ?_
      refine mg_iconst (v := 1) d_Mo_turn_148 (by decide) ?_
      refine mg_iconst (v := 0) d_Mo_turn_149 (by decide) ?_
      refine mg_callV (vl_Mo_135 rfl) d_Mo_turn_150 (by first | assumption | exact mg_up_s _ _ _ | (rw [mg_up_n _ _ (by decide)]; first | assumption | exact mg_up_s _ _ _ | (rw [mg_up_n _ _ (by decide)]; first | assumption | exact mg_up_s _ _ _ | (rw [mg_up_n _ _ (by decide)]; first | assumption | exact mg_up_s _ _ _ | (rw [mg_up_n _ _ (by decide)]; first | assumption | exact mg_up_s _ _ _ | (rw [mg_up_n _ _ (by decide)]; first | assumption | exact mg_up_s _ _ _ | (rw [mg_up_n _ _ (by decide)]; first | assumption | exact mg_up_s _ _ _))))))) rfl rfl (c_Mo_draw (span := 2) (w := 0) h'.1 hil hm hσ rfl (fun _ => by decide)) rfl rfl (by rw [hR]; decide) (by rw [hR]; decide) (Nat.le_of_ble_eq_true rfl) ?_
      rintro v M2 hd
      obtain ⟨rfl, si2, h2, hs2, hm2⟩ := h'.dr hd
      obtain ⟨d1, d2, d3, d4, d5, d6, d7, d8, d9, d10, d11, ⟨df, dn1, dn2, dn3⟩⟩ := id h2.1
      obtain ⟨-, hhd, pd, sgd, cod, sad, ⟨qd1, qd2, qd3, qd4⟩, td1, td2, td3, td4, td5⟩ := id h2
      generalize drawF md σ 1 2 = D at *
      refine mg_if_ne (tgt := 160) d_Mo_turn_153 (by decide) (fun c_153 => ?_) (fun c_153 => ?_)
      · rw [if_neg c_153, cja]
        first | refine mg_aload_n d_Mo_turn_160 rfl rfl ?_ | refine mg_aload_nN d_Mo_turn_160 rfl rfl ?_
        refine mg_getfield fl_Mo_121 d_Mo_turn_161 (by first | assumption | exact mg_up_s _ _ _ | (rw [mg_up_n _ _ (by decide)]; first | assumption | exact mg_up_s _ _ _ | (rw [mg_up_n _ _ (by decide)]; first | assumption | exact mg_up_s _ _ _ | (rw [mg_up_n _ _ (by decide)]; first | assumption | exact mg_up_s _ _ _ | (rw [mg_up_n _ _ (by decide)]; first | assumption | exact mg_up_s _ _ _ | (rw [mg_up_n _ _ (by decide)]; first | assumption | exact mg_up_s _ _ _ | (rw [mg_up_n _ _ (by decide)]; first | assumption | exact mg_up_s _ _ _))))))) rfl ?_
        refine mg_putfield (fw_Mo_121 _) d_Mo_turn_164 (by first | assumption | exact mg_up_s _ _ _ | (rw [mg_up_n _ _ (by decide)]; first | assumption | exact mg_up_s _ _ _ | (rw [mg_up_n _ _ (by decide)]; first | assumption | exact mg_up_s _ _ _ | (rw [mg_up_n _ _ (by decide)]; first | assumption | exact mg_up_s _ _ _ | (rw [mg_up_n _ _ (by decide)]; first | assumption | exact mg_up_s _ _ _ | (rw [mg_up_n _ _ (by decide)]; first | assumption | exact mg_up_s _ _ _ | (rw [mg_up_n _ _ (by decide)]; first | assumption | exact mg_up_s _ _ _))))))) (Nat.le_of_ble_eq_true rfl) (fun _ => ⟨rfl, rfl⟩) ?_
        refine mg_eqM (M' := mg_up M2 1000 (moE (upd si2 25 (si2 25)) D.2.2.2.2.1 s)) rfl ?_
        have h3 := h2.hi (v := si2 25) (fr' := (g, s0 + 1, c, a) :: r) h2.2.1 (fun _ _ _ _ e => e)
        first | refine mg_aload_n d_Mo_turn_167 rfl rfl ?_ | refine mg_aload_nN d_Mo_turn_167 rfl rfl ?_
        refine mg_getfield fl_Mo_49 d_Mo_turn_168 (by first | assumption | exact mg_up_s _ _ _ | (rw [mg_up_n _ _ (by decide)]; first | assumption | exact mg_up_s _ _ _ | (rw [mg_up_n _ _ (by decide)]; first | assumption | exact mg_up_s _ _ _ | (rw [mg_up_n _ _ (by decide)]; first | assumption | exact mg_up_s _ _ _ | (rw [mg_up_n _ _ (by decide)]; first | assumption | exact mg_up_s _ _ _ | (rw [mg_up_n _ _ (by decide)]; first | assumption | exact mg_up_s _ _ _ | (rw [mg_up_n _ _ (by decide)]; first | assumption | exact mg_up_s _ _ _))))))) rfl ?_
        refine mg_iload_n d_Mo_turn_171 rfl rfl ?_
        refine mg_dup2 d_Mo_turn_172 rfl rfl ?_
        refine mg_iaload rfl d_Mo_turn_173 (by first | assumption | exact mg_up_s _ _ _ | (rw [mg_up_n _ _ (by decide)]; first | assumption | exact mg_up_s _ _ _ | (rw [mg_up_n _ _ (by decide)]; first | assumption | exact mg_up_s _ _ _ | (rw [mg_up_n _ _ (by decide)]; first | assumption | exact mg_up_s _ _ _ | (rw [mg_up_n _ _ (by decide)]; first | assumption | exact mg_up_s _ _ _ | (rw [mg_up_n _ _ (by decide)]; first | assumption | exact mg_up_s _ _ _ | (rw [mg_up_n _ _ (by decide)]; first | assumption | exact mg_up_s _ _ _))))))) hink ?_
        refine mg_eqi (y := c) (by rw [nI_clamp (by omega)]; exact td3) ?_
        refine mg_iconst (v := 1) d_Mo_turn_174 (by decide) ?_
        refine mg_iadd d_Mo_turn_175 ?_
        refine mg_iastore rfl d_Mo_turn_176 (by first | assumption | exact mg_up_s _ _ _ | (rw [mg_up_n _ _ (by decide)]; first | assumption | exact mg_up_s _ _ _ | (rw [mg_up_n _ _ (by decide)]; first | assumption | exact mg_up_s _ _ _ | (rw [mg_up_n _ _ (by decide)]; first | assumption | exact mg_up_s _ _ _ | (rw [mg_up_n _ _ (by decide)]; first | assumption | exact mg_up_s _ _ _ | (rw [mg_up_n _ _ (by decide)]; first | assumption | exact mg_up_s _ _ _ | (rw [mg_up_n _ _ (by decide)]; first | assumption | exact mg_up_s _ _ _))))))) hink ?_
        refine mg_eqM (M' := mg_up (mg_up M2 1000 (moE (upd si2 25 (si2 25)) D.2.2.2.2.1 s)) 1014 (iaE 20 (upd cod r.length (c + 1)))) (by rw [nI_clamp (by omega)]) ?_
        have h4 := h3.co (v := c + 1) (f := cod) ((mg_up_n _ _ (by decide)).trans qd3)
        first | refine mg_aload_n d_Mo_turn_177 rfl rfl ?_ | refine mg_aload_nN d_Mo_turn_177 rfl rfl ?_
        refine mg_getfield fl_Mo_121 d_Mo_turn_178 (by first | assumption | exact mg_up_s _ _ _ | (rw [mg_up_n _ _ (by decide)]; first | assumption | exact mg_up_s _ _ _ | (rw [mg_up_n _ _ (by decide)]; first | assumption | exact mg_up_s _ _ _ | (rw [mg_up_n _ _ (by decide)]; first | assumption | exact mg_up_s _ _ _ | (rw [mg_up_n _ _ (by decide)]; first | assumption | exact mg_up_s _ _ _ | (rw [mg_up_n _ _ (by decide)]; first | assumption | exact mg_up_s _ _ _ | (rw [mg_up_n _ _ (by decide)]; first | assumption | exact mg_up_s _ _ _))))))) rfl ?_
        refine mg_iload_n d_Mo_turn_181 rfl rfl ?_
        refine mg_icmp_le (tgt := 368) d_Mo_turn_182 (by decide) (fun c_182 => ?_) (fun c_182 => ?_)
        · have e : si2 25 ≤ nI r.length := c_182
          rw [show si2 25 = nI (r.length + 1) from h2.2.1] at e
          exact absurd ((nI_leI (by omega) (by omega)).mp e) (by omega)
        · first | refine mg_aload_n d_Mo_turn_185 rfl rfl ?_ | refine mg_aload_nN d_Mo_turn_185 rfl rfl ?_
          refine mg_iload_n d_Mo_turn_186 rfl rfl ?_
          refine mg_callV (vl_Mo_127 rfl) d_Mo_turn_187 (by first | assumption | exact mg_up_s _ _ _ | (rw [mg_up_n _ _ (by decide)]; first | assumption | exact mg_up_s _ _ _ | (rw [mg_up_n _ _ (by decide)]; first | assumption | exact mg_up_s _ _ _ | (rw [mg_up_n _ _ (by decide)]; first | assumption | exact mg_up_s _ _ _ | (rw [mg_up_n _ _ (by decide)]; first | assumption | exact mg_up_s _ _ _ | (rw [mg_up_n _ _ (by decide)]; first | assumption | exact mg_up_s _ _ _ | (rw [mg_up_n _ _ (by decide)]; first | assumption | exact mg_up_s _ _ _))))))) rfl rfl (c_Mo_push2 (g := ja) h4 (show r.length + 1 < 20 by omega)) rfl rfl (by rw [hR]; decide) (by rw [hR]; decide) (Nat.le_of_ble_eq_true rfl) ?_
          rintro v M5 ⟨rfl, si5, h5, hs5, hm5⟩
          refine mg_goto (tgt := 368) d_Mo_turn_190 (by decide) ?_
          exact mg_return d_Mo_turn_368 rfl (Nat.le_of_ble_eq_true rfl) (Nat.le_of_ble_eq_true rfl) ⟨rfl, si5, h5, (hs2.up (by decide)).tr hs5, (((hm1.tr hm2).up (by decide)).up (by decide)).tr hm5⟩
      · have e0 : D.1 = 0 := by first | exact c_153 | exact Decidable.not_not.mp c_153
        rw [if_pos e0]
        exact tu_1a h2 hl hs2 (hm1.tr hm2)
  | 2, w1, w4, w5, w6, w7, w8, hG =>
    rw [tF_2 hG]
    obtain ⟨ja, Ga, rfl, hja, hGa, hda⟩ := w5 (by decide)
    have cja : (nI ja).toNatClampNeg = ja := nI_clamp (by omega)
    obtain ⟨jb, Gb, rfl, hjb, hGb, hdb⟩ := w6 (by decide)
    have cjb : (nI jb).toNatClampNeg = jb := nI_clamp (by omega)
    refine mg_tableIn (tgt := 193) d_Mo_turn_31 (by decide) (by decide) rfl (by decide) ?_
    first | refine mg_aload_n d_Mo_turn_193 rfl rfl ?_ | refine mg_aload_nN d_Mo_turn_193 rfl rfl ?_
    refine mg_getfield fl_Mo_46 d_Mo_turn_194 (by first | assumption | exact mg_up_s _ _ _ | (rw [mg_up_n _ _ (by decide)]; first | assumption | exact mg_up_s _ _ _ | (rw [mg_up_n _ _ (by decide)]; first | assumption | exact mg_up_s _ _ _ | (rw [mg_up_n _ _ (by decide)]; first | assumption | exact mg_up_s _ _ _ | (rw [mg_up_n _ _ (by decide)]; first | assumption | exact mg_up_s _ _ _ | (rw [mg_up_n _ _ (by decide)]; first | assumption | exact mg_up_s _ _ _ | (rw [mg_up_n _ _ (by decide)]; first | assumption | exact mg_up_s _ _ _))))))) rfl ?_
    refine mg_iload_n d_Mo_turn_197 rfl rfl ?_
    refine mg_iaload rfl d_Mo_turn_198 (by first | assumption | exact mg_up_s _ _ _ | (rw [mg_up_n _ _ (by decide)]; first | assumption | exact mg_up_s _ _ _ | (rw [mg_up_n _ _ (by decide)]; first | assumption | exact mg_up_s _ _ _ | (rw [mg_up_n _ _ (by decide)]; first | assumption | exact mg_up_s _ _ _ | (rw [mg_up_n _ _ (by decide)]; first | assumption | exact mg_up_s _ _ _ | (rw [mg_up_n _ _ (by decide)]; first | assumption | exact mg_up_s _ _ _ | (rw [mg_up_n _ _ (by decide)]; first | assumption | exact mg_up_s _ _ _))))))) hink ?_
    refine mg_eqi (y := s0 + 1) (by rw [nI_clamp (by omega)]; exact t2) ?_
    refine mg_iconst (v := 3) d_Mo_turn_199 (by decide) ?_
    refine mg_icmp_ge (tgt := 226) d_Mo_turn_200 (by decide) (fun c_200 => ?_) (fun c_200 => ?_)
    · rw [if_neg (Int32.not_lt.mpr c_200)]
      first | refine mg_aload_n d_Mo_turn_226 rfl rfl ?_ | refine mg_aload_nN d_Mo_turn_226 rfl rfl ?_
      refine mg_dup d_Mo_turn_227 rfl ?_
      refine mg_getfield fl_Mo_121 d_Mo_turn_228 (by first | assumption | exact mg_up_s _ _ _ | (rw [mg_up_n _ _ (by decide)]; first | assumption | exact mg_up_s _ _ _ | (rw [mg_up_n _ _ (by decide)]; first | assumption | exact mg_up_s _ _ _ | (rw [mg_up_n _ _ (by decide)]; first | assumption | exact mg_up_s _ _ _ | (rw [mg_up_n _ _ (by decide)]; first | assumption | exact mg_up_s _ _ _ | (rw [mg_up_n _ _ (by decide)]; first | assumption | exact mg_up_s _ _ _ | (rw [mg_up_n _ _ (by decide)]; first | assumption | exact mg_up_s _ _ _))))))) rfl ?_
      refine mg_iconst (v := 1) d_Mo_turn_231 (by decide) ?_
      refine mg_isub d_Mo_turn_232 ?_
      refine mg_putfield (fw_Mo_121 _) d_Mo_turn_233 (by first | assumption | exact mg_up_s _ _ _ | (rw [mg_up_n _ _ (by decide)]; first | assumption | exact mg_up_s _ _ _ | (rw [mg_up_n _ _ (by decide)]; first | assumption | exact mg_up_s _ _ _ | (rw [mg_up_n _ _ (by decide)]; first | assumption | exact mg_up_s _ _ _ | (rw [mg_up_n _ _ (by decide)]; first | assumption | exact mg_up_s _ _ _ | (rw [mg_up_n _ _ (by decide)]; first | assumption | exact mg_up_s _ _ _ | (rw [mg_up_n _ _ (by decide)]; first | assumption | exact mg_up_s _ _ _))))))) (Nat.le_of_ble_eq_true rfl) (fun _ => ⟨rfl, rfl⟩) ?_
      refine mg_eqM (M' := mg_up M1 1000 (moE (upd si 25 (nI r.length)) σ.2.2.2.1 s)) (by rw [show si 25 = nI (r.length + 1) from h'.2.1, nI_pred]; rfl) ?_
      refine mg_goto (tgt := 368) d_Mo_turn_236 (by decide) ?_
      exact mg_return d_Mo_turn_368 rfl (Nat.le_of_ble_eq_true rfl) (Nat.le_of_ble_eq_true rfl) ⟨rfl, _, h'.pop, siR.rf.up (by decide), hm1.up (by decide)⟩
    · rw [if_pos (Int32.not_le.mp c_200)]
      first | refine mg_aload_n d_Mo_turn_203 rfl rfl ?_ | refine mg_aload_nN d_Mo_turn_203 rfl rfl ?_
      first | refine mg_aload_n d_Mo_turn_204 rfl rfl ?_ | refine mg_aload_nN d_Mo_turn_204 rfl rfl ?_
      refine mg_getfield fl_Mo_46 d_Mo_turn_205 (by first | assumption | exact mg_up_s _ _ _ | (rw [mg_up_n _ _ (by decide)]; first | assumption | exact mg_up_s _ _ _ | (rw [mg_up_n _ _ (by decide)]; first | assumption | exact mg_up_s _ _ _ | (rw [mg_up_n _ _ (by decide)]; first | assumption | exact mg_up_s _ _ _ | (rw [mg_up_n _ _ (by decide)]; first | assumption | exact mg_up_s _ _ _ | (rw [mg_up_n _ _ (by decide)]; first | assumption | exact mg_up_s _ _ _ | (rw [mg_up_n _ _ (by decide)]; first | assumption | exact mg_up_s _ _ _))))))) rfl ?_
      refine mg_iload_n d_Mo_turn_208 rfl rfl ?_
      refine mg_iaload rfl d_Mo_turn_209 (by first | assumption | exact mg_up_s _ _ _ | (rw [mg_up_n _ _ (by decide)]; first | assumption | exact mg_up_s _ _ _ | (rw [mg_up_n _ _ (by decide)]; first | assumption | exact mg_up_s _ _ _ | (rw [mg_up_n _ _ (by decide)]; first | assumption | exact mg_up_s _ _ _ | (rw [mg_up_n _ _ (by decide)]; first | assumption | exact mg_up_s _ _ _ | (rw [mg_up_n _ _ (by decide)]; first | assumption | exact mg_up_s _ _ _ | (rw [mg_up_n _ _ (by decide)]; first | assumption | exact mg_up_s _ _ _))))))) hink ?_
      refine mg_eqi (y := s0 + 1) (by rw [nI_clamp (by omega)]; exact t2) ?_
      refine mg_iconst (v := 1) d_Mo_turn_210 (by decide) ?_
      refine mg_icmp_ne (tgt := 218) d_Mo_turn_211 (by decide) (fun c_211 => ?_) (fun c_211 => ?_)
      · rw [if_neg c_211, cjb]
        obtain ⟨jx, hjx⟩ : ∃ jx, jx = jb := ⟨_, rfl⟩
        rw [← hjx]
        refine mg_iload d_Mo_turn_218 rfl ?_
        refine mg_callV (vl_Mo_127 rfl) d_Mo_turn_220 (by first | assumption | exact mg_up_s _ _ _ | (rw [mg_up_n _ _ (by decide)]; first | assumption | exact mg_up_s _ _ _ | (rw [mg_up_n _ _ (by decide)]; first | assumption | exact mg_up_s _ _ _ | (rw [mg_up_n _ _ (by decide)]; first | assumption | exact mg_up_s _ _ _ | (rw [mg_up_n _ _ (by decide)]; first | assumption | exact mg_up_s _ _ _ | (rw [mg_up_n _ _ (by decide)]; first | assumption | exact mg_up_s _ _ _ | (rw [mg_up_n _ _ (by decide)]; first | assumption | exact mg_up_s _ _ _))))))) rfl rfl (c_Mo_push2 (g := jx) h' (show r.length + 1 < 20 by omega)) rfl rfl (by rw [hR]; decide) (by rw [hR]; decide) (Nat.le_of_ble_eq_true rfl) ?_
        rintro v M5 ⟨rfl, si5, h5, hs5, hm5⟩
        refine mg_goto (tgt := 368) d_Mo_turn_223 (by decide) ?_
        exact mg_return d_Mo_turn_368 rfl (Nat.le_of_ble_eq_true rfl) (Nat.le_of_ble_eq_true rfl) ⟨rfl, si5, h5, hs5, hm1.tr hm5⟩
      · rw [if_pos (show s0 + 1 = 1 by first | exact c_211 | exact Decidable.not_not.mp c_211), cja]
        obtain ⟨jx, hjx⟩ : ∃ jx, jx = ja := ⟨_, rfl⟩
        rw [← hjx]
        refine mg_iload_n d_Mo_turn_214 rfl rfl ?_
        refine mg_goto (tgt := 220) d_Mo_turn_215 (by decide) ?_
        refine mg_callV (vl_Mo_127 rfl) d_Mo_turn_220 (by first | assumption | exact mg_up_s _ _ _ | (rw [mg_up_n _ _ (by decide)]; first | assumption | exact mg_up_s _ _ _ | (rw [mg_up_n _ _ (by decide)]; first | assumption | exact mg_up_s _ _ _ | (rw [mg_up_n _ _ (by decide)]; first | assumption | exact mg_up_s _ _ _ | (rw [mg_up_n _ _ (by decide)]; first | assumption | exact mg_up_s _ _ _ | (rw [mg_up_n _ _ (by decide)]; first | assumption | exact mg_up_s _ _ _ | (rw [mg_up_n _ _ (by decide)]; first | assumption | exact mg_up_s _ _ _))))))) rfl rfl (c_Mo_push2 (g := jx) h' (show r.length + 1 < 20 by omega)) rfl rfl (by rw [hR]; decide) (by rw [hR]; decide) (Nat.le_of_ble_eq_true rfl) ?_
        rintro v M5 ⟨rfl, si5, h5, hs5, hm5⟩
        refine mg_goto (tgt := 368) d_Mo_turn_223 (by decide) ?_
        exact mg_return d_Mo_turn_368 rfl (Nat.le_of_ble_eq_true rfl) (Nat.le_of_ble_eq_true rfl) ⟨rfl, si5, h5, hs5, hm1.tr hm5⟩
  | 3, w1, w4, w5, w6, w7, w8, hG =>
    rw [tF_3 hG]
    obtain ⟨ja, Ga, rfl, hja, hGa, hda⟩ := w5 (by decide)
    have cja : (nI ja).toNatClampNeg = ja := nI_clamp (by omega)
    obtain ⟨jb, Gb, rfl, hjb, hGb, hdb⟩ := w6 (by decide)
    have cjb : (nI jb).toNatClampNeg = jb := nI_clamp (by omega)
    refine mg_tableIn (tgt := 239) d_Mo_turn_31 (by decide) (by decide) rfl (by decide) ?_
    first | refine mg_aload_n d_Mo_turn_239 rfl rfl ?_ | refine mg_aload_nN d_Mo_turn_239 rfl rfl ?_
    refine mg_getfield fl_Mo_46 d_Mo_turn_240 (by first | assumption | exact mg_up_s _ _ _ | (rw [mg_up_n _ _ (by decide)]; first | assumption | exact mg_up_s _ _ _ | (rw [mg_up_n _ _ (by decide)]; first | assumption | exact mg_up_s _ _ _ | (rw [mg_up_n _ _ (by decide)]; first | assumption | exact mg_up_s _ _ _ | (rw [mg_up_n _ _ (by decide)]; first | assumption | exact mg_up_s _ _ _ | (rw [mg_up_n _ _ (by decide)]; first | assumption | exact mg_up_s _ _ _ | (rw [mg_up_n _ _ (by decide)]; first | assumption | exact mg_up_s _ _ _))))))) rfl ?_
    refine mg_iload_n d_Mo_turn_243 rfl rfl ?_
    refine mg_iaload rfl d_Mo_turn_244 (by first | assumption | exact mg_up_s _ _ _ | (rw [mg_up_n _ _ (by decide)]; first | assumption | exact mg_up_s _ _ _ | (rw [mg_up_n _ _ (by decide)]; first | assumption | exact mg_up_s _ _ _ | (rw [mg_up_n _ _ (by decide)]; first | assumption | exact mg_up_s _ _ _ | (rw [mg_up_n _ _ (by decide)]; first | assumption | exact mg_up_s _ _ _ | (rw [mg_up_n _ _ (by decide)]; first | assumption | exact mg_up_s _ _ _ | (rw [mg_up_n _ _ (by decide)]; first | assumption | exact mg_up_s _ _ _))))))) hink ?_
    refine mg_eqi (y := s0 + 1) (by rw [nI_clamp (by omega)]; exact t2) ?_
    refine mg_iconst (v := 1) d_Mo_turn_245 (by decide) ?_
    refine mg_icmp_ne (tgt := 271) d_Mo_turn_246 (by decide) (fun c_246 => ?_) (fun c_246 => ?_)
    · rw [if_neg c_246]
      first | refine mg_aload_n d_Mo_turn_271 rfl rfl ?_ | refine mg_aload_nN d_Mo_turn_271 rfl rfl ?_
      refine mg_dup d_Mo_turn_272 rfl ?_
      refine mg_getfield fl_Mo_121 d_Mo_turn_273 (by first | assumption | exact mg_up_s _ _ _ | (rw [mg_up_n _ _ (by decide)]; first | assumption | exact mg_up_s _ _ _ | (rw [mg_up_n _ _ (by decide)]; first | assumption | exact mg_up_s _ _ _ | (rw [mg_up_n _ _ (by decide)]; first | assumption | exact mg_up_s _ _ _ | (rw [mg_up_n _ _ (by decide)]; first | assumption | exact mg_up_s _ _ _ | (rw [mg_up_n _ _ (by decide)]; first | assumption | exact mg_up_s _ _ _ | (rw [mg_up_n _ _ (by decide)]; first | assumption | exact mg_up_s _ _ _))))))) rfl ?_
      refine mg_iconst (v := 1) d_Mo_turn_276 (by decide) ?_
      refine mg_isub d_Mo_turn_277 ?_
      refine mg_putfield (fw_Mo_121 _) d_Mo_turn_278 (by first | assumption | exact mg_up_s _ _ _ | (rw [mg_up_n _ _ (by decide)]; first | assumption | exact mg_up_s _ _ _ | (rw [mg_up_n _ _ (by decide)]; first | assumption | exact mg_up_s _ _ _ | (rw [mg_up_n _ _ (by decide)]; first | assumption | exact mg_up_s _ _ _ | (rw [mg_up_n _ _ (by decide)]; first | assumption | exact mg_up_s _ _ _ | (rw [mg_up_n _ _ (by decide)]; first | assumption | exact mg_up_s _ _ _ | (rw [mg_up_n _ _ (by decide)]; first | assumption | exact mg_up_s _ _ _))))))) (Nat.le_of_ble_eq_true rfl) (fun _ => ⟨rfl, rfl⟩) ?_
      refine mg_eqM (M' := mg_up M1 1000 (moE (upd si 25 (nI r.length)) σ.2.2.2.1 s)) (by rw [show si 25 = nI (r.length + 1) from h'.2.1, nI_pred]; rfl) ?_
      refine mg_goto (tgt := 368) d_Mo_turn_281 (by decide) ?_
      exact mg_return d_Mo_turn_368 rfl (Nat.le_of_ble_eq_true rfl) (Nat.le_of_ble_eq_true rfl) ⟨rfl, _, h'.pop, siR.rf.up (by decide), hm1.up (by decide)⟩
    · rw [if_pos (show s0 + 1 = 1 by first | exact c_246 | exact Decidable.not_not.mp c_246)]
      first | refine mg_aload_n d_Mo_turn_249 rfl rfl ?_ | refine mg_aload_nN d_Mo_turn_249 rfl rfl ?_
      first | refine mg_aload_n d_Mo_turn_250 rfl rfl ?_ | refine mg_aload_nN d_Mo_turn_250 rfl rfl ?_
      refine mg_iconst (v := 1) d_Mo_turn_251 (by decide) ?_
      refine mg_iconst (v := 0) d_Mo_turn_252 (by decide) ?_
      refine mg_callV (vl_Mo_135 rfl) d_Mo_turn_253 (by first | assumption | exact mg_up_s _ _ _ | (rw [mg_up_n _ _ (by decide)]; first | assumption | exact mg_up_s _ _ _ | (rw [mg_up_n _ _ (by decide)]; first | assumption | exact mg_up_s _ _ _ | (rw [mg_up_n _ _ (by decide)]; first | assumption | exact mg_up_s _ _ _ | (rw [mg_up_n _ _ (by decide)]; first | assumption | exact mg_up_s _ _ _ | (rw [mg_up_n _ _ (by decide)]; first | assumption | exact mg_up_s _ _ _ | (rw [mg_up_n _ _ (by decide)]; first | assumption | exact mg_up_s _ _ _))))))) rfl rfl (c_Mo_draw (span := 2) (w := 0) h'.1 hil hm hσ rfl (fun _ => by decide)) rfl rfl (by rw [hR]; decide) (by rw [hR]; decide) (Nat.le_of_ble_eq_true rfl) ?_
      rintro v M2 hd
      obtain ⟨rfl, si2, h2, hs2, hm2⟩ := h'.dr hd
      obtain ⟨d1, d2, d3, d4, d5, d6, d7, d8, d9, d10, d11, ⟨df, dn1, dn2, dn3⟩⟩ := id h2.1
      obtain ⟨-, hhd, pd, sgd, cod, sad, ⟨qd1, qd2, qd3, qd4⟩, td1, td2, td3, td4, td5⟩ := id h2
      generalize drawF md σ 1 2 = D at *
      refine mg_if_ne (tgt := 263) d_Mo_turn_256 (by decide) (fun c_256 => ?_) (fun c_256 => ?_)
      · rw [if_neg c_256, cjb]
        obtain ⟨jx, hjx⟩ : ∃ jx, jx = jb := ⟨_, rfl⟩
        rw [← hjx]
        refine mg_iload d_Mo_turn_263 rfl ?_
        refine mg_callV (vl_Mo_127 rfl) d_Mo_turn_265 (by first | assumption | exact mg_up_s _ _ _ | (rw [mg_up_n _ _ (by decide)]; first | assumption | exact mg_up_s _ _ _ | (rw [mg_up_n _ _ (by decide)]; first | assumption | exact mg_up_s _ _ _ | (rw [mg_up_n _ _ (by decide)]; first | assumption | exact mg_up_s _ _ _ | (rw [mg_up_n _ _ (by decide)]; first | assumption | exact mg_up_s _ _ _ | (rw [mg_up_n _ _ (by decide)]; first | assumption | exact mg_up_s _ _ _ | (rw [mg_up_n _ _ (by decide)]; first | assumption | exact mg_up_s _ _ _))))))) rfl rfl (c_Mo_push2 (g := jx) h2 (show r.length + 1 < 20 by omega)) rfl rfl (by rw [hR]; decide) (by rw [hR]; decide) (Nat.le_of_ble_eq_true rfl) ?_
        rintro v M5 ⟨rfl, si5, h5, hs5, hm5⟩
        refine mg_goto (tgt := 368) d_Mo_turn_268 (by decide) ?_
        exact mg_return d_Mo_turn_368 rfl (Nat.le_of_ble_eq_true rfl) (Nat.le_of_ble_eq_true rfl) ⟨rfl, si5, h5, hs2.tr hs5, (hm1.tr hm2).tr hm5⟩
      · rw [if_pos (show D.1 = 0 by first | exact c_256 | exact Decidable.not_not.mp c_256), cja]
        obtain ⟨jx, hjx⟩ : ∃ jx, jx = ja := ⟨_, rfl⟩
        rw [← hjx]
        refine mg_iload_n d_Mo_turn_259 rfl rfl ?_
        refine mg_goto (tgt := 265) d_Mo_turn_260 (by decide) ?_
        refine mg_callV (vl_Mo_127 rfl) d_Mo_turn_265 (by first | assumption | exact mg_up_s _ _ _ | (rw [mg_up_n _ _ (by decide)]; first | assumption | exact mg_up_s _ _ _ | (rw [mg_up_n _ _ (by decide)]; first | assumption | exact mg_up_s _ _ _ | (rw [mg_up_n _ _ (by decide)]; first | assumption | exact mg_up_s _ _ _ | (rw [mg_up_n _ _ (by decide)]; first | assumption | exact mg_up_s _ _ _ | (rw [mg_up_n _ _ (by decide)]; first | assumption | exact mg_up_s _ _ _ | (rw [mg_up_n _ _ (by decide)]; first | assumption | exact mg_up_s _ _ _))))))) rfl rfl (c_Mo_push2 (g := jx) h2 (show r.length + 1 < 20 by omega)) rfl rfl (by rw [hR]; decide) (by rw [hR]; decide) (Nat.le_of_ble_eq_true rfl) ?_
        rintro v M5 ⟨rfl, si5, h5, hs5, hm5⟩
        refine mg_goto (tgt := 368) d_Mo_turn_268 (by decide) ?_
        exact mg_return d_Mo_turn_368 rfl (Nat.le_of_ble_eq_true rfl) (Nat.le_of_ble_eq_true rfl) ⟨rfl, si5, h5, hs2.tr hs5, (hm1.tr hm2).tr hm5⟩
  | 4, w1, w4, w5, w6, w7, w8, hG =>
    rw [tF_4 hG]
    obtain ⟨ja, Ga, rfl, hja, hGa, hda⟩ := w5 (by decide)
    have cja : (nI ja).toNatClampNeg = ja := nI_clamp (by omega)
    refine mg_tableIn (tgt := 284) d_Mo_turn_31 (by decide) (by decide) rfl (by decide) ?_
    first | refine mg_aload_n d_Mo_turn_284 rfl rfl ?_ | refine mg_aload_nN d_Mo_turn_284 rfl rfl ?_
    refine mg_iload_n d_Mo_turn_285 rfl rfl ?_
    refine mg_iload_n d_Mo_turn_286 rfl rfl ?_
    refine mg_iload d_Mo_turn_287 rfl ?_
    refine mg_callV (vl_Mo_139 rfl) d_Mo_turn_289 (by first | assumption | exact mg_up_s _ _ _ | (rw [mg_up_n _ _ (by decide)]; first | assumption | exact mg_up_s _ _ _ | (rw [mg_up_n _ _ (by decide)]; first | assumption | exact mg_up_s _ _ _ | (rw [mg_up_n _ _ (by decide)]; first | assumption | exact mg_up_s _ _ _ | (rw [mg_up_n _ _ (by decide)]; first | assumption | exact mg_up_s _ _ _ | (rw [mg_up_n _ _ (by decide)]; first | assumption | exact mg_up_s _ _ _ | (rw [mg_up_n _ _ (by decide)]; first | assumption | exact mg_up_s _ _ _))))))) rfl rfl (c_Mo_keep (p := ja) (q := q) h' hl hal hil hm1) rfl rfl (by rw [hR]; decide) (by rw [hR]; decide) (Nat.le_of_ble_eq_true rfl) ?_
    rintro v M5 hv
    refine mg_goto (tgt := 368) d_Mo_turn_292 (by decide) ?_
    rw [cja]
    obtain ⟨rfl, hv⟩ := hv
    exact mg_return d_Mo_turn_368 rfl (Nat.le_of_ble_eq_true rfl) (Nat.le_of_ble_eq_true rfl) ⟨rfl, hv⟩
  | 5, w1, w4, w5, w6, w7, w8, hG =>
    rw [tF_5 hG]
    obtain ⟨ja, Ga, rfl, hja, hGa, hda⟩ := w5 (by decide)
    have cja : (nI ja).toNatClampNeg = ja := nI_clamp (by omega)
    refine mg_tableOut (tgt := 295) d_Mo_turn_31 (by decide) (by decide) ?_
    first | refine mg_aload_n d_Mo_turn_295 rfl rfl ?_ | refine mg_aload_nN d_Mo_turn_295 rfl rfl ?_
    refine mg_getfield fl_Mo_52 d_Mo_turn_296 (by first | assumption | exact mg_up_s _ _ _ | (rw [mg_up_n _ _ (by decide)]; first | assumption | exact mg_up_s _ _ _ | (rw [mg_up_n _ _ (by decide)]; first | assumption | exact mg_up_s _ _ _ | (rw [mg_up_n _ _ (by decide)]; first | assumption | exact mg_up_s _ _ _ | (rw [mg_up_n _ _ (by decide)]; first | assumption | exact mg_up_s _ _ _ | (rw [mg_up_n _ _ (by decide)]; first | assumption | exact mg_up_s _ _ _ | (rw [mg_up_n _ _ (by decide)]; first | assumption | exact mg_up_s _ _ _))))))) rfl ?_
    refine mg_iload_n d_Mo_turn_299 rfl rfl ?_
    refine mg_iaload rfl d_Mo_turn_300 (by first | assumption | exact mg_up_s _ _ _ | (rw [mg_up_n _ _ (by decide)]; first | assumption | exact mg_up_s _ _ _ | (rw [mg_up_n _ _ (by decide)]; first | assumption | exact mg_up_s _ _ _ | (rw [mg_up_n _ _ (by decide)]; first | assumption | exact mg_up_s _ _ _ | (rw [mg_up_n _ _ (by decide)]; first | assumption | exact mg_up_s _ _ _ | (rw [mg_up_n _ _ (by decide)]; first | assumption | exact mg_up_s _ _ _ | (rw [mg_up_n _ _ (by decide)]; first | assumption | exact mg_up_s _ _ _))))))) hink ?_
    refine mg_eqi (y := nI a) (by rw [nI_clamp (by omega)]; exact t4) ?_
    refine mg_istore d_Mo_turn_301 (Nat.le_of_ble_eq_true rfl) rfl ?_
    by_cases hs12 : s0 + 1 = 2
    · rw [if_neg (by rw [hs12]; decide), if_pos hs12]
      rw [hs12] at h'
      refine lp_Mo_add (R := raiseL σ.2.1 a q) (τ := σ.2.2) rfl hl (fun M3 h3 hm3 => ?_) (σ.2.1.length + 1) a M1 σ.2.1 (by omega) hal h' hm1 rfl
      exact tu_5 hl (s1 := 2) h3 siR.rf hm3 (fun e => absurd e (by decide)) (fun _ => rfl) hR
    · refine tu_5s (p := nI ja) h' hl hs12 ?_
      by_cases hs11 : s0 + 1 = 1
      · rw [if_pos hs11, cja]
        exact tu_5 (j := ja) hl h' siR.rf hm1 (fun _ => rfl) (fun e => absurd hs11 e) hR
      · rw [if_neg hs11, if_neg hs12]
        exact tu_5 hl h' siR.rf hm1 (fun e => absurd e hs11) (fun _ => rfl) hR
  | kd + 6, w1, _, _, _, _, _, _ => exact absurd w1 (by omega)

