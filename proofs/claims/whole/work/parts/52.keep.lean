/-! THE REFERENCE's stack: a frame is (generator, stage, count, start) -/
abbrev fR : Type := Nat × Int32 × Int32 × Nat
def stk (pi sg co sa : Nat → Int32) : List fR → Prop
  | [] => True
  | (g, s, c, a) :: r => pi r.length = nI g ∧ sg r.length = s ∧ co r.length = c ∧ sa r.length = nI a ∧ stk pi sg co sa r
theorem stk_congr {pi sg co sa pi' sg' co' sa' : Nat → Int32} : ∀ (fr : List fR), (∀ j, j < fr.length → pi' j = pi j ∧ sg' j = sg j ∧ co' j = co j ∧ sa' j = sa j) → stk pi sg co sa fr → stk pi' sg' co' sa' fr
  | [], _, _ => trivial
  | (g, s, c, a) :: r, h, ⟨h1, h2, h3, h4, h5⟩ => by
    obtain ⟨e1, e2, e3, e4⟩ := h r.length (by simp)
    exact ⟨e1.trans h1, e2.trans h2, e3.trans h3, e4.trans h4, stk_congr r (fun j hj => h j (by simp; omega)) h5⟩
def isMR (M : mg_M) (si : Nat → Int32) (s : Int64) (md : dM) (σ : dS) (fr : List fR) : Prop := isRun M si σ.2.2.2.1 s md σ ∧ si 25 = nI fr.length ∧ ∃ pi sg co sa, isSt M pi sg co sa ∧ stk pi sg co sa fr
def isGM (M : mg_M) (gs : List gN) : Prop := ∃ f1 f2 f3 f4 : Nat → Int32, M 1001 = some (iaE 20 f1) ∧ M 1002 = some (iaE 20 f2) ∧ M 1003 = some (iaE 20 f3) ∧ M 1004 = some (iaE 20 f4) ∧ ∀ (i : Nat) (g : gN), gs[i]? = some g → f1 i = nI g.1 ∧ f2 i = g.2.1 ∧ f3 i = g.2.2.1 ∧ f4 i = nI g.2.2.2
def okF (gs : List gN) : Nat → List fR → Prop
  | _, [] => True
  | b, (g, _, _, a) :: r => (∃ G, gs[g]? = some G ∧ G.2.2.2 + r.length ≤ 8) ∧ a ≤ b ∧ okF gs a r
theorem okF_mono {gs : List gN} : ∀ {fr : List fR} {a b : Nat}, a ≤ b → okF gs a fr → okF gs b fr
  | [], _, _, _, _ => trivial
  | (_, _, _, _) :: _, _, _, h, ⟨h1, h2, h3⟩ => ⟨h1, Nat.le_trans h2 h, h3⟩
def nwF (g : Nat) (σ : dS) : fR := (g, 0, 0, σ.2.1.length)
def sumI (n : Int32) (l : List Int32) : Int32 := l.foldl (fun n x => n + x) n
/-- one turn of the reference's loop -/
def turnF (gs : List gN) (md : dM) (σ : dS) (fr : List fR) : dS × List fR := match fr with
  | [] => (σ, [])
  | (g, s, c, a) :: r => match gs[g]? with
    | none => (σ, r)
    | some (0, p, q, _) => (numF (drawF md σ (q - p) (spanF md.2.2 (q - p))).2 (p + (drawF md σ (q - p) (spanF md.2.2 (q - p))).1), r)
    | some (1, p, q, _) => if c = q then (σ, r) else if (drawF md σ 1 2).1 = 0 then ((drawF md σ 1 2).2, r) else ((drawF md σ 1 2).2, nwF p.toNatClampNeg (drawF md σ 1 2).2 :: (g, s + 1, c + 1, a) :: r)
    | some (2, p, q, _) => if s + 1 < 3 then (σ, nwF (if s + 1 = 1 then p else q).toNatClampNeg σ :: (g, s + 1, c, a) :: r) else (σ, r)
    | some (3, p, q, _) => if s + 1 = 1 then ((drawF md σ 1 2).2, nwF (if (drawF md σ 1 2).1 = 0 then p else q).toNatClampNeg (drawF md σ 1 2).2 :: (g, s + 1, c, a) :: r) else (σ, r)
    | some (4, p, q, _) => if 1 < s + 1 ∧ sumI 0 (σ.2.1.drop a) &&& 1 = q then (σ, r) else if s + 1 = 4 then (illF (cutF σ a), (g, s + 1, c, a) :: r) else (cutF σ a, nwF p.toNatClampNeg (cutF σ a) :: (g, s + 1, c, a) :: r)
    | some (_, p, q, _) => if s + 1 = 1 then (σ, nwF p.toNatClampNeg σ :: (g, s + 1, c, a) :: r) else (if s + 1 = 2 then raiseF σ a q else σ, r)
def siR (si si' : Nat → Int32) : Prop := ∀ k, k ≠ 11 → k ≠ 12 → k ≠ 15 → k ≠ 25 → si' k = si k
theorem siR.rf {si : Nat → Int32} : siR si si := fun _ _ _ _ _ => rfl
theorem siR.tr {a b c : Nat → Int32} (h : siR a b) (h' : siR b c) : siR a c := fun k h1 h2 h3 h4 => (h' k h1 h2 h3 h4).trans (h k h1 h2 h3 h4)
theorem siR.up {a b : Nat → Int32} {n : Nat} {v : Int32} (h : siR a b) (hn : n = 11 ∨ n = 12 ∨ n = 15 ∨ n = 25) : siR a (upd b n v) := fun k h1 h2 h3 h4 => (pk_un (by omega)).trans (h k h1 h2 h3 h4)
def smR (M M' : mg_M) : Prop := ∀ k, k ≠ 1000 → (k < 1009 ∨ 1016 ≤ k) → M' k = M k
theorem smR.rf {M : mg_M} : smR M M := fun _ _ _ => rfl
theorem smR.tr {a b c : mg_M} (h : smR a b) (h' : smR b c) : smR a c := fun k h1 h2 => (h' k h1 h2).trans (h k h1 h2)
theorem smR.up {a b : mg_M} {n : Nat} {e : va_E} (h : smR a b) (hn : n = 1000 ∨ (1009 ≤ n ∧ n < 1016)) : smR a (mg_up b n e) := fun k h1 h2 => (mg_up_n _ _ (by omega)).trans (h k h1 h2)
theorem isGM.fr {M M' : mg_M} {gs : List gN} (h : isGM M gs) (hs : smR M M') : isGM M' gs := by
  obtain ⟨f1, f2, f3, f4, e1, e2, e3, e4, e⟩ := h
  exact ⟨f1, f2, f3, f4, by rw [hs _ (by decide) (by decide)]; exact e1, by rw [hs _ (by decide) (by decide)]; exact e2, by rw [hs _ (by decide) (by decide)]; exact e3, by rw [hs _ (by decide) (by decide)]; exact e4, e⟩
theorem isRun.fr {M M' : mg_M} {si si' : Nat → Int32} {x s : Int64} {md : dM} {σ : dS} (h : isRun M si x s md σ) (h0 : M' 1000 = some (moE si' x s)) (hsi : ∀ k, (k = 10 ∨ k = 11 ∨ k = 12 ∨ k = 13 ∨ k = 15 ∨ k = 20) → si' k = si k) (hs : ∀ k, 1008 ≤ k → k < 1012 → M' k = M k) : isRun M' si' x s md σ := by
  obtain ⟨a1, a2, a3, a4, a5, a6, a7, a8, a9, a10, a11, a12⟩ := h
  exact ⟨h0, (hsi 10 (by decide)).trans a2, (hsi 11 (by decide)).trans a3, (hsi 12 (by decide)).trans a4, fun e => (hsi 13 (by decide)).trans (a5 e), a6, (hsi 15 (by decide)).trans a7, (hsi 20 (by decide)).trans a8, a9.eq (hs _ (by decide) (by decide)), a10.eq (hs _ (by decide) (by decide)), (hs _ (by decide) (by decide)).trans a11, a12.eq (hs _ (by decide) (by decide))⟩
/-- another height -/
theorem isMR.hi {M : mg_M} {si : Nat → Int32} {s : Int64} {md : dM} {σ : dS} {fr fr' : List fR} {v : Int32} (h : isMR M si s md σ fr) (hv : v = nI fr'.length) (hk : ∀ pi sg co sa, stk pi sg co sa fr → stk pi sg co sa fr') : isMR (mg_up M 1000 (moE (upd si 25 v) σ.2.2.2.1 s)) (upd si 25 v) s md σ fr' := by
  subst hv
  obtain ⟨h1, h2, pi, sg, co, sa, ⟨q1, q2, q3, q4⟩, h4⟩ := h
  exact ⟨h1.fr (mg_up_s _ _ _) (fun k hk => pk_un (by omega)) (fun k _ _ => mg_up_n _ _ (by omega)), pk_us, pi, sg, co, sa, ⟨(mg_up_n _ _ (by decide)).trans q1, (mg_up_n _ _ (by decide)).trans q2, (mg_up_n _ _ (by decide)).trans q3, (mg_up_n _ _ (by decide)).trans q4⟩, hk _ _ _ _ h4⟩
theorem stk_tl {pi sg co sa : Nat → Int32} {f : fR} {r : List fR} (h : stk pi sg co sa (f :: r)) : stk pi sg co sa r := h.2.2.2.2
theorem isMR.pop {M : mg_M} {si : Nat → Int32} {s : Int64} {md : dM} {σ : dS} {f : fR} {r : List fR} (h : isMR M si s md σ (f :: r)) : isMR (mg_up M 1000 (moE (upd si 25 (nI r.length)) σ.2.2.2.1 s)) (upd si 25 (nI r.length)) s md σ r := h.hi rfl (fun _ _ _ _ => stk_tl)
/-- the top frame's stage -/
theorem isMR.sg {M : mg_M} {si : Nat → Int32} {s : Int64} {md : dM} {σ : dS} {g a : Nat} {s0 c v : Int32} {r : List fR} {f : Nat → Int32} (h : isMR M si s md σ ((g, s0, c, a) :: r)) (hf : M 1013 = some (iaE 20 f)) : isMR (mg_up M 1013 (iaE 20 (upd f r.length v))) si s md σ ((g, v, c, a) :: r) := by
  obtain ⟨h1, h2, pi, sg, co, sa, ⟨q1, q2, q3, q4⟩, t1, t2, t3, t4, t5⟩ := h
  have e : sg = f := by rw [hf] at q2; exact (Sum.inl.inj (Prod.mk.inj (Prod.mk.inj (Sum.inl.inj (Option.some.inj q2))).2).2).symm
  subst e
  refine ⟨h1.fr ((mg_up_n _ _ (by decide)).trans h1.1) (fun _ _ => rfl) (fun k _ _ => mg_up_n _ _ (by omega)), h2, pi, _, co, sa, ⟨(mg_up_n _ _ (by decide)).trans q1, mg_up_s _ _ _, (mg_up_n _ _ (by decide)).trans q3, (mg_up_n _ _ (by decide)).trans q4⟩, t1, pk_us, t3, t4, stk_congr r (fun j hj => ⟨rfl, pk_un (by omega), rfl, rfl⟩) t5⟩
/-- the top frame's count -/
theorem isMR.co {M : mg_M} {si : Nat → Int32} {s : Int64} {md : dM} {σ : dS} {g a : Nat} {s0 c v : Int32} {r : List fR} {f : Nat → Int32} (h : isMR M si s md σ ((g, s0, c, a) :: r)) (hf : M 1014 = some (iaE 20 f)) : isMR (mg_up M 1014 (iaE 20 (upd f r.length v))) si s md σ ((g, s0, v, a) :: r) := by
  obtain ⟨h1, h2, pi, sg, co, sa, ⟨q1, q2, q3, q4⟩, t1, t2, t3, t4, t5⟩ := h
  have e : co = f := by rw [hf] at q3; exact (Sum.inl.inj (Prod.mk.inj (Prod.mk.inj (Sum.inl.inj (Option.some.inj q3))).2).2).symm
  subst e
  refine ⟨h1.fr ((mg_up_n _ _ (by decide)).trans h1.1) (fun _ _ => rfl) (fun k _ _ => mg_up_n _ _ (by omega)), h2, pi, sg, _, sa, ⟨(mg_up_n _ _ (by decide)).trans q1, (mg_up_n _ _ (by decide)).trans q2, mg_up_s _ _ _, (mg_up_n _ _ (by decide)).trans q4⟩, t1, t2, pk_us, t4, stk_congr r (fun j hj => ⟨rfl, rfl, pk_un (by omega), rfl⟩) t5⟩
/-- a count above the stack -/
theorem isMR.co0 {M : mg_M} {si : Nat → Int32} {s : Int64} {md : dM} {σ : dS} {v : Int32} {r : List fR} {f : Nat → Int32} (h : isMR M si s md σ r) (hf : M 1014 = some (iaE 20 f)) : isMR (mg_up M 1014 (iaE 20 (upd f r.length v))) si s md σ r := by
  obtain ⟨h1, h2, pi, sg, co, sa, ⟨q1, q2, q3, q4⟩, t5⟩ := h
  have e : co = f := by rw [hf] at q3; exact (Sum.inl.inj (Prod.mk.inj (Prod.mk.inj (Sum.inl.inj (Option.some.inj q3))).2).2).symm
  subst e
  refine ⟨h1.fr ((mg_up_n _ _ (by decide)).trans h1.1) (fun _ _ => rfl) (fun k _ _ => mg_up_n _ _ (by omega)), h2, pi, sg, _, sa, ⟨(mg_up_n _ _ (by decide)).trans q1, (mg_up_n _ _ (by decide)).trans q2, mg_up_s _ _ _, (mg_up_n _ _ (by decide)).trans q4⟩, stk_congr r (fun j hj => ⟨rfl, rfl, pk_un (by omega), rfl⟩) t5⟩
/-- a draw -/
theorem isMR.dr {M M' : mg_M} {si : Nat → Int32} {s : Int64} {md : dM} {σ : dS} {fr : List fR} {r : Int32 × dS} {v : Option Value} (h : isMR M si s md σ fr) (hd : drP M si s md r v M') : v = some (.int r.1) ∧ ∃ si', isMR M' si' s md r.2 fr ∧ siR si si' ∧ smR M M' := by
  obtain ⟨h1, h2, pi, sg, co, sa, ⟨q1, q2, q3, q4⟩, t5⟩ := h
  obtain ⟨e, si', d1, d2, d3⟩ := hd
  exact ⟨e, si', ⟨d1, (d2 25 (by decide) (by decide)).trans h2, pi, sg, co, sa, ⟨(d3 _ (by decide) (by decide) (by decide)).trans q1, (d3 _ (by decide) (by decide) (by decide)).trans q2, (d3 _ (by decide) (by decide) (by decide)).trans q3, (d3 _ (by decide) (by decide) (by decide)).trans q4⟩, t5⟩, fun k k1 _ k3 _ => d2 k k1 k3, fun k k1 k2 => d3 k k1 (by omega) (by omega)⟩
/-- what a turn leaves -/
def tuP (M : mg_M) (si : Nat → Int32) (s : Int64) (md : dM) (T : dS × List fR) : Option Value → mg_M → Prop := fun v M' => v = none ∧ ∃ si', isMR M' si' s md T.1 T.2 ∧ siR si si' ∧ smR M M'
theorem isMR.st {M : mg_M} {si : Nat → Int32} {s : Int64} {md : dM} {σ : dS} {fr : List fR} {g : Nat} (h : isMR M si s md σ fr) (pi sg co sa : Nat → Int32) (hS : isSt M pi sg co sa) (hk : stk pi sg co sa fr) : isMR (mg_up (mg_up (mg_up (mg_up (mg_up M 1012 (iaE 20 (upd pi fr.length (nI g)))) 1013 (iaE 20 (upd sg fr.length 0))) 1014 (iaE 20 (upd co fr.length 0))) 1015 (iaE 20 (upd sa fr.length (si 12)))) 1000 (moE (upd si 25 (nI (fr.length + 1))) σ.2.2.2.1 s)) (upd si 25 (nI (fr.length + 1))) s md σ (nwF g σ :: fr) := by
  obtain ⟨h1, h2, -⟩ := h
  refine ⟨h1.fr (mg_up_s _ _ _) (fun k hk => pk_un (by omega)) (fun k _ _ => ?_), pk_us, upd pi fr.length (nI g), upd sg fr.length 0, upd co fr.length 0, upd sa fr.length (si 12), ⟨?_, ?_, ?_, ?_⟩, pk_us, pk_us, pk_us, ?_, stk_congr fr (fun j hj => ⟨pk_un (by omega), pk_un (by omega), pk_un (by omega), pk_un (by omega)⟩) hk⟩
  · rw [mg_up_n _ _ (by omega), mg_up_n _ _ (by omega), mg_up_n _ _ (by omega), mg_up_n _ _ (by omega), mg_up_n _ _ (by omega)]
  · exact (mg_up_n _ _ (by decide)).trans ((mg_up_n _ _ (by decide)).trans ((mg_up_n _ _ (by decide)).trans ((mg_up_n _ _ (by decide)).trans (mg_up_s _ _ _))))
  · exact (mg_up_n _ _ (by decide)).trans ((mg_up_n _ _ (by decide)).trans ((mg_up_n _ _ (by decide)).trans (mg_up_s _ _ _)))
  · exact (mg_up_n _ _ (by decide)).trans ((mg_up_n _ _ (by decide)).trans (mg_up_s _ _ _))
  · exact (mg_up_n _ _ (by decide)).trans (mg_up_s _ _ _)
  · rw [pk_us]; exact h1.2.2.2.1

set_option maxHeartbeats 4000000 in
set_option maxRecDepth 100000 in
theorem c_Mo_push2 {M : mg_M} {si : Nat → Int32} {s : Int64} {md : dM} {σ : dS} {fr : List fR} {g : Nat} (h : isMR M si s md σ fr) (hl : fr.length < 20) : mg_Ct Y_Mo_push { frames := 0, cells := 0, slots := 0, locals := 0 } [.ref 1000, .int (nI g)] M (tuP M si s md (σ, nwF g σ :: fr)) := by
  obtain ⟨h1, hh, pi, sg, co, sa, ⟨q1, q2, q3, q4⟩, hk⟩ := id h
  have hO := h1.1
  have hin : vp_in (si 25) 20 := by rw [hh]; exact vp_in_nI hl (by decide)
  refine mg_met [some (.ref 1000), some (.int (nI g))] (by decide +kernel) rfl (Nat.le_of_ble_eq_true rfl) ?_
  intro X hR _
  first | refine mg_aload_n d_Mo_push_0 rfl rfl ?_ | refine mg_aload_nN d_Mo_push_0 rfl rfl ?_
  refine mg_getfield fl_Mo_43 d_Mo_push_1 (by first | assumption | exact mg_up_s _ _ _ | (rw [mg_up_n _ _ (by decide)]; first | assumption | exact mg_up_s _ _ _ | (rw [mg_up_n _ _ (by decide)]; first | assumption | exact mg_up_s _ _ _ | (rw [mg_up_n _ _ (by decide)]; first | assumption | exact mg_up_s _ _ _ | (rw [mg_up_n _ _ (by decide)]; first | assumption | exact mg_up_s _ _ _ | (rw [mg_up_n _ _ (by decide)]; first | assumption | exact mg_up_s _ _ _ | (rw [mg_up_n _ _ (by decide)]; first | assumption | exact mg_up_s _ _ _))))))) rfl ?_
  first | refine mg_aload_n d_Mo_push_4 rfl rfl ?_ | refine mg_aload_nN d_Mo_push_4 rfl rfl ?_
  refine mg_getfield fl_Mo_121 d_Mo_push_5 (by first | assumption | exact mg_up_s _ _ _ | (rw [mg_up_n _ _ (by decide)]; first | assumption | exact mg_up_s _ _ _ | (rw [mg_up_n _ _ (by decide)]; first | assumption | exact mg_up_s _ _ _ | (rw [mg_up_n _ _ (by decide)]; first | assumption | exact mg_up_s _ _ _ | (rw [mg_up_n _ _ (by decide)]; first | assumption | exact mg_up_s _ _ _ | (rw [mg_up_n _ _ (by decide)]; first | assumption | exact mg_up_s _ _ _ | (rw [mg_up_n _ _ (by decide)]; first | assumption | exact mg_up_s _ _ _))))))) rfl ?_
  refine mg_iload_n d_Mo_push_8 rfl rfl ?_
  refine mg_iastore rfl d_Mo_push_9 (by first | assumption | exact mg_up_s _ _ _ | (rw [mg_up_n _ _ (by decide)]; first | assumption | exact mg_up_s _ _ _ | (rw [mg_up_n _ _ (by decide)]; first | assumption | exact mg_up_s _ _ _ | (rw [mg_up_n _ _ (by decide)]; first | assumption | exact mg_up_s _ _ _ | (rw [mg_up_n _ _ (by decide)]; first | assumption | exact mg_up_s _ _ _ | (rw [mg_up_n _ _ (by decide)]; first | assumption | exact mg_up_s _ _ _ | (rw [mg_up_n _ _ (by decide)]; first | assumption | exact mg_up_s _ _ _))))))) hin ?_
  refine mg_eqM (M' := mg_up M 1012 (iaE 20 (upd pi fr.length (nI g)))) (by rw [hh, nI_clamp (by omega : fr.length < 2 ^ 31)]) ?_
  first | refine mg_aload_n d_Mo_push_10 rfl rfl ?_ | refine mg_aload_nN d_Mo_push_10 rfl rfl ?_
  refine mg_getfield fl_Mo_46 d_Mo_push_11 (by first | assumption | exact mg_up_s _ _ _ | (rw [mg_up_n _ _ (by decide)]; first | assumption | exact mg_up_s _ _ _ | (rw [mg_up_n _ _ (by decide)]; first | assumption | exact mg_up_s _ _ _ | (rw [mg_up_n _ _ (by decide)]; first | assumption | exact mg_up_s _ _ _ | (rw [mg_up_n _ _ (by decide)]; first | assumption | exact mg_up_s _ _ _ | (rw [mg_up_n _ _ (by decide)]; first | assumption | exact mg_up_s _ _ _ | (rw [mg_up_n _ _ (by decide)]; first | assumption | exact mg_up_s _ _ _))))))) rfl ?_
  first | refine mg_aload_n d_Mo_push_14 rfl rfl ?_ | refine mg_aload_nN d_Mo_push_14 rfl rfl ?_
  refine mg_getfield fl_Mo_121 d_Mo_push_15 (by first | assumption | exact mg_up_s _ _ _ | (rw [mg_up_n _ _ (by decide)]; first | assumption | exact mg_up_s _ _ _ | (rw [mg_up_n _ _ (by decide)]; first | assumption | exact mg_up_s _ _ _ | (rw [mg_up_n _ _ (by decide)]; first | assumption | exact mg_up_s _ _ _ | (rw [mg_up_n _ _ (by decide)]; first | assumption | exact mg_up_s _ _ _ | (rw [mg_up_n _ _ (by decide)]; first | assumption | exact mg_up_s _ _ _ | (rw [mg_up_n _ _ (by decide)]; first | assumption | exact mg_up_s _ _ _))))))) rfl ?_
  refine mg_iconst (v := 0) d_Mo_push_18 (by decide) ?_
  refine mg_iastore rfl d_Mo_push_19 (by first | assumption | exact mg_up_s _ _ _ | (rw [mg_up_n _ _ (by decide)]; first | assumption | exact mg_up_s _ _ _ | (rw [mg_up_n _ _ (by decide)]; first | assumption | exact mg_up_s _ _ _ | (rw [mg_up_n _ _ (by decide)]; first | assumption | exact mg_up_s _ _ _ | (rw [mg_up_n _ _ (by decide)]; first | assumption | exact mg_up_s _ _ _ | (rw [mg_up_n _ _ (by decide)]; first | assumption | exact mg_up_s _ _ _ | (rw [mg_up_n _ _ (by decide)]; first | assumption | exact mg_up_s _ _ _))))))) hin ?_
  refine mg_eqM (M' := mg_up (mg_up M 1012 (iaE 20 (upd pi fr.length (nI g)))) 1013 (iaE 20 (upd sg fr.length 0))) (by rw [hh, nI_clamp (by omega : fr.length < 2 ^ 31)]) ?_
  first | refine mg_aload_n d_Mo_push_20 rfl rfl ?_ | refine mg_aload_nN d_Mo_push_20 rfl rfl ?_
  refine mg_getfield fl_Mo_49 d_Mo_push_21 (by first | assumption | exact mg_up_s _ _ _ | (rw [mg_up_n _ _ (by decide)]; first | assumption | exact mg_up_s _ _ _ | (rw [mg_up_n _ _ (by decide)]; first | assumption | exact mg_up_s _ _ _ | (rw [mg_up_n _ _ (by decide)]; first | assumption | exact mg_up_s _ _ _ | (rw [mg_up_n _ _ (by decide)]; first | assumption | exact mg_up_s _ _ _ | (rw [mg_up_n _ _ (by decide)]; first | assumption | exact mg_up_s _ _ _ | (rw [mg_up_n _ _ (by decide)]; first | assumption | exact mg_up_s _ _ _))))))) rfl ?_
  first | refine mg_aload_n d_Mo_push_24 rfl rfl ?_ | refine mg_aload_nN d_Mo_push_24 rfl rfl ?_
  refine mg_getfield fl_Mo_121 d_Mo_push_25 (by first | assumption | exact mg_up_s _ _ _ | (rw [mg_up_n _ _ (by decide)]; first | assumption | exact mg_up_s _ _ _ | (rw [mg_up_n _ _ (by decide)]; first | assumption | exact mg_up_s _ _ _ | (rw [mg_up_n _ _ (by decide)]; first | assumption | exact mg_up_s _ _ _ | (rw [mg_up_n _ _ (by decide)]; first | assumption | exact mg_up_s _ _ _ | (rw [mg_up_n _ _ (by decide)]; first | assumption | exact mg_up_s _ _ _ | (rw [mg_up_n _ _ (by decide)]; first | assumption | exact mg_up_s _ _ _))))))) rfl ?_
  refine mg_iconst (v := 0) d_Mo_push_28 (by decide) ?_
  refine mg_iastore rfl d_Mo_push_29 (by first | assumption | exact mg_up_s _ _ _ | (rw [mg_up_n _ _ (by decide)]; first | assumption | exact mg_up_s _ _ _ | (rw [mg_up_n _ _ (by decide)]; first | assumption | exact mg_up_s _ _ _ | (rw [mg_up_n _ _ (by decide)]; first | assumption | exact mg_up_s _ _ _ | (rw [mg_up_n _ _ (by decide)]; first | assumption | exact mg_up_s _ _ _ | (rw [mg_up_n _ _ (by decide)]; first | assumption | exact mg_up_s _ _ _ | (rw [mg_up_n _ _ (by decide)]; first | assumption | exact mg_up_s _ _ _))))))) hin ?_
  refine mg_eqM (M' := mg_up (mg_up (mg_up M 1012 (iaE 20 (upd pi fr.length (nI g)))) 1013 (iaE 20 (upd sg fr.length 0))) 1014 (iaE 20 (upd co fr.length 0))) (by rw [hh, nI_clamp (by omega : fr.length < 2 ^ 31)]) ?_
  first | refine mg_aload_n d_Mo_push_30 rfl rfl ?_ | refine mg_aload_nN d_Mo_push_30 rfl rfl ?_
  refine mg_getfield fl_Mo_52 d_Mo_push_31 (by first | assumption | exact mg_up_s _ _ _ | (rw [mg_up_n _ _ (by decide)]; first | assumption | exact mg_up_s _ _ _ | (rw [mg_up_n _ _ (by decide)]; first | assumption | exact mg_up_s _ _ _ | (rw [mg_up_n _ _ (by decide)]; first | assumption | exact mg_up_s _ _ _ | (rw [mg_up_n _ _ (by decide)]; first | assumption | exact mg_up_s _ _ _ | (rw [mg_up_n _ _ (by decide)]; first | assumption | exact mg_up_s _ _ _ | (rw [mg_up_n _ _ (by decide)]; first | assumption | exact mg_up_s _ _ _))))))) rfl ?_
  first | refine mg_aload_n d_Mo_push_34 rfl rfl ?_ | refine mg_aload_nN d_Mo_push_34 rfl rfl ?_
  refine mg_getfield fl_Mo_121 d_Mo_push_35 (by first | assumption | exact mg_up_s _ _ _ | (rw [mg_up_n _ _ (by decide)]; first | assumption | exact mg_up_s _ _ _ | (rw [mg_up_n _ _ (by decide)]; first | assumption | exact mg_up_s _ _ _ | (rw [mg_up_n _ _ (by decide)]; first | assumption | exact mg_up_s _ _ _ | (rw [mg_up_n _ _ (by decide)]; first | assumption | exact mg_up_s _ _ _ | (rw [mg_up_n _ _ (by decide)]; first | assumption | exact mg_up_s _ _ _ | (rw [mg_up_n _ _ (by decide)]; first | assumption | exact mg_up_s _ _ _))))))) rfl ?_
  first | refine mg_aload_n d_Mo_push_38 rfl rfl ?_ | refine mg_aload_nN d_Mo_push_38 rfl rfl ?_
  refine mg_getfield fl_Mo_124 d_Mo_push_39 (by first | assumption | exact mg_up_s _ _ _ | (rw [mg_up_n _ _ (by decide)]; first | assumption | exact mg_up_s _ _ _ | (rw [mg_up_n _ _ (by decide)]; first | assumption | exact mg_up_s _ _ _ | (rw [mg_up_n _ _ (by decide)]; first | assumption | exact mg_up_s _ _ _ | (rw [mg_up_n _ _ (by decide)]; first | assumption | exact mg_up_s _ _ _ | (rw [mg_up_n _ _ (by decide)]; first | assumption | exact mg_up_s _ _ _ | (rw [mg_up_n _ _ (by decide)]; first | assumption | exact mg_up_s _ _ _))))))) rfl ?_
  refine mg_iastore rfl d_Mo_push_42 (by first | assumption | exact mg_up_s _ _ _ | (rw [mg_up_n _ _ (by decide)]; first | assumption | exact mg_up_s _ _ _ | (rw [mg_up_n _ _ (by decide)]; first | assumption | exact mg_up_s _ _ _ | (rw [mg_up_n _ _ (by decide)]; first | assumption | exact mg_up_s _ _ _ | (rw [mg_up_n _ _ (by decide)]; first | assumption | exact mg_up_s _ _ _ | (rw [mg_up_n _ _ (by decide)]; first | assumption | exact mg_up_s _ _ _ | (rw [mg_up_n _ _ (by decide)]; first | assumption | exact mg_up_s _ _ _))))))) hin ?_
  refine mg_eqM (M' := mg_up (mg_up (mg_up (mg_up M 1012 (iaE 20 (upd pi fr.length (nI g)))) 1013 (iaE 20 (upd sg fr.length 0))) 1014 (iaE 20 (upd co fr.length 0))) 1015 (iaE 20 (upd sa fr.length (si 12)))) (by rw [hh, nI_clamp (by omega : fr.length < 2 ^ 31)]) ?_
  first | refine mg_aload_n d_Mo_push_43 rfl rfl ?_ | refine mg_aload_nN d_Mo_push_43 rfl rfl ?_
  refine mg_dup d_Mo_push_44 rfl ?_
  refine mg_getfield fl_Mo_121 d_Mo_push_45 (by first | assumption | exact mg_up_s _ _ _ | (rw [mg_up_n _ _ (by decide)]; first | assumption | exact mg_up_s _ _ _ | (rw [mg_up_n _ _ (by decide)]; first | assumption | exact mg_up_s _ _ _ | (rw [mg_up_n _ _ (by decide)]; first | assumption | exact mg_up_s _ _ _ | (rw [mg_up_n _ _ (by decide)]; first | assumption | exact mg_up_s _ _ _ | (rw [mg_up_n _ _ (by decide)]; first | assumption | exact mg_up_s _ _ _ | (rw [mg_up_n _ _ (by decide)]; first | assumption | exact mg_up_s _ _ _))))))) rfl ?_
  refine mg_iconst (v := 1) d_Mo_push_48 (by decide) ?_
  refine mg_iadd d_Mo_push_49 ?_
  refine mg_putfield (fw_Mo_121 _) d_Mo_push_50 (by first | assumption | exact mg_up_s _ _ _ | (rw [mg_up_n _ _ (by decide)]; first | assumption | exact mg_up_s _ _ _ | (rw [mg_up_n _ _ (by decide)]; first | assumption | exact mg_up_s _ _ _ | (rw [mg_up_n _ _ (by decide)]; first | assumption | exact mg_up_s _ _ _ | (rw [mg_up_n _ _ (by decide)]; first | assumption | exact mg_up_s _ _ _ | (rw [mg_up_n _ _ (by decide)]; first | assumption | exact mg_up_s _ _ _ | (rw [mg_up_n _ _ (by decide)]; first | assumption | exact mg_up_s _ _ _))))))) (Nat.le_of_ble_eq_true rfl) (fun _ => ⟨rfl, rfl⟩) ?_
  refine mg_eqM (M' := mg_up (mg_up (mg_up (mg_up (mg_up M 1012 (iaE 20 (upd pi fr.length (nI g)))) 1013 (iaE 20 (upd sg fr.length 0))) 1014 (iaE 20 (upd co fr.length 0))) 1015 (iaE 20 (upd sa fr.length (si 12)))) 1000 (moE (upd si 25 (nI (fr.length + 1))) σ.2.2.2.1 s)) (by rw [hh, nI_1]; rfl) ?_
  exact mg_return d_Mo_push_53 rfl (Nat.le_of_ble_eq_true rfl) (Nat.le_of_ble_eq_true rfl) ⟨rfl, _, h.st pi sg co sa ⟨q1, q2, q3, q4⟩ hk, siR.rf.up (by decide), ((((smR.rf.up (by decide)).up (by decide)).up (by decide)).up (by decide)).up (by decide)⟩

set_option maxHeartbeats 4000000 in
set_option maxRecDepth 100000 in
theorem lp_Mo_keep {X : mg_X} {M : mg_M} {si : Nat → Int32} {s : Int64} {md : dM} {σ : dS} {fr : List fR} {R : Int32} {Q : State → Prop} {u1 u2 u3 : Int32} (h : isMR M si s md σ fr) (kk : mg_G X Y_Mo_keep Q M 0 0 38 [some (.ref 1000), some (.int u1), some (.int u2), some (.int u3), some (.int R), some (.int (nI σ.2.1.length))] []) : ∀ n : Nat, ∀ (i : Nat) (t : Int32), σ.2.1.length - i < n → i ≤ σ.2.1.length → sumI t (σ.2.1.drop i) = R → mg_G X Y_Mo_keep Q M 0 0 11 [some (.ref 1000), some (.int u1), some (.int u2), some (.int u3), some (.int t), some (.int (nI i))] [] := by
  intro n
  induction n with
  | zero =>
    intro i t hn hi hr
    exact absurd hn (by omega)
  | succ n ih =>
    intro i t hn hi hr
    obtain ⟨a1, a2, a3, a4, a5, a6, a7, a8, a9, a10, a11, ⟨nf, n1, n2, n3⟩⟩ := id h.1
    refine mg_iload d_Mo_keep_11 rfl ?_
    first | refine mg_aload_n d_Mo_keep_13 rfl rfl ?_ | refine mg_aload_nN d_Mo_keep_13 rfl rfl ?_
    refine mg_getfield fl_Mo_124 d_Mo_keep_14 (by first | assumption | exact mg_up_s _ _ _ | (rw [mg_up_n _ _ (by decide)]; first | assumption | exact mg_up_s _ _ _ | (rw [mg_up_n _ _ (by decide)]; first | assumption | exact mg_up_s _ _ _ | (rw [mg_up_n _ _ (by decide)]; first | assumption | exact mg_up_s _ _ _ | (rw [mg_up_n _ _ (by decide)]; first | assumption | exact mg_up_s _ _ _ | (rw [mg_up_n _ _ (by decide)]; first | assumption | exact mg_up_s _ _ _ | (rw [mg_up_n _ _ (by decide)]; first | assumption | exact mg_up_s _ _ _))))))) rfl ?_
    refine mg_icmp_ge (tgt := 38) d_Mo_keep_17 (by decide) (fun c_17 => ?_) (fun c_17 => ?_)
    · have e : i = σ.2.1.length := by
        rw [a4] at c_17
        have := (nI_leI (by omega) (by omega)).mp c_17
        omega
      subst e
      rw [List.drop_of_length_le (Nat.le_refl _)] at hr
      have hr2 : t = R := hr
      subst hr2
      exact kk
    · have hi2 : i < σ.2.1.length := by
        rw [a4] at c_17
        exact Nat.lt_of_not_le (fun q => c_17 (nI_le q (by omega)))
      have hin : vp_in (nI i) 60 := nIw hi2 n2
      refine mg_iload d_Mo_keep_20 rfl ?_
      first | refine mg_aload_n d_Mo_keep_22 rfl rfl ?_ | refine mg_aload_nN d_Mo_keep_22 rfl rfl ?_
      refine mg_getfield fl_Mo_40 d_Mo_keep_23 (by first | assumption | exact mg_up_s _ _ _ | (rw [mg_up_n _ _ (by decide)]; first | assumption | exact mg_up_s _ _ _ | (rw [mg_up_n _ _ (by decide)]; first | assumption | exact mg_up_s _ _ _ | (rw [mg_up_n _ _ (by decide)]; first | assumption | exact mg_up_s _ _ _ | (rw [mg_up_n _ _ (by decide)]; first | assumption | exact mg_up_s _ _ _ | (rw [mg_up_n _ _ (by decide)]; first | assumption | exact mg_up_s _ _ _ | (rw [mg_up_n _ _ (by decide)]; first | assumption | exact mg_up_s _ _ _))))))) rfl ?_
      refine mg_iload d_Mo_keep_26 rfl ?_
      refine mg_iaload rfl d_Mo_keep_28 (by first | assumption | exact mg_up_s _ _ _ | (rw [mg_up_n _ _ (by decide)]; first | assumption | exact mg_up_s _ _ _ | (rw [mg_up_n _ _ (by decide)]; first | assumption | exact mg_up_s _ _ _ | (rw [mg_up_n _ _ (by decide)]; first | assumption | exact mg_up_s _ _ _ | (rw [mg_up_n _ _ (by decide)]; first | assumption | exact mg_up_s _ _ _ | (rw [mg_up_n _ _ (by decide)]; first | assumption | exact mg_up_s _ _ _ | (rw [mg_up_n _ _ (by decide)]; first | assumption | exact mg_up_s _ _ _))))))) (by assumption) ?_
      refine mg_eqi (y := σ.2.1.getD i 0) (by rw [nI_clampN (by omega)]; exact n3 i hi2) ?_
      refine mg_iadd d_Mo_keep_29 ?_
      refine mg_istore d_Mo_keep_30 (Nat.le_of_ble_eq_true rfl) rfl ?_
      refine mg_iinc (v := nI (i + 1)) d_Mo_keep_32 rfl (nI_1 _) (Nat.le_of_ble_eq_true rfl) rfl ?_
      refine mg_goto (tgt := 11) d_Mo_keep_35 (by decide) ?_
      refine ih (i + 1) _ (by omega) (by omega) ?_
      rw [drop_cons hi2] at hr
      exact hr

theorem isMR.cut {M : mg_M} {si : Nat → Int32} {s : Int64} {md : dM} {σ : dS} {fr : List fR} {a : Nat} (h : isMR M si s md σ fr) (ha : a ≤ σ.2.1.length) : isMR (mg_up M 1000 (moE (upd si 12 (nI a)) σ.2.2.2.1 s)) (upd si 12 (nI a)) s md (cutF σ a) fr := by
  obtain ⟨⟨a1, a2, a3, a4, a5, a6, a7, a8, a9, a10, a11, nf, n1, n2, n3⟩, hh, pi, sg, co, sa, ⟨q1, q2, q3, q4⟩, hk⟩ := h
  have hl : (σ.2.1.take a).length = a := by rw [List.length_take]; omega
  refine ⟨⟨mg_up_s _ _ _, a2, a3, ?_, a5, rfl, a7, a8, a9.eq (mg_up_n _ _ (by decide)), a10.eq (mg_up_n _ _ (by decide)), (mg_up_n _ _ (by decide)).trans a11, nf, (mg_up_n _ _ (by decide)).trans n1, ?_, ?_⟩, hh, pi, sg, co, sa, ⟨(mg_up_n _ _ (by decide)).trans q1, (mg_up_n _ _ (by decide)).trans q2, (mg_up_n _ _ (by decide)).trans q3, (mg_up_n _ _ (by decide)).trans q4⟩, hk⟩
  · show upd si 12 (nI a) 12 = nI (σ.2.1.take a).length
    rw [pk_us, hl]
  · show (σ.2.1.take a).length ≤ 60
    omega
  · intro j hj
    have hj2 : j < (σ.2.1.take a).length := hj
    show nf j = (σ.2.1.take a).getD j 0
    rw [hl] at hj2
    rw [n3 j (by omega), List.getD_eq_getElem?_getD, List.getD_eq_getElem?_getD, List.getElem?_take_of_lt hj2]
theorem isMR.ill {M : mg_M} {si : Nat → Int32} {s : Int64} {md : dM} {σ : dS} {fr : List fR} (h : isMR M si s md σ fr) : isMR (mg_up M 1000 (moE (upd si 15 1) σ.2.2.2.1 s)) (upd si 15 1) s md (illF σ) fr := by
  obtain ⟨⟨a1, a2, a3, a4, a5, a6, a7, a8, a9, a10, a11, a12⟩, hh, pi, sg, co, sa, ⟨q1, q2, q3, q4⟩, hk⟩ := h
  exact ⟨⟨mg_up_s _ _ _, a2, a3, a4, a5, rfl, rfl, a8, a9.eq (mg_up_n _ _ (by decide)), a10.eq (mg_up_n _ _ (by decide)), (mg_up_n _ _ (by decide)).trans a11, a12.eq (mg_up_n _ _ (by decide))⟩, hh, pi, sg, co, sa, ⟨(mg_up_n _ _ (by decide)).trans q1, (mg_up_n _ _ (by decide)).trans q2, (mg_up_n _ _ (by decide)).trans q3, (mg_up_n _ _ (by decide)).trans q4⟩, hk⟩

set_option maxHeartbeats 4000000 in
set_option maxRecDepth 100000 in
theorem c_Mo_keep {M0 M : mg_M} {si : Nat → Int32} {s : Int64} {md : dM} {σ : dS} {g a p : Nat} {s1 c q : Int32} {r : List fR} (h : isMR M si s md σ ((g, s1, c, a) :: r)) (hl : r.length < 19) (hal : a ≤ σ.2.1.length) (hil : σ.2.2.1 = false) (hM0 : smR M0 M) : mg_Ct Y_Mo_keep { frames := 1, cells := 0, slots := 0, locals := 21 } [.ref 1000, .int (nI r.length), .int (nI p), .int q] M (tuP M0 si s md (if 1 < s1 ∧ sumI 0 (σ.2.1.drop a) &&& 1 = q then (σ, r) else if s1 = 4 then (illF (cutF σ a), (g, s1, c, a) :: r) else (cutF σ a, nwF p (cutF σ a) :: (g, s1, c, a) :: r))) := by
  obtain ⟨a1, a2, a3, a4, a5, a6, a7, a8, a9, a10, a11, ⟨nf, n1, n2, n3⟩⟩ := id h.1
  obtain ⟨-, hh, pi, sg, co, sa, ⟨q1, q2, q3, q4⟩, t1, t2, t3, t4, t5⟩ := id h
  have hin : vp_in (nI r.length) 20 := vp_in_nI (by omega) (by decide)
  have n2b : σ.2.1.length ≤ 60 := n2
  refine mg_met [some (.ref 1000), some (.int (nI r.length)), some (.int (nI p)), some (.int q), none, none] (by decide +kernel) rfl (Nat.le_of_ble_eq_true rfl) ?_
  intro X hR _
  refine mg_iconst (v := 0) d_Mo_keep_0 (by decide) ?_
  refine mg_istore d_Mo_keep_1 (Nat.le_of_ble_eq_true rfl) rfl ?_
  first | refine mg_aload_n d_Mo_keep_3 rfl rfl ?_ | refine mg_aload_nN d_Mo_keep_3 rfl rfl ?_
  refine mg_getfield fl_Mo_52 d_Mo_keep_4 (by first | assumption | exact mg_up_s _ _ _ | (rw [mg_up_n _ _ (by decide)]; first | assumption | exact mg_up_s _ _ _ | (rw [mg_up_n _ _ (by decide)]; first | assumption | exact mg_up_s _ _ _ | (rw [mg_up_n _ _ (by decide)]; first | assumption | exact mg_up_s _ _ _ | (rw [mg_up_n _ _ (by decide)]; first | assumption | exact mg_up_s _ _ _ | (rw [mg_up_n _ _ (by decide)]; first | assumption | exact mg_up_s _ _ _ | (rw [mg_up_n _ _ (by decide)]; first | assumption | exact mg_up_s _ _ _))))))) rfl ?_
  refine mg_iload_n d_Mo_keep_7 rfl rfl ?_
  refine mg_iaload rfl d_Mo_keep_8 (by first | assumption | exact mg_up_s _ _ _ | (rw [mg_up_n _ _ (by decide)]; first | assumption | exact mg_up_s _ _ _ | (rw [mg_up_n _ _ (by decide)]; first | assumption | exact mg_up_s _ _ _ | (rw [mg_up_n _ _ (by decide)]; first | assumption | exact mg_up_s _ _ _ | (rw [mg_up_n _ _ (by decide)]; first | assumption | exact mg_up_s _ _ _ | (rw [mg_up_n _ _ (by decide)]; first | assumption | exact mg_up_s _ _ _ | (rw [mg_up_n _ _ (by decide)]; first | assumption | exact mg_up_s _ _ _))))))) (by assumption) ?_
  refine mg_eqi (y := nI a) (by rw [nI_clamp (by omega)]; exact t4) ?_
  refine mg_istore d_Mo_keep_9 (Nat.le_of_ble_eq_true rfl) rfl ?_
  refine lp_Mo_keep (R := sumI 0 (σ.2.1.drop a)) h ?_ (σ.2.1.length + 1) a 0 (by omega) hal rfl
  first | refine mg_aload_n d_Mo_keep_38 rfl rfl ?_ | refine mg_aload_nN d_Mo_keep_38 rfl rfl ?_
  refine mg_getfield fl_Mo_46 d_Mo_keep_39 (by first | assumption | exact mg_up_s _ _ _ | (rw [mg_up_n _ _ (by decide)]; first | assumption | exact mg_up_s _ _ _ | (rw [mg_up_n _ _ (by decide)]; first | assumption | exact mg_up_s _ _ _ | (rw [mg_up_n _ _ (by decide)]; first | assumption | exact mg_up_s _ _ _ | (rw [mg_up_n _ _ (by decide)]; first | assumption | exact mg_up_s _ _ _ | (rw [mg_up_n _ _ (by decide)]; first | assumption | exact mg_up_s _ _ _ | (rw [mg_up_n _ _ (by decide)]; first | assumption | exact mg_up_s _ _ _))))))) rfl ?_
  refine mg_iload_n d_Mo_keep_42 rfl rfl ?_
  refine mg_iaload rfl d_Mo_keep_43 (by first | assumption | exact mg_up_s _ _ _ | (rw [mg_up_n _ _ (by decide)]; first | assumption | exact mg_up_s _ _ _ | (rw [mg_up_n _ _ (by decide)]; first | assumption | exact mg_up_s _ _ _ | (rw [mg_up_n _ _ (by decide)]; first | assumption | exact mg_up_s _ _ _ | (rw [mg_up_n _ _ (by decide)]; first | assumption | exact mg_up_s _ _ _ | (rw [mg_up_n _ _ (by decide)]; first | assumption | exact mg_up_s _ _ _ | (rw [mg_up_n _ _ (by decide)]; first | assumption | exact mg_up_s _ _ _))))))) (by assumption) ?_
  refine mg_eqi (y := s1) (by rw [nI_clamp (by omega)]; exact t2) ?_
  refine mg_iconst (v := 1) d_Mo_keep_44 (by decide) ?_
  refine mg_icmp_le (tgt := 67) d_Mo_keep_45 (by decide) (fun c_45 => ?_) (fun c_45 => ?_)
  · have hne : ¬ (1 < s1 ∧ sumI 0 (σ.2.1.drop a) &&& 1 = q) := fun e => absurd c_45 (Int32.not_le.mpr e.1)
    first | refine mg_aload_n d_Mo_keep_67 rfl rfl ?_ | refine mg_aload_nN d_Mo_keep_67 rfl rfl ?_
    first | refine mg_aload_n d_Mo_keep_68 rfl rfl ?_ | refine mg_aload_nN d_Mo_keep_68 rfl rfl ?_
    refine mg_getfield fl_Mo_52 d_Mo_keep_69 (by first | assumption | exact mg_up_s _ _ _ | (rw [mg_up_n _ _ (by decide)]; first | assumption | exact mg_up_s _ _ _ | (rw [mg_up_n _ _ (by decide)]; first | assumption | exact mg_up_s _ _ _ | (rw [mg_up_n _ _ (by decide)]; first | assumption | exact mg_up_s _ _ _ | (rw [mg_up_n _ _ (by decide)]; first | assumption | exact mg_up_s _ _ _ | (rw [mg_up_n _ _ (by decide)]; first | assumption | exact mg_up_s _ _ _ | (rw [mg_up_n _ _ (by decide)]; first | assumption | exact mg_up_s _ _ _))))))) rfl ?_
    refine mg_iload_n d_Mo_keep_72 rfl rfl ?_
    refine mg_iaload rfl d_Mo_keep_73 (by first | assumption | exact mg_up_s _ _ _ | (rw [mg_up_n _ _ (by decide)]; first | assumption | exact mg_up_s _ _ _ | (rw [mg_up_n _ _ (by decide)]; first | assumption | exact mg_up_s _ _ _ | (rw [mg_up_n _ _ (by decide)]; first | assumption | exact mg_up_s _ _ _ | (rw [mg_up_n _ _ (by decide)]; first | assumption | exact mg_up_s _ _ _ | (rw [mg_up_n _ _ (by decide)]; first | assumption | exact mg_up_s _ _ _ | (rw [mg_up_n _ _ (by decide)]; first | assumption | exact mg_up_s _ _ _))))))) (by assumption) ?_
    refine mg_eqi (y := nI a) (by rw [nI_clamp (by omega)]; exact t4) ?_
    refine mg_putfield (fw_Mo_124 _) d_Mo_keep_74 (by first | assumption | exact mg_up_s _ _ _ | (rw [mg_up_n _ _ (by decide)]; first | assumption | exact mg_up_s _ _ _ | (rw [mg_up_n _ _ (by decide)]; first | assumption | exact mg_up_s _ _ _ | (rw [mg_up_n _ _ (by decide)]; first | assumption | exact mg_up_s _ _ _ | (rw [mg_up_n _ _ (by decide)]; first | assumption | exact mg_up_s _ _ _ | (rw [mg_up_n _ _ (by decide)]; first | assumption | exact mg_up_s _ _ _ | (rw [mg_up_n _ _ (by decide)]; first | assumption | exact mg_up_s _ _ _))))))) (Nat.le_of_ble_eq_true rfl) (fun _ => ⟨rfl, rfl⟩) ?_
    refine mg_eqM (M' := mg_up M 1000 (moE (upd si 12 (nI a)) σ.2.2.2.1 s)) rfl ?_
    have h' := h.cut hal
    first | refine mg_aload_n d_Mo_keep_77 rfl rfl ?_ | refine mg_aload_nN d_Mo_keep_77 rfl rfl ?_
    refine mg_getfield fl_Mo_46 d_Mo_keep_78 (by first | assumption | exact mg_up_s _ _ _ | (rw [mg_up_n _ _ (by decide)]; first | assumption | exact mg_up_s _ _ _ | (rw [mg_up_n _ _ (by decide)]; first | assumption | exact mg_up_s _ _ _ | (rw [mg_up_n _ _ (by decide)]; first | assumption | exact mg_up_s _ _ _ | (rw [mg_up_n _ _ (by decide)]; first | assumption | exact mg_up_s _ _ _ | (rw [mg_up_n _ _ (by decide)]; first | assumption | exact mg_up_s _ _ _ | (rw [mg_up_n _ _ (by decide)]; first | assumption | exact mg_up_s _ _ _))))))) rfl ?_
    refine mg_iload_n d_Mo_keep_81 rfl rfl ?_
    refine mg_iaload rfl d_Mo_keep_82 (by first | assumption | exact mg_up_s _ _ _ | (rw [mg_up_n _ _ (by decide)]; first | assumption | exact mg_up_s _ _ _ | (rw [mg_up_n _ _ (by decide)]; first | assumption | exact mg_up_s _ _ _ | (rw [mg_up_n _ _ (by decide)]; first | assumption | exact mg_up_s _ _ _ | (rw [mg_up_n _ _ (by decide)]; first | assumption | exact mg_up_s _ _ _ | (rw [mg_up_n _ _ (by decide)]; first | assumption | exact mg_up_s _ _ _ | (rw [mg_up_n _ _ (by decide)]; first | assumption | exact mg_up_s _ _ _))))))) (by assumption) ?_
    refine mg_eqi (y := s1) (by rw [nI_clamp (by omega)]; exact t2) ?_
    refine mg_iconst (v := 4) d_Mo_keep_83 (by decide) ?_
    refine mg_icmp_ne (tgt := 95) d_Mo_keep_84 (by decide) (fun c_84 => ?_) (fun c_84 => ?_)
    · first | refine mg_aload_n d_Mo_keep_95 rfl rfl ?_ | refine mg_aload_nN d_Mo_keep_95 rfl rfl ?_
      refine mg_iload_n d_Mo_keep_96 rfl rfl ?_
      refine mg_callV (vl_Mo_127 rfl) d_Mo_keep_97 (by first | assumption | exact mg_up_s _ _ _ | (rw [mg_up_n _ _ (by decide)]; first | assumption | exact mg_up_s _ _ _ | (rw [mg_up_n _ _ (by decide)]; first | assumption | exact mg_up_s _ _ _ | (rw [mg_up_n _ _ (by decide)]; first | assumption | exact mg_up_s _ _ _ | (rw [mg_up_n _ _ (by decide)]; first | assumption | exact mg_up_s _ _ _ | (rw [mg_up_n _ _ (by decide)]; first | assumption | exact mg_up_s _ _ _ | (rw [mg_up_n _ _ (by decide)]; first | assumption | exact mg_up_s _ _ _))))))) rfl rfl (c_Mo_push2 (g := p) h' (show r.length + 1 < 20 by omega)) rfl rfl (by rw [hR]; decide) (by rw [hR]; decide) (Nat.le_of_ble_eq_true rfl) ?_
      rintro v M2 ⟨rfl, si2, hh2, hs2, hm2⟩
      refine mg_return d_Mo_keep_100 rfl (Nat.le_of_ble_eq_true rfl) (Nat.le_of_ble_eq_true rfl) ?_
      rw [if_neg hne, if_neg c_84]
      exact ⟨rfl, si2, hh2, (siR.rf.up (by decide)).tr hs2, (hM0.up (by decide)).tr hm2⟩
    · first | refine mg_aload_n d_Mo_keep_87 rfl rfl ?_ | refine mg_aload_nN d_Mo_keep_87 rfl rfl ?_
      refine mg_iconst (v := 1) d_Mo_keep_88 (by decide) ?_
      refine mg_putfield (fw_Mo_114 _) d_Mo_keep_89 (by first | assumption | exact mg_up_s _ _ _ | (rw [mg_up_n _ _ (by decide)]; first | assumption | exact mg_up_s _ _ _ | (rw [mg_up_n _ _ (by decide)]; first | assumption | exact mg_up_s _ _ _ | (rw [mg_up_n _ _ (by decide)]; first | assumption | exact mg_up_s _ _ _ | (rw [mg_up_n _ _ (by decide)]; first | assumption | exact mg_up_s _ _ _ | (rw [mg_up_n _ _ (by decide)]; first | assumption | exact mg_up_s _ _ _ | (rw [mg_up_n _ _ (by decide)]; first | assumption | exact mg_up_s _ _ _))))))) (Nat.le_of_ble_eq_true rfl) (fun _ => ⟨rfl, rfl⟩) ?_
      refine mg_goto (tgt := 100) d_Mo_keep_92 (by decide) ?_
      refine mg_return d_Mo_keep_100 rfl (Nat.le_of_ble_eq_true rfl) (Nat.le_of_ble_eq_true rfl) ?_
      rw [if_neg hne, if_pos (show s1 = 4 by first | exact c_84 | exact Decidable.not_not.mp c_84)]
      exact ⟨rfl, _, h'.ill, (siR.rf.up (by decide)).up (by decide), (hM0.up (by decide)).up (by decide)⟩
  · refine mg_iload d_Mo_keep_48 rfl ?_
    refine mg_iconst (v := 1) d_Mo_keep_50 (by decide) ?_
    refine mg_iand d_Mo_keep_51 ?_
    refine mg_iload_n d_Mo_keep_52 rfl rfl ?_
    refine mg_icmp_ne (tgt := 67) d_Mo_keep_53 (by decide) (fun c_53 => ?_) (fun c_53 => ?_)
    · have hne : ¬ (1 < s1 ∧ sumI 0 (σ.2.1.drop a) &&& 1 = q) := fun e => c_53 e.2
      first | refine mg_aload_n d_Mo_keep_67 rfl rfl ?_ | refine mg_aload_nN d_Mo_keep_67 rfl rfl ?_
      first | refine mg_aload_n d_Mo_keep_68 rfl rfl ?_ | refine mg_aload_nN d_Mo_keep_68 rfl rfl ?_
      refine mg_getfield fl_Mo_52 d_Mo_keep_69 (by first | assumption | exact mg_up_s _ _ _ | (rw [mg_up_n _ _ (by decide)]; first | assumption | exact mg_up_s _ _ _ | (rw [mg_up_n _ _ (by decide)]; first | assumption | exact mg_up_s _ _ _ | (rw [mg_up_n _ _ (by decide)]; first | assumption | exact mg_up_s _ _ _ | (rw [mg_up_n _ _ (by decide)]; first | assumption | exact mg_up_s _ _ _ | (rw [mg_up_n _ _ (by decide)]; first | assumption | exact mg_up_s _ _ _ | (rw [mg_up_n _ _ (by decide)]; first | assumption | exact mg_up_s _ _ _))))))) rfl ?_
      refine mg_iload_n d_Mo_keep_72 rfl rfl ?_
      refine mg_iaload rfl d_Mo_keep_73 (by first | assumption | exact mg_up_s _ _ _ | (rw [mg_up_n _ _ (by decide)]; first | assumption | exact mg_up_s _ _ _ | (rw [mg_up_n _ _ (by decide)]; first | assumption | exact mg_up_s _ _ _ | (rw [mg_up_n _ _ (by decide)]; first | assumption | exact mg_up_s _ _ _ | (rw [mg_up_n _ _ (by decide)]; first | assumption | exact mg_up_s _ _ _ | (rw [mg_up_n _ _ (by decide)]; first | assumption | exact mg_up_s _ _ _ | (rw [mg_up_n _ _ (by decide)]; first | assumption | exact mg_up_s _ _ _))))))) (by assumption) ?_
      refine mg_eqi (y := nI a) (by rw [nI_clamp (by omega)]; exact t4) ?_
      refine mg_putfield (fw_Mo_124 _) d_Mo_keep_74 (by first | assumption | exact mg_up_s _ _ _ | (rw [mg_up_n _ _ (by decide)]; first | assumption | exact mg_up_s _ _ _ | (rw [mg_up_n _ _ (by decide)]; first | assumption | exact mg_up_s _ _ _ | (rw [mg_up_n _ _ (by decide)]; first | assumption | exact mg_up_s _ _ _ | (rw [mg_up_n _ _ (by decide)]; first | assumption | exact mg_up_s _ _ _ | (rw [mg_up_n _ _ (by decide)]; first | assumption | exact mg_up_s _ _ _ | (rw [mg_up_n _ _ (by decide)]; first | assumption | exact mg_up_s _ _ _))))))) (Nat.le_of_ble_eq_true rfl) (fun _ => ⟨rfl, rfl⟩) ?_
      refine mg_eqM (M' := mg_up M 1000 (moE (upd si 12 (nI a)) σ.2.2.2.1 s)) rfl ?_
      have h' := h.cut hal
      first | refine mg_aload_n d_Mo_keep_77 rfl rfl ?_ | refine mg_aload_nN d_Mo_keep_77 rfl rfl ?_
      refine mg_getfield fl_Mo_46 d_Mo_keep_78 (by first | assumption | exact mg_up_s _ _ _ | (rw [mg_up_n _ _ (by decide)]; first | assumption | exact mg_up_s _ _ _ | (rw [mg_up_n _ _ (by decide)]; first | assumption | exact mg_up_s _ _ _ | (rw [mg_up_n _ _ (by decide)]; first | assumption | exact mg_up_s _ _ _ | (rw [mg_up_n _ _ (by decide)]; first | assumption | exact mg_up_s _ _ _ | (rw [mg_up_n _ _ (by decide)]; first | assumption | exact mg_up_s _ _ _ | (rw [mg_up_n _ _ (by decide)]; first | assumption | exact mg_up_s _ _ _))))))) rfl ?_
      refine mg_iload_n d_Mo_keep_81 rfl rfl ?_
      refine mg_iaload rfl d_Mo_keep_82 (by first | assumption | exact mg_up_s _ _ _ | (rw [mg_up_n _ _ (by decide)]; first | assumption | exact mg_up_s _ _ _ | (rw [mg_up_n _ _ (by decide)]; first | assumption | exact mg_up_s _ _ _ | (rw [mg_up_n _ _ (by decide)]; first | assumption | exact mg_up_s _ _ _ | (rw [mg_up_n _ _ (by decide)]; first | assumption | exact mg_up_s _ _ _ | (rw [mg_up_n _ _ (by decide)]; first | assumption | exact mg_up_s _ _ _ | (rw [mg_up_n _ _ (by decide)]; first | assumption | exact mg_up_s _ _ _))))))) (by assumption) ?_
      refine mg_eqi (y := s1) (by rw [nI_clamp (by omega)]; exact t2) ?_
      refine mg_iconst (v := 4) d_Mo_keep_83 (by decide) ?_
      refine mg_icmp_ne (tgt := 95) d_Mo_keep_84 (by decide) (fun c_84 => ?_) (fun c_84 => ?_)
      · first | refine mg_aload_n d_Mo_keep_95 rfl rfl ?_ | refine mg_aload_nN d_Mo_keep_95 rfl rfl ?_
        refine mg_iload_n d_Mo_keep_96 rfl rfl ?_
        refine mg_callV (vl_Mo_127 rfl) d_Mo_keep_97 (by first | assumption | exact mg_up_s _ _ _ | (rw [mg_up_n _ _ (by decide)]; first | assumption | exact mg_up_s _ _ _ | (rw [mg_up_n _ _ (by decide)]; first | assumption | exact mg_up_s _ _ _ | (rw [mg_up_n _ _ (by decide)]; first | assumption | exact mg_up_s _ _ _ | (rw [mg_up_n _ _ (by decide)]; first | assumption | exact mg_up_s _ _ _ | (rw [mg_up_n _ _ (by decide)]; first | assumption | exact mg_up_s _ _ _ | (rw [mg_up_n _ _ (by decide)]; first | assumption | exact mg_up_s _ _ _))))))) rfl rfl (c_Mo_push2 (g := p) h' (show r.length + 1 < 20 by omega)) rfl rfl (by rw [hR]; decide) (by rw [hR]; decide) (Nat.le_of_ble_eq_true rfl) ?_
        rintro v M2 ⟨rfl, si2, hh2, hs2, hm2⟩
        refine mg_return d_Mo_keep_100 rfl (Nat.le_of_ble_eq_true rfl) (Nat.le_of_ble_eq_true rfl) ?_
        rw [if_neg hne, if_neg c_84]
        exact ⟨rfl, si2, hh2, (siR.rf.up (by decide)).tr hs2, (hM0.up (by decide)).tr hm2⟩
      · first | refine mg_aload_n d_Mo_keep_87 rfl rfl ?_ | refine mg_aload_nN d_Mo_keep_87 rfl rfl ?_
        refine mg_iconst (v := 1) d_Mo_keep_88 (by decide) ?_
        refine mg_putfield (fw_Mo_114 _) d_Mo_keep_89 (by first | assumption | exact mg_up_s _ _ _ | (rw [mg_up_n _ _ (by decide)]; first | assumption | exact mg_up_s _ _ _ | (rw [mg_up_n _ _ (by decide)]; first | assumption | exact mg_up_s _ _ _ | (rw [mg_up_n _ _ (by decide)]; first | assumption | exact mg_up_s _ _ _ | (rw [mg_up_n _ _ (by decide)]; first | assumption | exact mg_up_s _ _ _ | (rw [mg_up_n _ _ (by decide)]; first | assumption | exact mg_up_s _ _ _ | (rw [mg_up_n _ _ (by decide)]; first | assumption | exact mg_up_s _ _ _))))))) (Nat.le_of_ble_eq_true rfl) (fun _ => ⟨rfl, rfl⟩) ?_
        refine mg_goto (tgt := 100) d_Mo_keep_92 (by decide) ?_
        refine mg_return d_Mo_keep_100 rfl (Nat.le_of_ble_eq_true rfl) (Nat.le_of_ble_eq_true rfl) ?_
        rw [if_neg hne, if_pos (show s1 = 4 by first | exact c_84 | exact Decidable.not_not.mp c_84)]
        exact ⟨rfl, _, h'.ill, (siR.rf.up (by decide)).up (by decide), (hM0.up (by decide)).up (by decide)⟩
    · first | refine mg_aload_n d_Mo_keep_56 rfl rfl ?_ | refine mg_aload_nN d_Mo_keep_56 rfl rfl ?_
      refine mg_dup d_Mo_keep_57 rfl ?_
      refine mg_getfield fl_Mo_121 d_Mo_keep_58 (by first | assumption | exact mg_up_s _ _ _ | (rw [mg_up_n _ _ (by decide)]; first | assumption | exact mg_up_s _ _ _ | (rw [mg_up_n _ _ (by decide)]; first | assumption | exact mg_up_s _ _ _ | (rw [mg_up_n _ _ (by decide)]; first | assumption | exact mg_up_s _ _ _ | (rw [mg_up_n _ _ (by decide)]; first | assumption | exact mg_up_s _ _ _ | (rw [mg_up_n _ _ (by decide)]; first | assumption | exact mg_up_s _ _ _ | (rw [mg_up_n _ _ (by decide)]; first | assumption | exact mg_up_s _ _ _))))))) rfl ?_
      refine mg_iconst (v := 1) d_Mo_keep_61 (by decide) ?_
      refine mg_isub d_Mo_keep_62 ?_
      refine mg_putfield (fw_Mo_121 _) d_Mo_keep_63 (by first | assumption | exact mg_up_s _ _ _ | (rw [mg_up_n _ _ (by decide)]; first | assumption | exact mg_up_s _ _ _ | (rw [mg_up_n _ _ (by decide)]; first | assumption | exact mg_up_s _ _ _ | (rw [mg_up_n _ _ (by decide)]; first | assumption | exact mg_up_s _ _ _ | (rw [mg_up_n _ _ (by decide)]; first | assumption | exact mg_up_s _ _ _ | (rw [mg_up_n _ _ (by decide)]; first | assumption | exact mg_up_s _ _ _ | (rw [mg_up_n _ _ (by decide)]; first | assumption | exact mg_up_s _ _ _))))))) (Nat.le_of_ble_eq_true rfl) (fun _ => ⟨rfl, rfl⟩) ?_
      refine mg_eqM (M' := mg_up M 1000 (moE (upd si 25 (nI r.length)) σ.2.2.2.1 s)) (by rw [hh]; show mg_up M 1000 (moE (upd si 25 (nI (r.length + 1) - 1)) σ.2.2.2.1 s) = _; rw [nI_pred]) ?_
      refine mg_return d_Mo_keep_66 rfl (Nat.le_of_ble_eq_true rfl) (Nat.le_of_ble_eq_true rfl) ?_
      rw [if_pos (show 1 < s1 ∧ sumI 0 (σ.2.1.drop a) &&& 1 = q from ⟨Int32.not_le.mp c_45, by first | exact c_53 | exact Decidable.not_not.mp c_53⟩)]
      exact ⟨rfl, _, h.pop, siR.rf.up (by decide), hM0.up (by decide)⟩

