/-! GENERATORS: number i lies at the handle 100 + i; a generator is (kind, a, b, deep) -/
abbrev gN : Type := Nat × Int32 × Int32 × Nat
def genE (g : gN) : va_E := match g with
  | (0, a, b, dp) => .inr (3, [.int (nI dp), .int a, .int b])
  | (1, a, b, dp) => .inr (4, [.int (nI dp), .ref (100 + a.toNatClampNeg), .int b])
  | (2, a, b, dp) => .inr (5, [.int (nI dp), .ref (100 + a.toNatClampNeg), .ref (100 + b.toNatClampNeg)])
  | (3, a, b, dp) => .inr (6, [.int (nI dp), .ref (100 + a.toNatClampNeg), .ref (100 + b.toNatClampNeg)])
  | (4, a, b, dp) => .inr (7, [.int (nI dp), .ref (100 + a.toNatClampNeg), .int b])
  | (_, a, b, dp) => .inr (8, [.int (nI dp), .ref (100 + a.toNatClampNeg), .int b])
def isG (M : mg_M) (gs : List gN) : Prop := ∀ (i : Nat) (g : gN), gs[i]? = some g → M (100 + i) = some (genE g)
theorem isG.fr {M M' : mg_M} {gs : List gN} {lo hi : Nat} (h : isG M gs) (hs : sm lo hi M M') (hd : hi ≤ 100 ∨ 100 + gs.length ≤ lo) : isG M' gs := fun i g hg => by
  have hl := (List.getElem?_eq_some_iff.mp hg).1
  rw [hs (100 + i) (by omega)]; exact h i g hg
theorem isG.up {M : mg_M} {gs : List gN} {k : Nat} {e : va_E} (h : isG M gs) (hd : k < 100 ∨ 100 + gs.length ≤ k) : isG (mg_up M k e) gs := h.fr (lo := k) (hi := k + 1) (sm.rf.up (by omega) (by omega)) (by omega)
/-- a list's items: so long as a draw says 1, and there is room -/
def listF (step : dS → dS) (md : dM) : Nat → dS → dS
  | 0, σ => σ
  | m + 1, σ => if (drawF md σ 1 2).1 = 1 then listF step md m (step (drawF md σ 1 2).2) else (drawF md σ 1 2).2
def illF (σ : dS) : dS := (σ.1, σ.2.1, true, σ.2.2.2)
def cutF (σ : dS) (n : Nat) : dS := (σ.1, σ.2.1.take n, σ.2.2)
def raiseF (σ : dS) (n : Nat) (b : Int32) : dS := (σ.1, raiseL σ.2.1 n b, σ.2.2)
def keepF (step : dS → dS) (start : Nat) (par : Int32) : Nat → dS → dS
  | 0, σ => illF σ
  | m + 1, σ => if σ.2.2.1 = true then illF σ else if (sumF 0 ((step (cutF σ start)).2.1.drop start)) &&& 1 = par.toInt64 then step (cutF σ start) else keepF step start par m (step (cutF σ start))
/-- a generator gives its numbers; the first number is how deep it may go -/
def giveF (gs : List gN) (md : dM) : Nat → Nat → dS → dS
  | 0, _, σ => σ
  | d + 1, i, σ => match gs[i]? with
    | none => σ
    | some (0, a, b, _) => numF (drawF md σ (b - a) (spanF md.2.2 (b - a))).2 (a + (drawF md σ (b - a) (spanF md.2.2 (b - a))).1)
    | some (1, a, b, _) => listF (giveF gs md d a.toNatClampNeg) md b.toNatClampNeg σ
    | some (2, a, b, _) => if (giveF gs md d a.toNatClampNeg σ).2.2.1 = true then giveF gs md d a.toNatClampNeg σ else giveF gs md d b.toNatClampNeg (giveF gs md d a.toNatClampNeg σ)
    | some (3, a, b, _) => if (drawF md σ 1 2).2.2.2.1 = true then (drawF md σ 1 2).2 else if (drawF md σ 1 2).1 = 0 then giveF gs md d a.toNatClampNeg (drawF md σ 1 2).2 else giveF gs md d b.toNatClampNeg (drawF md σ 1 2).2
    | some (4, a, b, _) => keepF (giveF gs md d a.toNatClampNeg) σ.2.1.length b 3 σ
    | some (_, a, b, _) => raiseF (giveF gs md d a.toNatClampNeg σ) σ.2.1.length b
def rmG (dp : Nat) : Room := { frames := 2 + dp, cells := 0, slots := 0, locals := 44 + 24 * dp }
abbrev gvY (k : Nat) : MethodName × ByteArray × Nat × Option FieldType := match k with
  | 0 => Y_IR_give
  | 1 => Y_LO_give
  | 2 => Y_PO_give
  | 3 => Y_OO_give
  | 4 => Y_KO_give
  | _ => Y_AT_give
abbrev gvX : MethodName := ⟨"PropertyShrink$Generator", "give", "(LPropertyShrink$Draws;)V"⟩
def mg_GV (Y : mg_Y) (ix : Nat) : Prop := mg_UL Y Y_IR_give gvX ix 1 ∧ mg_UL Y Y_LO_give gvX ix 1 ∧ mg_UL Y Y_PO_give gvX ix 1 ∧ mg_UL Y Y_OO_give gvX ix 1 ∧ mg_UL Y Y_KO_give gvX ix 1 ∧ mg_UL Y Y_AT_give gvX ix 1
abbrev gvP (gs : List gN) (md : dM) (M : mg_M) (d i : Nat) (σ : dS) : Option Value → mg_M → Prop := fun v M' => v = none ∧ isD M' 12 md (giveF gs md d i σ) ∧ sm 12 20 M M'
/-- generator i keeps its contract: give, with the draws at 12 -/
def gvC (gs : List gN) (md : dM) (i : Nat) (g : gN) : Prop := ∀ (d : Nat) (M : mg_M) (σ : dS), g.2.2.2 ≤ d → isG M gs → isD M 12 md σ → mg_Ct (gvY g.1) (rmG g.2.2.2) [.ref (100 + i), .ref 12] M (gvP gs md M d i σ)
/-- the parts come earlier and are less deep -/
def gP (gs : List gN) (dp : Nat) (a : Int32) : Prop := ∃ (ja : Nat) (g : gN), a = nI ja ∧ ja < 20 ∧ gs[ja]? = some g ∧ g.2.2.2 < dp
def wfG (gs : List gN) : Prop := gs.length ≤ 20 ∧ ∀ (i k : Nat) (a b : Int32) (dp : Nat), gs[i]? = some (k, a, b, dp) → k ≤ 5 ∧ 1 ≤ dp ∧ dp ≤ 8 ∧ (k = 0 → -1000 ≤ a.toInt ∧ a.toInt ≤ b.toInt ∧ b.toInt ≤ 1000) ∧ (k ≠ 0 → gP gs dp a) ∧ (k = 2 ∨ k = 3 → gP gs dp b) ∧ (k = 1 → ∃ m, m ≤ 9 ∧ b = nI m) ∧ (k = 4 → b = 0 ∨ b = 1)
set_option maxHeartbeats 4000000 in
theorem mg_callG {X : mg_X} {Y : mg_Y} {Q : State → Prop} {M : mg_M} {kc j pc ix : Nat} {lv : List (Option Value)} {rest st0 : List Value} {post : Option Value → mg_M → Prop} {gs : List gN} {i0 : Nat} {g : gN} (V : mg_GV Y ix) (hd : decode (mg_cc Y) pc = .ok (.invokevirtual ix, 3)) (hG : isG M gs) (hg : gs[i0]? = some g) (hk : g.1 ≤ 5) (ct : mg_Ct (gvY g.1) (rmG g.2.2.2) [.ref (100 + i0), .ref 12] M post) (hs0 : st0 = .ref 12 :: .ref (100 + i0) :: rest) (hf : g.2.2.2 + 3 ≤ (mg_R X).frames ∧ 67 + 24 * g.2.2.2 ≤ (mg_R X).locals) (hcs : kc ≤ (mg_R X).cells ∧ j ≤ (mg_R X).slots) (hrs : (rest.map fun v => v.category).sum ≤ 8)
    (kk : ∀ (v : Option Value) (M' : mg_M), post v M' → mg_G X Y Q M' kc j (pc + 3) lv (v.toList ++ rest)) : mg_G X Y Q M kc j pc lv st0 := by
  obtain ⟨k, a, b, dp⟩ := g
  have hO := hG i0 _ hg
  obtain ⟨V0, V1, V2, V3, V4, V5⟩ := V
  have hf2 : 67 + 24 * dp ≤ (mg_R X).locals := hf.2
  have hf1 : dp + 3 ≤ (mg_R X).frames := hf.1
  have hr : ∀ n, n ≤ 4 → (rmG dp).frames + 1 ≤ (mg_R X).frames ∧ 8 + (n + 11) + (rmG dp).locals ≤ (mg_R X).locals := fun n hn => ⟨by show 2 + dp + 1 ≤ _; omega, by show 8 + (n + 11) + (44 + 24 * dp) ≤ _; omega⟩
  match k, hk, hO, ct with
  | 0, _, hO, ct => exact mg_callU V0 hd hO rfl rfl ct hs0 rfl (hr 3 (by decide)) hcs hrs kk
  | 1, _, hO, ct => exact mg_callU V1 hd hO rfl rfl ct hs0 rfl (hr 3 (by decide)) hcs hrs kk
  | 2, _, hO, ct => exact mg_callU V2 hd hO rfl rfl ct hs0 rfl (hr 2 (by decide)) hcs hrs kk
  | 3, _, hO, ct => exact mg_callU V3 hd hO rfl rfl ct hs0 rfl (hr 3 (by decide)) hcs hrs kk
  | 4, _, hO, ct => exact mg_callU V4 hd hO rfl rfl ct hs0 rfl (hr 4 (by decide)) hcs hrs kk
  | 5, _, hO, ct => exact mg_callU V5 hd hO rfl rfl ct hs0 rfl (hr 3 (by decide)) hcs hrs kk
  | k + 6, hk, _, _ => exact absurd hk (by show ¬ k + 6 ≤ 5; omega)

theorem gv_AT : mg_GV Y_AT_give 32 := ⟨ul_AT_32_IR rfl, ul_AT_32_LO rfl, ul_AT_32_PO rfl, ul_AT_32_OO rfl, ul_AT_32_KO rfl, ul_AT_32_AT rfl⟩
theorem gv_KO : mg_GV Y_KO_give 41 := ⟨ul_KO_41_IR rfl, ul_KO_41_LO rfl, ul_KO_41_PO rfl, ul_KO_41_OO rfl, ul_KO_41_KO rfl, ul_KO_41_AT rfl⟩
theorem gv_LO : mg_GV Y_LO_give 26 := ⟨ul_LO_26_IR rfl, ul_LO_26_LO rfl, ul_LO_26_PO rfl, ul_LO_26_OO rfl, ul_LO_26_KO rfl, ul_LO_26_AT rfl⟩
theorem gv_OO : mg_GV Y_OO_give 35 := ⟨ul_OO_35_IR rfl, ul_OO_35_LO rfl, ul_OO_35_PO rfl, ul_OO_35_OO rfl, ul_OO_35_KO rfl, ul_OO_35_AT rfl⟩
theorem gv_PO : mg_GV Y_PO_give 26 := ⟨ul_PO_26_IR rfl, ul_PO_26_LO rfl, ul_PO_26_PO rfl, ul_PO_26_OO rfl, ul_PO_26_KO rfl, ul_PO_26_AT rfl⟩
set_option maxHeartbeats 4000000 in
set_option maxRecDepth 100000 in
theorem c_IR_give {gs : List gN} {md : dM} {i : Nat} {a b : Int32} {dp : Nat} (hg : gs[i]? = some (0, a, b, dp)) (hdp : 1 ≤ dp)  : gvC gs md i (0, a, b, dp) := by
  intro d M σ hd hG hD
  replace hd : dp ≤ d := hd
  obtain ⟨d, rfl⟩ : ∃ e, d = e + 1 := ⟨d - 1, by omega⟩
  obtain ⟨cs, ns, il, x, lm⟩ := σ
  obtain ⟨how, gv, z⟩ := md
  have hO := hG i _ hg
  simp only [genE] at hO
  have hgF : giveF gs (how, gv, z) (d + 1) i (cs, ns, il, x, lm) = numF (drawF (how, gv, z) (cs, ns, il, x, lm) (b - a) (spanF z (b - a))).2 (a + (drawF (how, gv, z) (cs, ns, il, x, lm) (b - a) (spanF z (b - a))).1) := by simp only [giveF, hg]
  show mg_Ct Y_IR_give (rmG dp) _ M _
  refine mg_met [some (.ref (100 + i)), some (.ref 12), none] (by decide +kernel) rfl (Nat.le_of_ble_eq_true rfl) ?_
  intro X hR _
  replace hR : mg_R X = rmG dp := hR
  first | refine mg_aload_n d_IR_give_0 rfl rfl ?_ | refine mg_aload_nN d_IR_give_0 rfl rfl ?_
  refine mg_getfield fl_IR_13 d_IR_give_1 (by first | exact hO | exact hD.1) rfl ?_
  first | refine mg_aload_n d_IR_give_4 rfl rfl ?_ | refine mg_aload_nN d_IR_give_4 rfl rfl ?_
  refine mg_getfield fl_IR_7 d_IR_give_5 (by first | exact hO | exact hD.1) rfl ?_
  refine mg_isub d_IR_give_8 ?_
  refine mg_istore_n d_IR_give_9 rfl (Nat.le_of_ble_eq_true rfl) rfl ?_
  first | refine mg_aload_n d_IR_give_10 rfl rfl ?_ | refine mg_aload_nN d_IR_give_10 rfl rfl ?_
  first | refine mg_aload_n d_IR_give_11 rfl rfl ?_ | refine mg_aload_nN d_IR_give_11 rfl rfl ?_
  refine mg_getfield fl_IR_7 d_IR_give_12 (by first | exact hO | exact hD.1) rfl ?_
  first | refine mg_aload_n d_IR_give_15 rfl rfl ?_ | refine mg_aload_nN d_IR_give_15 rfl rfl ?_
  refine mg_iload_n d_IR_give_16 rfl rfl ?_
  first | refine mg_aload_n d_IR_give_17 rfl rfl ?_ | refine mg_aload_nN d_IR_give_17 rfl rfl ?_
  refine mg_iload_n d_IR_give_18 rfl rfl ?_
  refine mg_callV (vl_IR_16 rfl) d_IR_give_19 hD.1 rfl rfl (c_Dr_sizedSpan hD) rfl rfl (by rw [hR]; constructor <;> simp only [rmG, mg_nl] <;> omega) (by rw [hR]; exact ⟨Nat.le_of_ble_eq_true rfl, Nat.le_of_ble_eq_true rfl⟩) (Nat.le_of_ble_eq_true rfl) ?_
  rintro v M2 ⟨rfl, rfl⟩
  refine mg_callV (vl_IR_22 rfl) d_IR_give_22 hD.1 rfl rfl (c_Dr_draw hD) rfl rfl (by rw [hR]; constructor <;> simp only [rmG, mg_nl] <;> omega) (by rw [hR]; exact ⟨Nat.le_of_ble_eq_true rfl, Nat.le_of_ble_eq_true rfl⟩) (Nat.le_of_ble_eq_true rfl) ?_
  rintro v M3 ⟨rfl, hD3, hs3⟩
  generalize drawF (how, gv, z) (cs, ns, il, x, lm) (b - a) (spanF z (b - a)) = r at hD3 hgF ⊢
  obtain ⟨rv, cs3, ns3, il3, x3, lm3⟩ := r
  refine mg_iadd d_IR_give_25 ?_
  refine mg_callV (vl_IR_26 rfl) d_IR_give_26 hD3.1 rfl rfl (c_Dr_giveNumber hD3) rfl rfl (by rw [hR]; constructor <;> simp only [rmG, mg_nl] <;> omega) (by rw [hR]; exact ⟨Nat.le_of_ble_eq_true rfl, Nat.le_of_ble_eq_true rfl⟩) (Nat.le_of_ble_eq_true rfl) ?_
  rintro v M4 ⟨rfl, hD4, hs4⟩
  exact mg_return d_IR_give_29 rfl (Nat.le_of_ble_eq_true rfl) (Nat.le_of_ble_eq_true rfl) ⟨rfl, by rw [hgF]; exact hD4, hs3.tr hs4⟩

set_option maxHeartbeats 4000000 in
set_option maxRecDepth 100000 in
theorem c_PO_give {gs : List gN} {md : dM} {i : Nat} {a b : Int32} {dp : Nat} (hg : gs[i]? = some (2, a, b, dp)) (hdp : 1 ≤ dp) {ja : Nat} {ga : gN} (ea : a = nI ja) (la : ja < 20) (hga : gs[ja]? = some ga) (hka : ga.1 ≤ 5) (hda : ga.2.2.2 < dp) (ca : gvC gs md ja ga) {jb : Nat} {gb : gN} (eb : b = nI jb) (lb : jb < 20) (hgb : gs[jb]? = some gb) (hkb : gb.1 ≤ 5) (hdb : gb.2.2.2 < dp) (cb : gvC gs md jb gb) : gvC gs md i (2, a, b, dp) := by
  intro d M σ hd hG hD
  replace hd : dp ≤ d := hd
  obtain ⟨d, rfl⟩ : ∃ e, d = e + 1 := ⟨d - 1, by omega⟩
  obtain ⟨cs, ns, il, x, lm⟩ := σ
  obtain ⟨how, gv, z⟩ := md
  have hO := hG i _ hg
  simp only [genE] at hO
  subst ea
  rw [nI_clamp (by omega : ja < 2 ^ 31)] at hO
  replace hG : isG M gs := hG
  subst eb
  rw [nI_clamp (by omega : jb < 2 ^ 31)] at hO
  have hgF : giveF gs (how, gv, z) (d + 1) i (cs, ns, il, x, lm) = if (giveF gs (how, gv, z) d ja (cs, ns, il, x, lm)).2.2.1 = true then giveF gs (how, gv, z) d ja (cs, ns, il, x, lm) else giveF gs (how, gv, z) d jb (giveF gs (how, gv, z) d ja (cs, ns, il, x, lm)) := by simp only [giveF, hg, nI_clamp (by omega : ja < 2 ^ 31), nI_clamp (by omega : jb < 2 ^ 31)]
  show mg_Ct Y_PO_give (rmG dp) _ M _
  refine mg_met [some (.ref (100 + i)), some (.ref 12)] (by decide +kernel) rfl (Nat.le_of_ble_eq_true rfl) ?_
  intro X hR _
  replace hR : mg_R X = rmG dp := hR
  first | refine mg_aload_n d_PO_give_0 rfl rfl ?_ | refine mg_aload_nN d_PO_give_0 rfl rfl ?_
  refine mg_getfield fl_PO_17 d_PO_give_1 (by first | exact hO | exact hD.1) rfl ?_
  first | refine mg_aload_n d_PO_give_4 rfl rfl ?_ | refine mg_aload_nN d_PO_give_4 rfl rfl ?_
  refine mg_callG gv_PO d_PO_give_5 hG hga hka (ca d _ _ (by omega) hG hD) rfl (by rw [hR]; constructor <;> simp only [rmG, mg_nl] <;> omega) (by rw [hR]; exact ⟨Nat.le_of_ble_eq_true rfl, Nat.le_of_ble_eq_true rfl⟩) (Nat.le_of_ble_eq_true rfl) ?_
  rintro v M2 ⟨rfl, hD2, hs2⟩
  have hG2 := hG.fr hs2 (by omega)
  have hO2 := (hs2 (100 + i) (by omega)).trans hO
  generalize giveF gs (how, gv, z) d ja (cs, ns, il, x, lm) = σ2 at hD2 hgF
  obtain ⟨cs2, ns2, il2, x2, lm2⟩ := σ2
  first | refine mg_aload_n d_PO_give_8 rfl rfl ?_ | refine mg_aload_nN d_PO_give_8 rfl rfl ?_
  refine mg_getfield fl_PO_30 d_PO_give_9 hD2.1 rfl ?_
  refine mg_if_ne (tgt := 23) d_PO_give_12 (by decide) (fun c_12 => ?_) (fun c_12 => ?_)
  · obtain rfl := bI_t c_12
    exact mg_return d_PO_give_23 rfl (Nat.le_of_ble_eq_true rfl) (Nat.le_of_ble_eq_true rfl) ⟨rfl, by rw [hgF, if_pos rfl]; exact hD2, hs2⟩
  · obtain rfl := bI_f c_12
    first | refine mg_aload_n d_PO_give_15 rfl rfl ?_ | refine mg_aload_nN d_PO_give_15 rfl rfl ?_
    refine mg_getfield fl_PO_23 d_PO_give_16 hO2 rfl ?_
    first | refine mg_aload_n d_PO_give_19 rfl rfl ?_ | refine mg_aload_nN d_PO_give_19 rfl rfl ?_
    refine mg_callG gv_PO d_PO_give_20 hG2 hgb hkb (cb d _ _ (by omega) hG2 hD2) rfl (by rw [hR]; constructor <;> simp only [rmG, mg_nl] <;> omega) (by rw [hR]; exact ⟨Nat.le_of_ble_eq_true rfl, Nat.le_of_ble_eq_true rfl⟩) (Nat.le_of_ble_eq_true rfl) ?_
    rintro v M3 ⟨rfl, hD3, hs3⟩
    exact mg_return d_PO_give_23 rfl (Nat.le_of_ble_eq_true rfl) (Nat.le_of_ble_eq_true rfl) ⟨rfl, by rw [hgF, if_neg (show ¬ (false = true) by decide)]; exact hD3, hs2.tr hs3⟩

set_option maxHeartbeats 4000000 in
set_option maxRecDepth 100000 in
theorem c_OO_give {gs : List gN} {md : dM} {i : Nat} {a b : Int32} {dp : Nat} (hg : gs[i]? = some (3, a, b, dp)) (hdp : 1 ≤ dp) {ja : Nat} {ga : gN} (ea : a = nI ja) (la : ja < 20) (hga : gs[ja]? = some ga) (hka : ga.1 ≤ 5) (hda : ga.2.2.2 < dp) (ca : gvC gs md ja ga) {jb : Nat} {gb : gN} (eb : b = nI jb) (lb : jb < 20) (hgb : gs[jb]? = some gb) (hkb : gb.1 ≤ 5) (hdb : gb.2.2.2 < dp) (cb : gvC gs md jb gb) : gvC gs md i (3, a, b, dp) := by
  intro d M σ hd hG hD
  replace hd : dp ≤ d := hd
  obtain ⟨d, rfl⟩ : ∃ e, d = e + 1 := ⟨d - 1, by omega⟩
  obtain ⟨cs, ns, il, x, lm⟩ := σ
  obtain ⟨how, gv, z⟩ := md
  have hO := hG i _ hg
  simp only [genE] at hO
  subst ea
  rw [nI_clamp (by omega : ja < 2 ^ 31)] at hO
  replace hG : isG M gs := hG
  subst eb
  rw [nI_clamp (by omega : jb < 2 ^ 31)] at hO
  have hgF : giveF gs (how, gv, z) (d + 1) i (cs, ns, il, x, lm) = if (drawF (how, gv, z) (cs, ns, il, x, lm) 1 2).2.2.2.1 = true then (drawF (how, gv, z) (cs, ns, il, x, lm) 1 2).2 else if (drawF (how, gv, z) (cs, ns, il, x, lm) 1 2).1 = 0 then giveF gs (how, gv, z) d ja (drawF (how, gv, z) (cs, ns, il, x, lm) 1 2).2 else giveF gs (how, gv, z) d jb (drawF (how, gv, z) (cs, ns, il, x, lm) 1 2).2 := by simp only [giveF, hg, nI_clamp (by omega : ja < 2 ^ 31), nI_clamp (by omega : jb < 2 ^ 31)]
  show mg_Ct Y_OO_give (rmG dp) _ M _
  refine mg_met [some (.ref (100 + i)), some (.ref 12), none] (by decide +kernel) rfl (Nat.le_of_ble_eq_true rfl) ?_
  intro X hR _
  replace hR : mg_R X = rmG dp := hR
  first | refine mg_aload_n d_OO_give_0 rfl rfl ?_ | refine mg_aload_nN d_OO_give_0 rfl rfl ?_
  refine mg_iconst (v := 1) d_OO_give_1 (by decide) ?_
  refine mg_iconst (v := 2) d_OO_give_2 (by decide) ?_
  refine mg_callV (vl_OO_26 rfl) d_OO_give_3 hD.1 rfl rfl (c_Dr_draw hD) rfl rfl (by rw [hR]; constructor <;> simp only [rmG, mg_nl] <;> omega) (by rw [hR]; exact ⟨Nat.le_of_ble_eq_true rfl, Nat.le_of_ble_eq_true rfl⟩) (Nat.le_of_ble_eq_true rfl) ?_
  rintro v M2 ⟨rfl, hD2, hs2⟩
  have hG2 := hG.fr hs2 (by omega)
  have hO2 := (hs2 (100 + i) (by omega)).trans hO
  generalize drawF (how, gv, z) (cs, ns, il, x, lm) 1 2 = r at hD2 hgF ⊢
  obtain ⟨rv, cs2, ns2, il2, x2, lm2⟩ := r
  refine mg_istore_n d_OO_give_6 rfl (Nat.le_of_ble_eq_true rfl) rfl ?_
  first | refine mg_aload_n d_OO_give_7 rfl rfl ?_ | refine mg_aload_nN d_OO_give_7 rfl rfl ?_
  refine mg_getfield fl_OO_31 d_OO_give_8 hD2.1 rfl ?_
  refine mg_if_eq (tgt := 15) d_OO_give_11 (by decide) (fun c_11 => ?_) (fun c_11 => ?_)
  · obtain rfl := bI_f c_11
    refine mg_iload_n d_OO_give_15 rfl rfl ?_
    refine mg_if_ne (tgt := 30) d_OO_give_16 (by decide) (fun c_16 => ?_) (fun c_16 => ?_)
    · first | refine mg_aload_n d_OO_give_30 rfl rfl ?_ | refine mg_aload_nN d_OO_give_30 rfl rfl ?_
      refine mg_getfield fl_OO_23 d_OO_give_31 hO2 rfl ?_
      first | refine mg_aload_n d_OO_give_34 rfl rfl ?_ | refine mg_aload_nN d_OO_give_34 rfl rfl ?_
      refine mg_callG gv_OO d_OO_give_35 hG2 hgb hkb (cb d _ _ (by omega) hG2 hD2) rfl (by rw [hR]; constructor <;> simp only [rmG, mg_nl] <;> omega) (by rw [hR]; exact ⟨Nat.le_of_ble_eq_true rfl, Nat.le_of_ble_eq_true rfl⟩) (Nat.le_of_ble_eq_true rfl) ?_
      rintro v M3 ⟨rfl, hD3, hs3⟩
      exact mg_return d_OO_give_38 rfl (Nat.le_of_ble_eq_true rfl) (Nat.le_of_ble_eq_true rfl) ⟨rfl, by rw [hgF, if_neg (show ¬ (false = true) by decide), if_neg c_16]; exact hD3, hs2.tr hs3⟩
    · first | refine mg_aload_n d_OO_give_19 rfl rfl ?_ | refine mg_aload_nN d_OO_give_19 rfl rfl ?_
      refine mg_getfield fl_OO_17 d_OO_give_20 hO2 rfl ?_
      first | refine mg_aload_n d_OO_give_23 rfl rfl ?_ | refine mg_aload_nN d_OO_give_23 rfl rfl ?_
      refine mg_callG gv_OO d_OO_give_24 hG2 hga hka (ca d _ _ (by omega) hG2 hD2) rfl (by rw [hR]; constructor <;> simp only [rmG, mg_nl] <;> omega) (by rw [hR]; exact ⟨Nat.le_of_ble_eq_true rfl, Nat.le_of_ble_eq_true rfl⟩) (Nat.le_of_ble_eq_true rfl) ?_
      rintro v M3 ⟨rfl, hD3, hs3⟩
      refine mg_goto (tgt := 38) d_OO_give_27 (by decide) ?_
      exact mg_return d_OO_give_38 rfl (Nat.le_of_ble_eq_true rfl) (Nat.le_of_ble_eq_true rfl) ⟨rfl, by rw [hgF, if_neg (show ¬ (false = true) by decide), if_pos c_16]; exact hD3, hs2.tr hs3⟩
  · obtain rfl := bI_t c_11
    exact mg_return d_OO_give_14 rfl (Nat.le_of_ble_eq_true rfl) (Nat.le_of_ble_eq_true rfl) ⟨rfl, by rw [hgF, if_pos rfl]; exact hD2, hs2⟩

set_option maxHeartbeats 4000000 in
set_option maxRecDepth 100000 in
theorem c_AT_give {gs : List gN} {md : dM} {i : Nat} {a b : Int32} {dp : Nat} (hg : gs[i]? = some (5, a, b, dp)) (hdp : 1 ≤ dp) {ja : Nat} {ga : gN} (ea : a = nI ja) (la : ja < 20) (hga : gs[ja]? = some ga) (hka : ga.1 ≤ 5) (hda : ga.2.2.2 < dp) (ca : gvC gs md ja ga) : gvC gs md i (5, a, b, dp) := by
  intro d M σ hd hG hD
  replace hd : dp ≤ d := hd
  obtain ⟨d, rfl⟩ : ∃ e, d = e + 1 := ⟨d - 1, by omega⟩
  obtain ⟨cs, ns, il, x, lm⟩ := σ
  obtain ⟨how, gv, z⟩ := md
  have hO := hG i _ hg
  simp only [genE] at hO
  subst ea
  rw [nI_clamp (by omega : ja < 2 ^ 31)] at hO
  replace hG : isG M gs := hG
  have hgF : giveF gs (how, gv, z) (d + 1) i (cs, ns, il, x, lm) = raiseF (giveF gs (how, gv, z) d ja (cs, ns, il, x, lm)) ns.length b := by simp only [giveF, hg, nI_clamp (by omega : ja < 2 ^ 31)]
  show mg_Ct Y_AT_give (rmG dp) _ M _
  refine mg_met [some (.ref (100 + i)), some (.ref 12), none] (by decide +kernel) rfl (Nat.le_of_ble_eq_true rfl) ?_
  intro X hR _
  replace hR : mg_R X = rmG dp := hR
  first | refine mg_aload_n d_AT_give_0 rfl rfl ?_ | refine mg_aload_nN d_AT_give_0 rfl rfl ?_
  refine mg_getfield fl_AT_20 d_AT_give_1 (by first | exact hO | exact hD.1) rfl ?_
  refine mg_callV (vl_AT_26 rfl) d_AT_give_4 (by obtain ⟨_, e1, -⟩ := hD.2.2.1; exact e1) rfl rfl (c_In_length (xs := ns) hD.2.2.1) rfl rfl (by rw [hR]; constructor <;> simp only [rmG, mg_nl] <;> omega) (by rw [hR]; exact ⟨Nat.le_of_ble_eq_true rfl, Nat.le_of_ble_eq_true rfl⟩) (Nat.le_of_ble_eq_true rfl) ?_
  rintro v M1 ⟨rfl, rfl⟩
  refine mg_istore_n d_AT_give_7 rfl (Nat.le_of_ble_eq_true rfl) rfl ?_
  first | refine mg_aload_n d_AT_give_8 rfl rfl ?_ | refine mg_aload_nN d_AT_give_8 rfl rfl ?_
  refine mg_getfield fl_AT_11 d_AT_give_9 (by first | exact hO | exact hD.1) rfl ?_
  first | refine mg_aload_n d_AT_give_12 rfl rfl ?_ | refine mg_aload_nN d_AT_give_12 rfl rfl ?_
  refine mg_callG gv_AT d_AT_give_13 hG hga hka (ca d _ _ (by omega) hG hD) rfl (by rw [hR]; constructor <;> simp only [rmG, mg_nl] <;> omega) (by rw [hR]; exact ⟨Nat.le_of_ble_eq_true rfl, Nat.le_of_ble_eq_true rfl⟩) (Nat.le_of_ble_eq_true rfl) ?_
  rintro v M2 ⟨rfl, hD2, hs2⟩
  have hnl : ns.length ≤ 60 := hD.2.2.1.le
  have hO2 := (hs2 (100 + i) (by omega)).trans hO
  generalize giveF gs (how, gv, z) d ja (cs, ns, il, x, lm) = σ2 at hD2 hgF
  obtain ⟨cs2, ns2, il2, x2, lm2⟩ := σ2
  first | refine mg_aload_n d_AT_give_16 rfl rfl ?_ | refine mg_aload_nN d_AT_give_16 rfl rfl ?_
  refine mg_getfield fl_AT_20 d_AT_give_17 hD2.1 rfl ?_
  refine mg_iload_n d_AT_give_20 rfl rfl ?_
  first | refine mg_aload_n d_AT_give_21 rfl rfl ?_ | refine mg_aload_nN d_AT_give_21 rfl rfl ?_
  refine mg_getfield fl_AT_17 d_AT_give_22 hO2 rfl ?_
  refine mg_callV (vl_AT_36 rfl) d_AT_give_25 (by obtain ⟨_, e1, -⟩ := hD2.2.2.1; exact e1) rfl rfl (c_In_raiseFrom (xs := ns2) (a := ns.length) hD2.2.2.1 (by omega)) rfl rfl (by rw [hR]; constructor <;> simp only [rmG, mg_nl] <;> omega) (by rw [hR]; exact ⟨Nat.le_of_ble_eq_true rfl, Nat.le_of_ble_eq_true rfl⟩) (Nat.le_of_ble_eq_true rfl) ?_
  rintro v M3 ⟨rfl, hI3, hs3⟩
  exact mg_return d_AT_give_28 rfl (Nat.le_of_ble_eq_true rfl) (Nat.le_of_ble_eq_true rfl) ⟨rfl, by rw [hgF]; exact hD2.ns hI3 hs3, hs2.tr (hs3.wd (by omega) (by omega))⟩

