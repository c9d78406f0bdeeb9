/-! MEMORY BY HANDLES: the cells that are ours, each under a number of our choosing (its handle); values name handles; 'ad' says at which address a handle lies. Handle 0 is never ours: it stands for the script. -/
abbrev mg_M : Type := Nat → Option va_E
def mg_up (M : mg_M) (k : Nat) (e : va_E) : mg_M := fun j => if j = k then some e else M j
theorem mg_up_s (M : mg_M) (k : Nat) (e : va_E) : mg_up M k e k = some e := by simp [mg_up]
theorem mg_up_n (M : mg_M) {k j : Nat} (e : va_E) (h : j ≠ k) : mg_up M k e j = M j := by simp [mg_up, h]
theorem mg_up_dom {M : mg_M} {k : Nat} {e : va_E} {j : Nat} (h : M j ≠ none) : mg_up M k e j ≠ none := by
  by_cases hj : j = k
  · subst hj; rw [mg_up_s]; exact fun h => by cases h
  · rw [mg_up_n M e hj]; exact h
theorem mg_up_dom' {M : mg_M} {k : Nat} {e : va_E} {j : Nat} (hk : M k ≠ none) (h : mg_up M k e j ≠ none) : M j ≠ none := by
  by_cases hj : j = k
  · subst hj; exact hk
  · rw [mg_up_n M e hj] at h; exact h
def mg_tr (ad : Nat → Nat) (v : Value) : Value := match v with
  | .ref k => .ref (ad k)
  | v => v
def mg_tA (ad : Nat → Nat) (a : vp_A) : vp_A := match a with
  | (n, .inr (.inr (.inr (.inr f)))) => (n, .inr (.inr (.inr (.inr (fun i => (f i).map ad)))))
  | a => a
/-- the first number of an array is the place of its type in the list of array types -/
def mg_tE (gT : Nat → Nat) (ad : Nat → Nat) (e : va_E) : va_E := match e with
  | .inl (t, a) => .inl (gT t, mg_tA ad a)
  | .inr (ci, fs) => .inr (ci, fs.map (mg_tr ad))
def mg_cv (M : mg_M) (v : Value) : Prop := match v with
  | .ref k => k = 0 ∨ M k ≠ none
  | _ => True
def mg_cA (M : mg_M) (a : vp_A) : Prop := match a with
  | (_, .inr (.inr (.inr (.inr f)))) => ∀ i k, f i = some k → k = 0 ∨ M k ≠ none
  | _ => True
def mg_cE (M : mg_M) (e : va_E) : Prop := match e with
  | .inl (_, a) => mg_cA M a
  | .inr (_, fs) => ∀ v ∈ fs, mg_cv M v
theorem mg_cv.mono {M M' : mg_M} {v : Value} (h : mg_cv M v) (hd : ∀ k, M k ≠ none → M' k ≠ none) : mg_cv M' v := by
  cases v with
  | ref k => exact h.imp id (hd k)
  | _ => trivial
theorem mg_cA.mono {M M' : mg_M} {a : vp_A} (h : mg_cA M a) (hd : ∀ k, M k ≠ none → M' k ≠ none) : mg_cA M' a := by
  obtain ⟨n, f | f | f | f | f⟩ := a
  · trivial
  · trivial
  · trivial
  · trivial
  · exact fun i k hk => (h i k hk).imp id (hd k)
theorem mg_cE.mono {M M' : mg_M} {e : va_E} (h : mg_cE M e) (hd : ∀ k, M k ≠ none → M' k ≠ none) : mg_cE M' e := by
  obtain ⟨t, a⟩ | ⟨ci, fs⟩ := e
  · exact mg_cA.mono h hd
  · exact fun v hv => (h v hv).mono hd
theorem mg_tr_eq {M : mg_M} {ad ad' : Nat → Nat} {v : Value} (h : mg_cv M v) (hd : ∀ k, k = 0 ∨ M k ≠ none → ad' k = ad k) : mg_tr ad' v = mg_tr ad v := by
  cases v with
  | ref k => show Value.ref _ = Value.ref _; rw [hd k h]
  | _ => rfl
theorem mg_tA_eq {M : mg_M} {ad ad' : Nat → Nat} {a : vp_A} (h : mg_cA M a) (hd : ∀ k, k = 0 ∨ M k ≠ none → ad' k = ad k) : mg_tA ad' a = mg_tA ad a := by
  obtain ⟨n, f | f | f | f | f⟩ := a
  · rfl
  · rfl
  · rfl
  · rfl
  · have hf : (fun i => (f i).map ad') = (fun i => (f i).map ad) := by
      funext i
      cases hi : f i with
      | none => rfl
      | some k => show some _ = some _; rw [hd k (h i k hi)]
    show (n, _) = (n, _)
    rw [hf]
theorem mg_tE_eq {M : mg_M} {gT ad ad' : Nat → Nat} {e : va_E} (h : mg_cE M e) (hd : ∀ k, k = 0 ∨ M k ≠ none → ad' k = ad k) : mg_tE gT ad' e = mg_tE gT ad e := by
  obtain ⟨t, a⟩ | ⟨ci, fs⟩ := e
  · show Sum.inl _ = Sum.inl _; rw [mg_tA_eq h hd]
  · have hf : fs.map (mg_tr ad') = fs.map (mg_tr ad) := List.map_congr_left fun v hv => mg_tr_eq (h v hv) hd
    show Sum.inr _ = Sum.inr _; rw [hf]
/-- the heap holds the memory -/
def mg_H (D : va_G) (gT : Nat → Nat) (cl : List vw_C) (A : Nat → Prop) (ad : Nat → Nat) (M : mg_M) (H : Heap) : Prop :=
  (∃ ws : va_W, va_P D cl ws H ∧ va_D A ws ∧ ∀ q : Nat × va_E, q ∈ ws ↔ ∃ (k : Nat) (e : va_E), M k = some e ∧ q = (ad k, mg_tE gT ad e)) ∧ (∀ j k : Nat, M j ≠ none → M k ≠ none → ad j = ad k → j = k) ∧ (∀ (k : Nat) (e : va_E), M k = some e → mg_cE M e) ∧ M 0 = none
theorem mg_some {M : mg_M} {k : Nat} {e : va_E} (h : M k = some e) : M k ≠ none := by rw [h]; exact fun h => by cases h
theorem mg_H.use {D : va_G} {gT : Nat → Nat} {cl : List vw_C} {A : Nat → Prop} {ad : Nat → Nat} {M : mg_M} {H : Heap} (h : mg_H D gT cl A ad M H) {k : Nat} {e : va_E} (hk : M k = some e) :
    ∃ (ws : va_W) (q0 : Nat), va_P D cl ws H ∧ va_D A ws ∧ ws[q0]? = some (ad k, mg_tE gT ad e) ∧ (∀ (k2 : Nat) (e2 : va_E), M k2 = some e2 → ∃ q2 : Nat, ws[q2]? = some (ad k2, mg_tE gT ad e2)) ∧
      ∀ (e' : va_E) (H1 : Heap), mg_cE M e' → va_P D cl (ws.set q0 (ad k, mg_tE gT ad e')) H1 → va_D A (ws.set q0 (ad k, mg_tE gT ad e')) → mg_H D gT cl A ad (mg_up M k e') H1 := by
  obtain ⟨⟨ws, hP, hD, hm⟩, hinj, hcl, h0⟩ := h
  obtain ⟨q0, hq0⟩ := List.getElem?_of_mem ((hm _).mpr ⟨k, e, hk, rfl⟩)
  have hlt := (List.getElem?_eq_some_iff.mp hq0).1
  have hkd := mg_some hk
  refine ⟨ws, q0, hP, hD, hq0, fun k2 e2 h2 => List.getElem?_of_mem ((hm _).mpr ⟨k2, e2, h2, rfl⟩), fun e' H1 hc' hP1 hD1 => ⟨⟨_, hP1, hD1, fun q => ⟨fun hq => ?_, fun hq => ?_⟩⟩, fun i j hi hj => hinj i j (mg_up_dom' hkd hi) (mg_up_dom' hkd hj), fun j e2 hj => ?_, ?_⟩⟩
  · obtain ⟨i, hi⟩ := List.getElem?_of_mem hq
    by_cases hi0 : i = q0
    · subst hi0
      rw [List.getElem?_set_self hlt] at hi
      exact ⟨k, e', mg_up_s _ _ _, (Option.some.inj hi).symm⟩
    · rw [List.getElem?_set_ne (Ne.symm hi0)] at hi
      obtain ⟨k2, e2, h2, rfl⟩ := (hm q).mp (List.mem_of_getElem? hi)
      have hne : k2 ≠ k := fun hkk => hi0 (hD.1 i q0 _ _ hi hq0 (by rw [hkk]))
      exact ⟨k2, e2, by rw [mg_up_n M e' hne]; exact h2, rfl⟩
  · obtain ⟨k2, e2, h2, rfl⟩ := hq
    by_cases hkk : k2 = k
    · subst hkk
      rw [mg_up_s] at h2
      cases h2
      exact List.mem_of_getElem? (List.getElem?_set_self hlt)
    · rw [mg_up_n M e' hkk] at h2
      obtain ⟨i, hi⟩ := List.getElem?_of_mem ((hm _).mpr ⟨k2, e2, h2, rfl⟩)
      have hi0 : i ≠ q0 := fun hii => by
        subst hii
        have := hi.symm.trans hq0
        have h3 := congrArg Prod.fst (Option.some.inj this)
        exact hkk (hinj k2 k (mg_some h2) hkd h3)
      exact List.mem_of_getElem? ((List.getElem?_set_ne (Ne.symm hi0)).trans hi)
  · by_cases hjk : j = k
    · subst hjk
      rw [mg_up_s] at hj
      cases hj
      exact hc'.mono fun _ hd => mg_up_dom hd
    · rw [mg_up_n M e' hjk] at hj
      exact (hcl j e2 hj).mono fun _ hd => mg_up_dom hd
  · have h0k : (0 : Nat) ≠ k := fun h => by subst h; exact hkd h0
    rw [mg_up_n M e' h0k]; exact h0
theorem mg_H.new {D : va_G} {gT : Nat → Nat} {cl : List vw_C} {A : Nat → Prop} {ad : Nat → Nat} {M : mg_M} {H : Heap} (h : mg_H D gT cl A ad M H) :
    ∃ ws : va_W, va_P D cl ws H ∧ va_D A ws ∧ ∀ (k : Nat) (e : va_E) (q : Nat) (H1 : Heap), k ≠ 0 → M k = none → mg_cE M e → va_P D cl (ws ++ [(q, mg_tE gT ad e)]) H1 → va_D A (ws ++ [(q, mg_tE gT ad e)]) → mg_H D gT cl A (va_up ad k q) (mg_up M k e) H1 := by
  obtain ⟨⟨ws, hP, hD, hm⟩, hinj, hcl, h0⟩ := h
  refine ⟨ws, hP, hD, fun k e q H1 hk0 hk hc hP1 hD1 => ?_⟩
  have hd : ∀ j, j = 0 ∨ M j ≠ none → va_up ad k q j = ad j := fun j hj => by
    have : j ≠ k := fun hjk => by
      subst hjk
      rcases hj with hj | hj
      · exact hk0 hj
      · exact hj hk
    simp [va_up, this]
  have hq : va_up ad k q k = q := by simp [va_up]
  have hfresh : ∀ j, M j ≠ none → ad j ≠ q := fun j hj hjq => by
    cases hje : M j with
    | none => exact hj hje
    | some e2 =>
      obtain ⟨i, hi⟩ := List.getElem?_of_mem ((hm _).mpr ⟨j, e2, hje, rfl⟩)
      have hil := (List.getElem?_eq_some_iff.mp hi).1
      have h1 : (ws ++ [(q, mg_tE gT ad e)])[i]? = some (ad j, mg_tE gT ad e2) := by rw [List.getElem?_append_left hil]; exact hi
      have h2 : (ws ++ [(q, mg_tE gT ad e)])[ws.length]? = some (q, mg_tE gT ad e) := by simp
      have := hD1.1 i ws.length _ _ h1 h2 hjq
      omega
  refine ⟨⟨_, hP1, hD1, fun x => ⟨fun hx => ?_, fun hx => ?_⟩⟩, fun i j hi hj hij => ?_, fun j e2 hj => ?_, ?_⟩
  · rcases List.mem_append.mp hx with hx | hx
    · obtain ⟨k2, e2, h2, rfl⟩ := (hm x).mp hx
      have hne : k2 ≠ k := fun hkk => by subst hkk; rw [hk] at h2; cases h2
      refine ⟨k2, e2, by rw [mg_up_n M e hne]; exact h2, ?_⟩
      rw [hd k2 (Or.inr (mg_some h2)), mg_tE_eq (hcl k2 e2 h2) hd]
    · rw [List.mem_singleton] at hx
      subst hx
      refine ⟨k, e, mg_up_s _ _ _, ?_⟩
      rw [hq, mg_tE_eq hc hd]
  · obtain ⟨k2, e2, h2, rfl⟩ := hx
    by_cases hkk : k2 = k
    · subst hkk
      rw [mg_up_s] at h2
      cases h2
      rw [hq, mg_tE_eq hc hd]
      exact List.mem_append_right _ (List.mem_singleton.mpr rfl)
    · rw [mg_up_n M e hkk] at h2
      rw [hd k2 (Or.inr (mg_some h2)), mg_tE_eq (hcl k2 e2 h2) hd]
      exact List.mem_append_left _ ((hm _).mpr ⟨k2, e2, h2, rfl⟩)
  · by_cases hik : i = k
    · by_cases hjk : j = k
      · rw [hik, hjk]
      · rw [mg_up_n M e hjk] at hj
        rw [hik, hq, hd j (Or.inr hj)] at hij
        exact absurd hij.symm (hfresh j hj)
    · rw [mg_up_n M e hik] at hi
      by_cases hjk : j = k
      · rw [hjk, hq, hd i (Or.inr hi)] at hij
        exact absurd hij (hfresh i hi)
      · rw [mg_up_n M e hjk] at hj
        rw [hd i (Or.inr hi), hd j (Or.inr hj)] at hij
        exact hinj i j hi hj hij
  · by_cases hjk : j = k
    · subst hjk
      rw [mg_up_s] at hj
      cases hj
      exact hc.mono fun _ hd => mg_up_dom hd
    · rw [mg_up_n M e hjk] at hj
      exact (hcl j e2 hj).mono fun _ hd => mg_up_dom hd
  · rw [mg_up_n M e (Ne.symm hk0)]; exact h0
theorem mg_H.closed {D : va_G} {gT : Nat → Nat} {cl : List vw_C} {A : Nat → Prop} {ad : Nat → Nat} {M : mg_M} {H : Heap} (h : mg_H D gT cl A ad M H) {k : Nat} {e : va_E} (hk : M k = some e) : mg_cE M e := h.2.2.1 k e hk
theorem mg_H.inA {D : va_G} {gT : Nat → Nat} {cl : List vw_C} {A : Nat → Prop} {ad : Nat → Nat} {M : mg_M} {H : Heap} (h : mg_H D gT cl A ad M H) {k : Nat} (hk : M k ≠ none) : A (ad k) ∧ ad k < H.size := by
  cases he : M k with
  | none => exact absurd he hk
  | some e =>
    obtain ⟨ws, q0, hP, hD, hq, -⟩ := h.use he
    exact ⟨hD.2 q0 _ hq, (hP q0 _ hq).lt⟩
theorem mg_H.weaken {D : va_G} {gT : Nat → Nat} {cl : List vw_C} {A B : Nat → Prop} {ad : Nat → Nat} {M : mg_M} {H : Heap} (h : mg_H D gT cl A ad M H) (hAB : ∀ k, M k ≠ none → B (ad k)) : mg_H D gT cl B ad M H := by
  obtain ⟨⟨ws, hP, hD, hm⟩, h2⟩ := h
  refine ⟨⟨ws, hP, hD.weaken (fun k q hq _ => ?_), hm⟩, h2⟩
  obtain ⟨k2, e2, h3, rfl⟩ := (hm q).mp (List.mem_of_getElem? hq)
  exact hAB k2 (mg_some h3)
theorem mg_H.kept {D : va_G} {gT : Nat → Nat} {cl : List vw_C} {A : Nat → Prop} {ad : Nat → Nat} {M : mg_M} {H H1 : Heap} (h : mg_H D gT cl A ad M H) (hq : ∀ k, M k ≠ none → H1[ad k]? = H[ad k]?) : mg_H D gT cl A ad M H1 := by
  obtain ⟨⟨ws, hP, hD, hm⟩, h2⟩ := h
  refine ⟨⟨ws, hP.kept (fun k q hk => ?_), hD, hm⟩, h2⟩
  obtain ⟨k2, e2, h3, rfl⟩ := (hm q).mp (List.mem_of_getElem? hk)
  exact hq k2 (mg_some h3)
