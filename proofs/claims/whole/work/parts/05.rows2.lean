/-! stores into locals -/
def mg_as (ad : Nat → Nat) : Nat → List (Option Value) → List (Nat × Value)
  | _, [] => []
  | i, some v :: r => (i, mg_tr ad v) :: mg_as ad (i + 1) r
  | i, none :: r => mg_as ad (i + 1) r
theorem mg_as_mem (ad : Nat → Nat) : ∀ (lv : List (Option Value)) (i a : Nat) (w : Value), (a, w) ∈ mg_as ad i lv ↔ ∃ (t : Nat) (v : Value), a = i + t ∧ lv[t]? = some (some v) ∧ w = mg_tr ad v
  | [], i, a, w => by simp [mg_as]
  | none :: r, i, a, w => by
    rw [mg_as, mg_as_mem ad r (i + 1) a w]
    constructor
    · rintro ⟨t, v, h1, h2, h3⟩
      exact ⟨t + 1, v, by omega, h2, h3⟩
    · rintro ⟨t, v, h1, h2, h3⟩
      cases t with
      | zero => simp at h2
      | succ t => exact ⟨t, v, by omega, h2, h3⟩
  | some u :: r, i, a, w => by
    rw [mg_as, List.mem_cons, mg_as_mem ad r (i + 1) a w]
    constructor
    · rintro (h | ⟨t, v, h1, h2, h3⟩)
      · cases h
        exact ⟨0, u, rfl, rfl, rfl⟩
      · exact ⟨t + 1, v, by omega, h2, h3⟩
    · rintro ⟨t, v, h1, h2, h3⟩
      cases t with
      | zero =>
        have : u = v := by simpa using h2
        subst this
        exact Or.inl (by rw [h1, h3]; rfl)
      | succ t => exact Or.inr ⟨t, v, by omega, h2, h3⟩
theorem mg_L.has {ad : Nat → Nat} {n : Nat} {lv : List (Option Value)} {ls : Array Slot} (h : mg_L ad n lv ls) : lv_has ls n (mg_as ad 0 lv) := ⟨h.1, h.2.1, fun q hq => by
  obtain ⟨a, w⟩ := q
  obtain ⟨t, v, h1, h2, h3⟩ := (mg_as_mem ad lv 0 a w).mp hq
  have ht : a = t := by omega
  subst ht; subst h3
  exact h.2.2 _ v h2⟩
/-- no long ends where the store begins -/
def mg_ok (lv : List (Option Value)) (i : Nat) : Bool := match i with
  | 0 => true
  | i + 1 => match lv[i]? with
    | some (some v) => !(v.category == 2)
    | _ => true
theorem mg_L.set1 {ad : Nat → Nat} {n i : Nat} {lv : List (Option Value)} {ls' : Array Slot} {v : Value} (hok : mg_ok lv i = true)
    (h' : lv_has ls' n ((i, mg_tr ad v) :: (mg_as ad 0 lv).filter (fun q => !(q.1 == i) && !(q.1 + 1 == i && q.2.category == 2)))) : mg_L ad n (lv.set i (some v)) ls' := by
  refine ⟨h'.1, h'.2.1, fun t w hw => ?_⟩
  by_cases ht : t = i
  · subst ht
    have hw2 : w = v := by
      by_cases hl : t < lv.length
      · rw [List.getElem?_set_self hl] at hw
        exact (Option.some.inj (Option.some.inj hw)).symm
      · rw [List.getElem?_eq_none (by rw [List.length_set]; omega)] at hw
        cases hw
    subst hw2
    exact h'.2.2 _ List.mem_cons_self
  · rw [List.getElem?_set_ne (Ne.symm ht)] at hw
    refine h'.2.2 (t, mg_tr ad w) (List.mem_cons_of_mem _ (List.mem_filter.mpr ⟨(mg_as_mem ad lv 0 t _).mpr ⟨t, w, by omega, hw, rfl⟩, ?_⟩))
    have h1 : (t == i) = false := by simpa using ht
    have h2 : (t + 1 == i && (mg_tr ad w).category == 2) = false := by
      by_cases hti : t + 1 = i
      · subst hti
        simp only [mg_ok, hw] at hok
        rw [mg_tr_cat]
        simpa using hok
      · simp [hti]
    simp only [h1, h2]
    rfl
theorem mg_L.set2 {ad : Nat → Nat} {n i : Nat} {lv : List (Option Value)} {ls' : Array Slot} {v : Value} (hok : mg_ok lv i = true)
    (h' : lv_has ls' n ((i, mg_tr ad v) :: (mg_as ad 0 lv).filter (fun q => !(q.1 == i) && (!(q.1 == i + 1) && !(q.1 + 1 == i && q.2.category == 2))))) : mg_L ad n ((lv.set i (some v)).set (i + 1) none) ls' := by
  refine ⟨h'.1, h'.2.1, fun t w hw => ?_⟩
  by_cases ht1 : t = i + 1
  · subst ht1
    by_cases hl : i + 1 < (lv.set i (some v)).length
    · rw [List.getElem?_set_self hl] at hw
      cases Option.some.inj hw
    · rw [List.getElem?_eq_none (by rw [List.length_set]; omega)] at hw
      cases hw
  · rw [List.getElem?_set_ne (Ne.symm ht1)] at hw
    by_cases ht : t = i
    · subst ht
      have hw2 : w = v := by
        by_cases hl : t < lv.length
        · rw [List.getElem?_set_self hl] at hw
          exact (Option.some.inj (Option.some.inj hw)).symm
        · rw [List.getElem?_eq_none (by rw [List.length_set]; omega)] at hw
          cases hw
      subst hw2
      exact h'.2.2 _ List.mem_cons_self
    · rw [List.getElem?_set_ne (Ne.symm ht)] at hw
      refine h'.2.2 (t, mg_tr ad w) (List.mem_cons_of_mem _ (List.mem_filter.mpr ⟨(mg_as_mem ad lv 0 t _).mpr ⟨t, w, by omega, hw, rfl⟩, ?_⟩))
      have h1 : (t == i) = false := by simpa using ht
      have h3 : (t == i + 1) = false := by simpa using ht1
      have h2 : (t + 1 == i && (mg_tr ad w).category == 2) = false := by
        by_cases hti : t + 1 = i
        · subst hti
          simp only [mg_ok, hw] at hok
          rw [mg_tr_cat]
          simpa using hok
        · simp [hti]
      simp only [h1, h2, h3]
      rfl
theorem mg_cL.set {M : mg_M} {lv : List (Option Value)} {i : Nat} {v : Value} (h : mg_cL M lv) (hv : mg_cv M v) : mg_cL M (lv.set i (some v)) := fun t w hw => by
  by_cases ht : t = i
  · subst ht
    by_cases hl : t < lv.length
    · rw [List.getElem?_set_self hl] at hw
      rw [← Option.some.inj (Option.some.inj hw)]; exact hv
    · rw [List.getElem?_eq_none (by rw [List.length_set]; omega)] at hw
      cases hw
  · rw [List.getElem?_set_ne (Ne.symm ht)] at hw
    exact h t w hw
theorem mg_cL.setN {M : mg_M} {lv : List (Option Value)} {i : Nat} (h : mg_cL M lv) : mg_cL M (lv.set i none) := fun t w hw => by
  by_cases ht : t = i
  · subst ht
    by_cases hl : t < lv.length
    · rw [List.getElem?_set_self hl] at hw
      cases Option.some.inj hw
    · rw [List.getElem?_eq_none (by rw [List.length_set]; omega)] at hw
      cases hw
  · rw [List.getElem?_set_ne (Ne.symm ht)] at hw
    exact h t w hw
theorem mg_cL.mono {M M' : mg_M} {lv : List (Option Value)} (h : mg_cL M lv) (hd : ∀ k, M k ≠ none → M' k ≠ none) : mg_cL M' lv := fun i v hv => (h i v hv).mono hd
section MGS
variable {X : mg_X} {Y : mg_Y} {Q : State → Prop} {M : mg_M} {k j pc : Nat} {lv : List (Option Value)} {rest : List Value}
theorem mg_istore_n {q : Fin 4} {i : Nat} {x : Int32} (hd : decode (mg_cc Y) pc = .ok (.istore_n q, 1)) (hi : (q : Nat) = i) (hn : i < mg_nl Y) (hok : mg_ok lv i = true) (kk : mg_G X Y Q M k j (pc + 1) (lv.set i (some (.int x))) rest) : mg_G X Y Q M k j pc lv (.int x :: rest) := by
  obtain ⟨p, l, e, R, s, m, args, below, meth, c, D, gT, M0, ad0⟩ := X
  obtain ⟨yy, cc, n, ret⟩ := Y
  intro hC ad H locs ls hH hL hk hlv hst hS
  exact lv_istore_n hC.1 hC.2.1 hd hi hL.has hn rfl (fun ls' h' => kk hC ad H locs ls' hH (mg_L.set1 (v := .int x) hok h') hk (hlv.set (trivial)) hst.tl hS)
theorem mg_istore {i : Nat} {x : Int32} (hd : decode (mg_cc Y) pc = .ok (.istore i, 2)) (hn : i < mg_nl Y) (hok : mg_ok lv i = true) (kk : mg_G X Y Q M k j (pc + 2) (lv.set i (some (.int x))) rest) : mg_G X Y Q M k j pc lv (.int x :: rest) := by
  obtain ⟨p, l, e, R, s, m, args, below, meth, c, D, gT, M0, ad0⟩ := X
  obtain ⟨yy, cc, n, ret⟩ := Y
  intro hC ad H locs ls hH hL hk hlv hst hS
  exact lv_istore hC.1 hC.2.1 hd hL.has hn rfl (fun ls' h' => kk hC ad H locs ls' hH (mg_L.set1 (v := .int x) hok h') hk (hlv.set (trivial)) hst.tl hS)
theorem mg_astore_n {q : Fin 4} {i : Nat} {x : Nat} (hd : decode (mg_cc Y) pc = .ok (.astore_n q, 1)) (hi : (q : Nat) = i) (hn : i < mg_nl Y) (hok : mg_ok lv i = true) (kk : mg_G X Y Q M k j (pc + 1) (lv.set i (some (.ref x))) rest) : mg_G X Y Q M k j pc lv (.ref x :: rest) := by
  obtain ⟨p, l, e, R, s, m, args, below, meth, c, D, gT, M0, ad0⟩ := X
  obtain ⟨yy, cc, n, ret⟩ := Y
  intro hC ad H locs ls hH hL hk hlv hst hS
  exact lv_astore_n hC.1 hC.2.1 hd hi hL.has hn rfl (fun ls' h' => kk hC ad H locs ls' hH (mg_L.set1 (v := .ref x) hok h') hk (hlv.set (hst.hd)) hst.tl hS)
theorem mg_astore {i : Nat} {x : Nat} (hd : decode (mg_cc Y) pc = .ok (.astore i, 2)) (hn : i < mg_nl Y) (hok : mg_ok lv i = true) (kk : mg_G X Y Q M k j (pc + 2) (lv.set i (some (.ref x))) rest) : mg_G X Y Q M k j pc lv (.ref x :: rest) := by
  obtain ⟨p, l, e, R, s, m, args, below, meth, c, D, gT, M0, ad0⟩ := X
  obtain ⟨yy, cc, n, ret⟩ := Y
  intro hC ad H locs ls hH hL hk hlv hst hS
  exact lv_astore hC.1 hC.2.1 hd hL.has hn rfl (fun ls' h' => kk hC ad H locs ls' hH (mg_L.set1 (v := .ref x) hok h') hk (hlv.set (hst.hd)) hst.tl hS)
theorem mg_astore_nN {q : Fin 4} {i : Nat} (hd : decode (mg_cc Y) pc = .ok (.astore_n q, 1)) (hi : (q : Nat) = i) (hn : i < mg_nl Y) (hok : mg_ok lv i = true) (kk : mg_G X Y Q M k j (pc + 1) (lv.set i (some .null)) rest) : mg_G X Y Q M k j pc lv (.null :: rest) := by
  obtain ⟨p, l, e, R, s, m, args, below, meth, c, D, gT, M0, ad0⟩ := X
  obtain ⟨yy, cc, n, ret⟩ := Y
  intro hC ad H locs ls hH hL hk hlv hst hS
  exact lv_astore_nN hC.1 hC.2.1 hd hi hL.has hn rfl (fun ls' h' => kk hC ad H locs ls' hH (mg_L.set1 (v := .null) hok h') hk (hlv.set trivial) hst.tl hS)
theorem mg_astoreN {i : Nat} (hd : decode (mg_cc Y) pc = .ok (.astore i, 2)) (hn : i < mg_nl Y) (hok : mg_ok lv i = true) (kk : mg_G X Y Q M k j (pc + 2) (lv.set i (some .null)) rest) : mg_G X Y Q M k j pc lv (.null :: rest) := by
  obtain ⟨p, l, e, R, s, m, args, below, meth, c, D, gT, M0, ad0⟩ := X
  obtain ⟨yy, cc, n, ret⟩ := Y
  intro hC ad H locs ls hH hL hk hlv hst hS
  exact lv_astoreN hC.1 hC.2.1 hd hL.has hn rfl (fun ls' h' => kk hC ad H locs ls' hH (mg_L.set1 (v := .null) hok h') hk (hlv.set trivial) hst.tl hS)
theorem mg_lstore_n {q : Fin 4} {i : Nat} {x : Int64} (hd : decode (mg_cc Y) pc = .ok (.lstore_n q, 1)) (hi : (q : Nat) = i) (hn : i + 1 < mg_nl Y) (hok : mg_ok lv i = true) (kk : mg_G X Y Q M k j (pc + 1) ((lv.set i (some (.long x))).set (i + 1) none) rest) : mg_G X Y Q M k j pc lv (.long x :: rest) := by
  obtain ⟨p, l, e, R, s, m, args, below, meth, c, D, gT, M0, ad0⟩ := X
  obtain ⟨yy, cc, n, ret⟩ := Y
  intro hC ad H locs ls hH hL hk hlv hst hS
  exact lv_lstore_n hC.1 hC.2.1 hd hi hL.has hn rfl (fun ls' h' => kk hC ad H locs ls' hH (mg_L.set2 (v := .long x) hok h') hk (mg_cL.setN (mg_cL.set (v := .long x) hlv trivial)) hst.tl hS)
theorem mg_lstore {i : Nat} {x : Int64} (hd : decode (mg_cc Y) pc = .ok (.lstore i, 2)) (hn : i + 1 < mg_nl Y) (hok : mg_ok lv i = true) (kk : mg_G X Y Q M k j (pc + 2) ((lv.set i (some (.long x))).set (i + 1) none) rest) : mg_G X Y Q M k j pc lv (.long x :: rest) := by
  obtain ⟨p, l, e, R, s, m, args, below, meth, c, D, gT, M0, ad0⟩ := X
  obtain ⟨yy, cc, n, ret⟩ := Y
  intro hC ad H locs ls hH hL hk hlv hst hS
  exact lv_lstore hC.1 hC.2.1 hd hL.has hn rfl (fun ls' h' => kk hC ad H locs ls' hH (mg_L.set2 (v := .long x) hok h') hk (mg_cL.setN (mg_cL.set (v := .long x) hlv trivial)) hst.tl hS)
theorem mg_iinc {i : Nat} {z : Int} {x v : Int32} (hd : decode (mg_cc Y) pc = .ok (.iinc i z, 3)) (hl : lv[i]? = some (some (.int x))) (hv : x + Int32.ofInt z = v) (hn : i < mg_nl Y) (hok : mg_ok lv i = true) (kk : mg_G X Y Q M k j (pc + 3) (lv.set i (some (.int v))) rest) : mg_G X Y Q M k j pc lv rest := by
  obtain ⟨p, l, e, R, s, m, args, below, meth, c, D, gT, M0, ad0⟩ := X
  obtain ⟨yy, cc, n, ret⟩ := Y
  intro hC ad H locs ls hH hL hk hlv hst hS
  obtain ⟨q, hq⟩ := List.getElem?_of_mem ((mg_as_mem ad lv 0 i (.int x)).mpr ⟨i, .int x, by omega, hl, rfl⟩)
  exact lv_iinc hC.1 hC.2.1 hd hL.has hq hv hn rfl (fun ls' h' => kk hC ad H locs ls' hH (mg_L.set1 (v := .int v) hok h') hk (hlv.set trivial) hst hS)
end MGS
/-! fields, arrays, new -/
/-- a field reference of a class: pool index ix names field f of class number ci -/
def mg_FL (own : String) (ix ci f : Nat) : Prop := ∃ (C : String) (T : u_T) (N : Nat) (ref : String), mg_cl[ci]? = some (C, T, N) ∧ f < N ∧ (∀ w ∈ u_ws C T N, w ∈ mg_GT) ∧ (ref = (T f).1 ∨ Cond.sameField ref (T f).1 (T f).2.1 (T f).2.2.1 ∈ mg_GT) ∧ (Cond.fieldLink own ix ref (T f).2.1 (T f).2.2.1 ∈ mg_GT ∨ ∃ host, Cond.fieldLinkNest own ix ref (T f).2.1 (T f).2.2.1 host ∈ mg_NW)
/-- .. that may be written: its type; final ones in their constructor -/
def mg_FW (own nm : String) (ix ci f : Nat) (ty : FieldType) : Prop := ∃ (C : String) (T : u_T) (N : Nat) (t0 : Nat → FieldType) (ref : String), mg_cl[ci]? = some (C, T, N) ∧ f < N ∧ (∀ w ∈ u_ws C T N, w ∈ mg_GT) ∧ ref = (T f).1 ∧ (∀ k, k < N → parseFieldDescriptor (T k).2.2.1 = some (t0 k)) ∧ (∀ a, a < N → ∀ b, b < N → a ≠ b → (T a).2.1 ≠ (T b).2.1) ∧ parseFieldDescriptor (T f).2.2.1 = some ty ∧
  (((T f).2.2.2 = false ∧ (Cond.fieldLink own ix ref (T f).2.1 (T f).2.2.1 ∈ mg_GT ∨ ∃ host, Cond.fieldLinkNest own ix ref (T f).2.1 (T f).2.2.1 host ∈ mg_NW)) ∨ ((T f).2.2.2 = true ∧ nm = "<init>" ∧ (T f).1 = own ∧ Cond.fieldLink own ix ref (T f).2.1 (T f).2.2.1 ∈ mg_GT))
def mg_NL (own : String) (ix ci N : Nat) (fs : List Value) : Prop := ∃ (C : String) (T : u_T) (t0 : Nat → FieldType), mg_cl[ci]? = some (C, T, N) ∧ (∀ w ∈ u_ws C T N, w ∈ mg_GT) ∧ (∀ k, k < N → parseFieldDescriptor (T k).2.2.1 = some (t0 k)) ∧ Cond.classLink own ix C ∈ mg_GT ∧ Cond.instantiable C N ∈ mg_GT ∧ Cond.initialized C ∈ mg_GT ∧ (∀ j, j < N → defaultValue (t0 j) = vp_V fs j) ∧ ∀ ad, fs.map (mg_tr ad) = fs
section MGM
variable {X : mg_X} {Y : mg_Y} {Q : State → Prop} {M : mg_M} {k j pc : Nat} {lv : List (Option Value)} {rest : List Value}
theorem mg_getfield {ix ci f a : Nat} {fs : List Value} {v : Value} (L : mg_FL (mg_own Y) ix ci f) (hd : decode (mg_cc Y) pc = .ok (.getfield ix, 3)) (hM : M a = some (.inr (ci, fs))) (hv : fs[f]? = some v) (kk : mg_G X Y Q M k j (pc + 3) lv (v :: rest)) : mg_G X Y Q M k j pc lv (.ref a :: rest) := by
  obtain ⟨p, l, e, R, s, m, args, below, meth, c, D, gT, M0, ad0⟩ := X
  obtain ⟨yy, cc, n, ret⟩ := Y
  intro hC ad H locs ls hH hL hk hlv hst hS
  obtain ⟨C, T, N, ref, hc, hf, hin, href, hlink⟩ := L
  obtain ⟨hx, hb, hr, hml, hown, hts, hK, hlo, hnm⟩ := id hC
  obtain ⟨ws, q0, hP, hD, hq, -⟩ := hH.use hM
  have hsame : ∀ x, s.fieldFound? (T f).1 (T f).2.1 (T f).2.2.1 = some x → s.fieldFound? ref (T f).2.1 (T f).2.2.1 = some x := fun x hx => by
    rcases href with rfl | href
    · exact hx
    · exact u_same (hts _ href) x hx
  have hv2 : (fs.map (mg_tr ad))[f]? = some (mg_tr ad v) := by rw [List.getElem?_map, hv]; rfl
  have kk := kk hC ad H locs ls hH hL hk hlv (hst.tl.cons (hH.closed hM v (List.mem_of_getElem? hv))) hS
  rcases hlink with hlink | ⟨host, hlink⟩
  · exact va_get hx hb hts hin hown hK.va hP q0 hq hc f hf (hts _ hlink) hsame hv2 hd kk
  · exact va_getN hx hb hts hin hown hK.va hP q0 hq hc f hf (va_Nw.use rfl (hK.2.2.1 _ hlink)) hsame hv2 hd kk
theorem mg_putfield {ix ci f a : Nat} {fs : List Value} {v : Value} {ty : FieldType} (L : mg_FW (mg_own Y) Y.1.name ix ci f ty) (hd : decode (mg_cc Y) pc = .ok (.putfield ix, 3)) (hM : M a = some (.inr (ci, fs))) (hl : f < fs.length) (hfit : ∀ ad, narrow ty (mg_tr ad v) = mg_tr ad v ∧ fits ty (mg_tr ad v) = true) (kk : mg_G X Y Q (mg_up M a (.inr (ci, fs.set f v))) k j (pc + 3) lv rest) : mg_G X Y Q M k j pc lv (v :: .ref a :: rest) := by
  obtain ⟨p, l, e, R, s, m, args, below, meth, c, D, gT, M0, ad0⟩ := X
  obtain ⟨yy, cc, n, ret⟩ := Y
  intro hC ad H locs ls hH hL hk hlv hst hS
  obtain ⟨C, T, N, t0, ref, hc, hf, hin, rfl, hty, hnd, hd2, hw⟩ := L
  obtain ⟨hx, hb, hr, hml, hown, hts, hK, hlo, hnm⟩ := id hC
  obtain ⟨ws, q0, hP, hD, hq, -, hset⟩ := hH.use hM
  have hkd := mg_some hM
  have hcE : mg_cE M (.inr (ci, fs.set f v)) := fun w hw => by
    rcases List.mem_or_eq_of_mem_set hw with hw | rfl
    · exact hH.closed hM w hw
    · exact hst.hd
  have hmap : (fs.map (mg_tr ad)).set f (mg_tr ad v) = (fs.set f v).map (mg_tr ad) := by rw [List.map_set]
  have go : ∀ (H1 : Heap) (locs1 : List Loc), va_P D mg_cl (ws.set q0 (ad a, .inr (ci, (fs.map (mg_tr ad)).set f (mg_tr ad v)))) H1 → va_D (mg_A ad0 M0 s.heap.size) (ws.set q0 (ad a, .inr (ci, (fs.map (mg_tr ad)).set f (mg_tr ad v)))) → va_S (mg_A ad0 M0 s.heap.size) s.heap H1 locs1 → W p l e R s m args below meth c H1 locs1 k j Q (F0 m (pc + 3) ls (rest.map (mg_tr ad))) := fun H1 locs1 hP1 hD1 hS1 => by
    rw [hmap] at hP1 hD1
    exact kk hC ad H1 locs1 ls (hset (.inr (ci, fs.set f v)) H1 hcE hP1 hD1) hL (fun q hq => ⟨((hk q hq).1).imp id mg_up_dom, (hk q hq).2⟩) (hlv.mono fun _ h => mg_up_dom h) (hst.tl.tl.mono fun _ h => mg_up_dom h) hS1
  have hl2 : f < (fs.map (mg_tr ad)).length := by rw [List.length_map]; exact hl
  rcases hw with ⟨hfin, hlink | ⟨host, hlink⟩⟩ | ⟨hfin, hnm2, hdc, hlink⟩
  · exact va_put hx hb hts hin t0 hty hnd hown hK.va hP hD hS q0 hq hc f hf (hts _ hlink) (fun _ h => h) hfin hd2 (hfit ad).1 (hfit ad).2 hl2 hd go
  · exact va_putN hx hb hts hin t0 hty hnd hown hK.va hP hD hS q0 hq hc f hf (va_Nw.use rfl (hK.2.2.1 _ hlink)) (fun _ h => h) hfin hd2 (hfit ad).1 (hfit ad).2 hl2 hd go
  · exact va_putF hx hb hts hin t0 hty hnd hown hK.va hP hD hS q0 hq hc f hf (hts _ hlink) (fun _ h => h) hfin (hnm.trans hnm2) hdc hd2 (hfit ad).1 (hfit ad).2 hl2 hd go
theorem mg_arrlen {t a : Nat} {ty : FieldType} {z : vp_A} {v : Int32} (ht : mg_at[t]? = some ty) (hd : decode (mg_cc Y) pc = .ok (.arraylength, 1)) (hM : M a = some (.inl (t, z))) (hv : Int32.ofNat z.1 = v) (kk : mg_G X Y Q M k j (pc + 1) lv (.int v :: rest)) : mg_G X Y Q M k j pc lv (.ref a :: rest) := by
  obtain ⟨p, l, e, R, s, m, args, below, meth, c, D, gT, M0, ad0⟩ := X
  obtain ⟨yy, cc, n, ret⟩ := Y
  intro hC ad H locs ls hH hL hk hlv hst hS
  obtain ⟨hx, hb, hr, hml, hown, hts, hK, hlo, hnm⟩ := id hC
  obtain ⟨ws, q0, hP, hD, hq, -⟩ := hH.use hM
  have hv2 : Int32.ofNat (mg_tA ad z).1 = v := by
    obtain ⟨nn, f | f | f | f | f⟩ := z <;> exact hv
  exact va_alen hx hb (hK.va1 ht) hP q0 0 hq rfl hv2 hd (kk hC ad H locs ls hH hL hk hlv (hst.tl.cons trivial) hS)
theorem mg_iaload {t a nn : Nat} {f : Nat → Int32} {i : Int32} (ht : mg_at[t]? = some .int) (hd : decode (mg_cc Y) pc = .ok (.iaload, 1)) (hM : M a = some (.inl (t, nn, .inl f))) (hin : vp_in i nn) (kk : mg_G X Y Q M k j (pc + 1) lv (.int (f i.toNatClampNeg) :: rest)) : mg_G X Y Q M k j pc lv (.int i :: .ref a :: rest) := by
  obtain ⟨p, l, e, R, s, m, args, below, meth, c, D, gT, M0, ad0⟩ := X
  obtain ⟨yy, cc, n, ret⟩ := Y
  intro hC ad H locs ls hH hL hk hlv hst hS
  obtain ⟨hx, hb, hr, hml, hown, hts, hK, hlo, hnm⟩ := id hC
  obtain ⟨ws, q0, hP, hD, hq, -⟩ := hH.use hM
  exact va_iald hx hb (hK.va1 ht) hP q0 0 hq rfl hin hd (kk hC ad H locs ls hH hL hk hlv (hst.tl.tl.cons trivial) hS)
theorem mg_iastore {t a nn : Nat} {f : Nat → Int32} {i x : Int32} (ht : mg_at[t]? = some .int) (hd : decode (mg_cc Y) pc = .ok (.iastore, 1)) (hM : M a = some (.inl (t, nn, .inl f))) (hin : vp_in i nn) (kk : mg_G X Y Q (mg_up M a (.inl (t, nn, .inl (upd f i.toNatClampNeg x)))) k j (pc + 1) lv rest) : mg_G X Y Q M k j pc lv (.int x :: .int i :: .ref a :: rest) := by
  obtain ⟨p, l, e, R, s, m, args, below, meth, c, D, gT, M0, ad0⟩ := X
  obtain ⟨yy, cc, n, ret⟩ := Y
  intro hC ad H locs ls hH hL hk hlv hst hS
  obtain ⟨hx, hb, hr, hml, hown, hts, hK, hlo, hnm⟩ := id hC
  obtain ⟨ws, q0, hP, hD, hq, -, hset⟩ := hH.use hM
  exact va_iast hx hb (hK.va1 ht) hP hD hS q0 0 hq rfl hin hd (fun H1 locs1 hP1 hD1 hS1 => kk hC ad H1 locs1 ls (hset (.inl (t, nn, .inl (upd f i.toNatClampNeg x))) H1 trivial hP1 hD1) hL (fun q hq => ⟨((hk q hq).1).imp id mg_up_dom, (hk q hq).2⟩) (hlv.mono fun _ h => mg_up_dom h) (hst.tl.tl.tl.mono fun _ h => mg_up_dom h) hS1)
theorem mg_zaload {t a nn : Nat} {f : Nat → Int32} {i : Int32} (ht : mg_at[t]? = some .boolean) (hd : decode (mg_cc Y) pc = .ok (.baload, 1)) (hM : M a = some (.inl (t, nn, .inl f))) (hin : vp_in i nn) (kk : mg_G X Y Q M k j (pc + 1) lv (.int (f i.toNatClampNeg) :: rest)) : mg_G X Y Q M k j pc lv (.int i :: .ref a :: rest) := by
  obtain ⟨p, l, e, R, s, m, args, below, meth, c, D, gT, M0, ad0⟩ := X
  obtain ⟨yy, cc, n, ret⟩ := Y
  intro hC ad H locs ls hH hL hk hlv hst hS
  obtain ⟨hx, hb, hr, hml, hown, hts, hK, hlo, hnm⟩ := id hC
  obtain ⟨ws, q0, hP, hD, hq, -⟩ := hH.use hM
  exact va_zald hx hb (hK.va1 ht) hP q0 0 hq rfl hin hd (kk hC ad H locs ls hH hL hk hlv (hst.tl.tl.cons trivial) hS)
theorem mg_laload {t a nn : Nat} {f : Nat → Int64} {i : Int32} (ht : mg_at[t]? = some .long) (hd : decode (mg_cc Y) pc = .ok (.laload, 1)) (hM : M a = some (.inl (t, nn, .inr (.inl f)))) (hin : vp_in i nn) (kk : mg_G X Y Q M k j (pc + 1) lv (.long (f i.toNatClampNeg) :: rest)) : mg_G X Y Q M k j pc lv (.int i :: .ref a :: rest) := by
  obtain ⟨p, l, e, R, s, m, args, below, meth, c, D, gT, M0, ad0⟩ := X
  obtain ⟨yy, cc, n, ret⟩ := Y
  intro hC ad H locs ls hH hL hk hlv hst hS
  obtain ⟨hx, hb, hr, hml, hown, hts, hK, hlo, hnm⟩ := id hC
  obtain ⟨ws, q0, hP, hD, hq, -⟩ := hH.use hM
  exact va_lald hx hb (hK.va1 ht) hP q0 0 hq rfl hin hd (kk hC ad H locs ls hH hL hk hlv (hst.tl.tl.cons trivial) hS)
theorem mg_rf_tr (ad : Nat → Nat) (r : Option Nat) : mg_tr ad (va_rf r) = va_rf (r.map ad) := by cases r <;> rfl
theorem mg_aaload {t a nn : Nat} {C : String} {f : Nat → Option Nat} {i : Int32} (ht : mg_at[t]? = some (.object C)) (hd : decode (mg_cc Y) pc = .ok (.aaload, 1)) (hM : M a = some (.inl (t, nn, .inr (.inr (.inr (.inr f)))))) (hin : vp_in i nn) (kk : mg_G X Y Q M k j (pc + 1) lv (va_rf (f i.toNatClampNeg) :: rest)) : mg_G X Y Q M k j pc lv (.int i :: .ref a :: rest) := by
  obtain ⟨p, l, e, R, s, m, args, below, meth, c, D, gT, M0, ad0⟩ := X
  obtain ⟨yy, cc, n, ret⟩ := Y
  intro hC ad H locs ls hH hL hk hlv hst hS
  obtain ⟨hx, hb, hr, hml, hown, hts, hK, hlo, hnm⟩ := id hC
  obtain ⟨ws, q0, hP, hD, hq, -⟩ := hH.use hM
  have hcl : mg_cv M (va_rf (f i.toNatClampNeg)) := by
    cases hfi : f i.toNatClampNeg with
    | none => trivial
    | some z => exact (hH.closed hM) _ z hfi
  have kk := kk hC ad H locs ls hH hL hk hlv (hst.tl.tl.cons hcl) hS
  rw [List.map_cons, mg_rf_tr] at kk
  exact va_aldq hx hb (hK.va1 ht) hP q0 0 hq rfl hin hd kk
theorem mg_aastore {t a nn v ci : Nat} {E : String} {r : vw_C} {vs : List Value} {f : Nat → Option Nat} {i : Int32} (ht : mg_at[t]? = some (.object E)) (hc : mg_cl[ci]? = some r) (hca : r.1 = E ∨ Cond.castable r.1 E ∈ mg_NW) (hd : decode (mg_cc Y) pc = .ok (.aastore, 1)) (hM : M a = some (.inl (t, nn, .inr (.inr (.inr (.inr f)))))) (hV : M v = some (.inr (ci, vs))) (hin : vp_in i nn) (kk : mg_G X Y Q (mg_up M a (.inl (t, nn, .inr (.inr (.inr (.inr (va_up f i.toNatClampNeg (some v)))))))) k j (pc + 1) lv rest) : mg_G X Y Q M k j pc lv (.ref v :: .int i :: .ref a :: rest) := by
  obtain ⟨p, l, e, R, s, m, args, below, meth, c, D, gT, M0, ad0⟩ := X
  obtain ⟨yy, cc, n, ret⟩ := Y
  intro hC ad H locs ls hH hL hk hlv hst hS
  obtain ⟨hx, hb, hr, hml, hown, hts, hK, hlo, hnm⟩ := id hC
  obtain ⟨ws, q0, hP, hD, hq, hoth, hset⟩ := hH.use hM
  obtain ⟨q2, hq2⟩ := hoth v _ hV
  have hcE : mg_cE M (.inl (t, nn, .inr (.inr (.inr (.inr (va_up f i.toNatClampNeg (some v))))))) := fun z w hzw => by
    by_cases hz : z = i.toNatClampNeg
    · subst hz
      rw [show va_up f i.toNatClampNeg (some v) i.toNatClampNeg = some v by simp [va_up]] at hzw
      cases hzw
      exact Or.inr (mg_some hV)
    · rw [show va_up f i.toNatClampNeg (some v) z = f z by simp [va_up, hz]] at hzw
      exact (hH.closed hM) z w hzw
  have hmap : (fun z => ((va_up f i.toNatClampNeg (some v)) z).map ad) = va_up (fun z => (f z).map ad) i.toNatClampNeg (some (ad v)) := by
    funext z
    by_cases hz : z = i.toNatClampNeg
    · subst hz; simp [va_up]
    · simp [va_up, hz]
  have go : ∀ (H1 : Heap) (locs1 : List Loc), va_P D mg_cl (ws.set q0 (ad a, .inl (gT t, nn, .inr (.inr (.inr (.inr (va_up (fun z => (f z).map ad) i.toNatClampNeg (some (ad v))))))))) H1 → va_D (mg_A ad0 M0 s.heap.size) (ws.set q0 (ad a, .inl (gT t, nn, .inr (.inr (.inr (.inr (va_up (fun z => (f z).map ad) i.toNatClampNeg (some (ad v))))))))) → va_S (mg_A ad0 M0 s.heap.size) s.heap H1 locs1 → W p l e R s m args below meth c H1 locs1 k j Q (F0 m (pc + 1) ls (rest.map (mg_tr ad))) := fun H1 locs1 hP1 hD1 hS1 => by
    rw [← hmap] at hP1 hD1
    exact kk hC ad H1 locs1 ls (hset (.inl (t, nn, .inr (.inr (.inr (.inr (va_up f i.toNatClampNeg (some v))))))) H1 hcE hP1 hD1) hL (fun q hq => ⟨((hk q hq).1).imp id mg_up_dom, (hk q hq).2⟩) (hlv.mono fun _ h => mg_up_dom h) (hst.tl.tl.tl.mono fun _ h => mg_up_dom h) hS1
  rcases hca with rfl | hca
  · exact va_astq hx hb (hK.va1 ht) hP hD hS q0 0 q2 ci hq rfl hq2 hc hin hd go
  · exact va_astqO hx hb (hK.va1 ht) hP hD hS q0 0 q2 ci hq rfl (hK.2.2.1 _ hca) hq2 hc hin hd go
theorem mg_new {ix ci N h : Nat} {fs : List Value} (L : mg_NL (mg_own Y) ix ci N fs) (hd : decode (mg_cc Y) pc = .ok (.new ix, 3)) (hk0 : h ≠ 0) (hM : M h = none) (hcl : ∀ v ∈ fs, mg_cv M v) (hc1 : k + 1 ≤ (mg_R X).cells) (hc2 : j + N ≤ (mg_R X).slots) (kk : mg_G X Y Q (mg_up M h (.inr (ci, fs))) (k + 1) (j + N) (pc + 3) lv (.ref h :: rest)) : mg_G X Y Q M k j pc lv rest := by
  obtain ⟨p, l, e, R, s, m, args, below, meth, c, D, gT, M0, ad0⟩ := X
  obtain ⟨yy, cc, n, ret⟩ := Y
  intro hC ad H locs ls hH hL hk hlv hst hS
  obtain ⟨C, T, t0, hc, hin, hty, hw1, hw2, hw3, hfs, hmap⟩ := L
  obtain ⟨hx, hb, hr, hml, hown, hts, hK, hlo, hnm⟩ := id hC
  obtain ⟨ws, hP, hD, hnew⟩ := hH.new
  refine va_new hx hb hts hin t0 hty hown (hts _ hw1) (hts _ hw2) (hts _ hw3) hK.va hP hD hS (fun q hq => Or.inr hq) hc hfs hc1 hc2 hd (fun q H1 hP1 hD1 hS1 => ?_)
  have hE : mg_tE gT ad (.inr (ci, fs)) = .inr (ci, fs) := by show Sum.inr (ci, fs.map (mg_tr ad)) = _; rw [hmap]
  rw [← hE] at hP1 hD1
  have hH1 := hnew h (.inr (ci, fs)) q H1 hk0 hM hcl hP1 hD1
  have had : ∀ z, z = 0 ∨ M z ≠ none → va_up ad h q z = ad z := fun z hz => by
    have hne : z ≠ h := fun hzh => by
      subst hzh
      rcases hz with hz | hz
      · exact hk0 hz
      · exact hz hM
    simp [va_up, hne]
  have hLn : mg_L (va_up ad h q) n lv ls := ⟨hL.1, hL.2.1, fun i v hv => by rw [mg_tr_eq (hlv i v hv) had]; exact hL.2.2 i v hv⟩
  have hmp : rest.map (mg_tr ad) = rest.map (mg_tr (va_up ad h q)) := List.map_congr_left fun v hv => (mg_tr_eq (hst v hv) had).symm
  have hhd : (.ref q : Value) = mg_tr (va_up ad h q) (.ref h) := by show _ = Value.ref _; simp [va_up]
  rw [hmp, hhd]
  exact kk hC (va_up ad h q) H1 locs ls hH1 hLn (fun z hz => ⟨((hk z hz).1).imp id mg_up_dom, (had z (hk z hz).1).trans (hk z hz).2⟩) (hlv.mono fun _ hh => mg_up_dom hh) ((hst.mono fun _ hh => mg_up_dom hh).cons (Or.inr (by rw [mg_up_s]; exact fun hh => by cases hh))) hS1
theorem mg_newarr {t nn h : Nat} {z : Int32} (ht : mg_at[t]? = some .int) (hw : Cond.arrayClass .int ∈ mg_GT) (hd : decode (mg_cc Y) pc = .ok (.newarray .int, 2)) (hk0 : h ≠ 0) (hM : M h = none) (hz : ¬ z < 0) (hN : z.toNatClampNeg = nn) (hby : nn * 4 ≤ 536870912) (hc1 : k + 1 ≤ (mg_R X).cells) (hc2 : j + nn ≤ (mg_R X).slots) (kk : mg_G X Y Q (mg_up M h (.inl (t, nn, .inl (fun _ => 0)))) (k + 1) (j + nn) (pc + 2) lv (.ref h :: rest)) : mg_G X Y Q M k j pc lv (.int z :: rest) := by
  obtain ⟨p, l, e, R, s, m, args, below, meth, c, D, gT, M0, ad0⟩ := X
  obtain ⟨yy, cc, n, ret⟩ := Y
  intro hC ad H locs ls hH hL hk hlv hst hS
  obtain ⟨hx, hb, hr, hml, hown, hts, hK, hlo, hnm⟩ := id hC
  obtain ⟨ws, hP, hD, hnew⟩ := hH.new
  refine va_newa (atype := .int) (a0 := (nn, .inl (fun _ => 0))) hx hb (hts _ hw) rfl hK.va hP hD hS (fun q hq => Or.inr hq) (fun _ => rfl) hz hN hby hc1 hc2 hd (fun q cA H1 hKn hP1 hD1 hS1 => ?_)
  have hcA : cA = gT t := by
    have h1 := (hKn.2 0 _ rfl).2
    have h2 := (hK.2.1 t _ ht).2
    exact Option.some.inj (h1.symm.trans h2)
  subst hcA
  have hH1 := hnew h (.inl (t, nn, .inl (fun _ => 0))) q H1 hk0 hM trivial hP1 hD1
  have had : ∀ z, z = 0 ∨ M z ≠ none → va_up ad h q z = ad z := fun z hz => by
    have hne : z ≠ h := fun hzh => by
      subst hzh
      rcases hz with hz | hz
      · exact hk0 hz
      · exact hz hM
    simp [va_up, hne]
  have hLn : mg_L (va_up ad h q) n lv ls := ⟨hL.1, hL.2.1, fun i v hv => by rw [mg_tr_eq (hlv i v hv) had]; exact hL.2.2 i v hv⟩
  have hmp : rest.map (mg_tr ad) = rest.map (mg_tr (va_up ad h q)) := List.map_congr_left fun v hv => (mg_tr_eq (hst.tl v hv) had).symm
  have hhd : (.ref q : Value) = mg_tr (va_up ad h q) (.ref h) := by show _ = Value.ref _; simp [va_up]
  rw [hmp, hhd]
  exact kk hC (va_up ad h q) H1 locs ls hH1 hLn (fun z hz => ⟨((hk z hz).1).imp id mg_up_dom, (had z (hk z hz).1).trans (hk z hz).2⟩) (hlv.mono fun _ hh => mg_up_dom hh) ((hst.tl.mono fun _ hh => mg_up_dom hh).cons (Or.inr (by rw [mg_up_s]; exact fun hh => by cases hh))) hS1
theorem mg_anewarr {ix t nn h : Nat} {C : String} {z : Int32} (ht : mg_at[t]? = some (.object C)) (hw : Cond.classLink (mg_own Y) ix C ∈ mg_GT) (hao : C ∈ mg_AO) (hd : decode (mg_cc Y) pc = .ok (.anewarray ix, 3)) (hk0 : h ≠ 0) (hM : M h = none) (hz : ¬ z < 0) (hN : z.toNatClampNeg = nn) (hby : nn * 4 ≤ 536870912) (hc1 : k + 1 ≤ (mg_R X).cells) (hc2 : j + nn ≤ (mg_R X).slots) (kk : mg_G X Y Q (mg_up M h (.inl (t, nn, .inr (.inr (.inr (.inr (fun _ => none))))))) (k + 1) (j + nn) (pc + 3) lv (.ref h :: rest)) : mg_G X Y Q M k j pc lv (.int z :: rest) := by
  obtain ⟨p, l, e, R, s, m, args, below, meth, c, D, gT, M0, ad0⟩ := X
  obtain ⟨yy, cc, n, ret⟩ := Y
  intro hC ad H locs ls hH hL hk hlv hst hS
  obtain ⟨hx, hb, hr, hml, hown, hts, hK, hlo, hnm⟩ := id hC
  obtain ⟨ws, hP, hD, hnew⟩ := hH.new
  refine va_newq hx hb hown (hts _ hw) (hK.2.2.2 C hao) hK.va hP hD hS (fun q hq => Or.inr hq) hz hN hby hc1 hc2 hd (fun q cA H1 hKn hP1 hD1 hS1 => ?_)
  have hcA : cA = gT t := by
    obtain ⟨_, _, -, -, -, h1⟩ := (hKn.2 0 _ rfl).2
    obtain ⟨_, _, -, -, -, h2⟩ := (hK.2.1 t _ ht).2
    exact Option.some.inj (h1.symm.trans h2)
  subst hcA
  have hH1 := hnew h (.inl (t, nn, .inr (.inr (.inr (.inr (fun _ => none)))))) q H1 hk0 hM (fun _ _ hh => by cases hh) hP1 hD1
  have had : ∀ z, z = 0 ∨ M z ≠ none → va_up ad h q z = ad z := fun z hz => by
    have hne : z ≠ h := fun hzh => by
      subst hzh
      rcases hz with hz | hz
      · exact hk0 hz
      · exact hz hM
    simp [va_up, hne]
  have hLn : mg_L (va_up ad h q) n lv ls := ⟨hL.1, hL.2.1, fun i v hv => by rw [mg_tr_eq (hlv i v hv) had]; exact hL.2.2 i v hv⟩
  have hmp : rest.map (mg_tr ad) = rest.map (mg_tr (va_up ad h q)) := List.map_congr_left fun v hv => (mg_tr_eq (hst.tl v hv) had).symm
  have hhd : (.ref q : Value) = mg_tr (va_up ad h q) (.ref h) := by show _ = Value.ref _; simp [va_up]
  rw [hmp, hhd]
  exact kk hC (va_up ad h q) H1 locs ls hH1 hLn (fun z hz => ⟨((hk z hz).1).imp id mg_up_dom, (had z (hk z hz).1).trans (hk z hz).2⟩) (hlv.mono fun _ hh => mg_up_dom hh) ((hst.tl.mono fun _ hh => mg_up_dom hh).cons (Or.inr (by rw [mg_up_s]; exact fun hh => by cases hh))) hS1
end MGM
