/-! DRAWS: pick, draw, the next turn -/
def stepX (x : Int64) : Int64 := x * 6364136223846793005 + 1442695040888963407
def modX (x : Int64) (span : Int32) : Int32 := (((x.toUInt64 >>> ((33 : Int32).toInt64.toUInt64 &&& Int64.toUInt64 63)).toInt64) - ((x.toUInt64 >>> ((33 : Int32).toInt64.toUInt64 &&& Int64.toUInt64 63)).toInt64) / span.toInt64 * span.toInt64).toInt32
/-- what pick answers, and the state behind it -/
def pickF (how : Int32) (gv : List Int32) (place span : Int32) (x : Int64) : Int32 × Int64 := if how = 1 then (if span < 1 then -1 else modX (stepX x) span, stepX x) else if how = 2 then (atI gv place 0, x) else (atI gv place (-1), x)
theorem toInt64_ne {s : Int32} (h : ¬ s < 1) : ¬ s.toInt64 = 0 := by
  intro h2
  have h3 := congrArg Int64.toInt h2
  rw [Int32.toInt_toInt64] at h3
  apply h
  rw [Int32.lt_iff_toInt_lt]
  simp at h3 ⊢
  rw [h3]; decide

set_option maxHeartbeats 4000000 in
set_option maxRecDepth 100000 in
theorem c_Dr_pick {M : mg_M} {d : Nat} {how z : Int32} {gv cs ns : List Int32} {il : Bool} {x : Int64} {lm : Nat → Int32} (hD : isD M d (how, gv, z) (cs, ns, il, x, lm)) {place span : Int32} : mg_Ct Y_Dr_pick { frames := 1, cells := 0, slots := 0, locals := 22 } [.ref d, .int place, .int span] M (fun v M' => v = some (.int (pickF how gv place span x).1) ∧ isD M' d (how, gv, z) (cs, ns, il, (pickF how gv place span x).2, lm) ∧ sm d (d + 8) M M') := by
  refine mg_met [some (.ref d), some (.int place), some (.int span)] (by decide +kernel) rfl (Nat.le_of_ble_eq_true rfl) ?_
  intro X hR _
  first | refine mg_aload_n d_Dr_pick_0 rfl rfl ?_ | refine mg_aload_nN d_Dr_pick_0 rfl rfl ?_
  refine mg_getfield fl_Dr_28 d_Dr_pick_1 hD.1 rfl ?_
  by_cases h1 : how = 1
  · subst h1
    refine mg_lookup (off := 28) (tgt := 32) d_Dr_pick_4 (by decide) rfl (by decide) ?_
    first | refine mg_aload_n d_Dr_pick_32 rfl rfl ?_ | refine mg_aload_nN d_Dr_pick_32 rfl rfl ?_
    first | refine mg_aload_n d_Dr_pick_33 rfl rfl ?_ | refine mg_aload_nN d_Dr_pick_33 rfl rfl ?_
    refine mg_getfield fl_Dr_47 d_Dr_pick_34 hD.1 rfl ?_
    refine mg_ldc2 d_Dr_pick_37 kl_Dr_69 ?_
    refine mg_lmul d_Dr_pick_40 ?_
    refine mg_ldc2 d_Dr_pick_41 kl_Dr_71 ?_
    refine mg_ladd d_Dr_pick_44 ?_
    refine mg_putfield (fw_Dr_47 _) d_Dr_pick_45 hD.1 (Nat.le_of_ble_eq_true rfl) (fun _ => ⟨rfl, rfl⟩) ?_
    have hs : sm d (d + 8) M (mg_up M d (.inr (2, [.ref (d + 1), .ref (d + 3), .int (bI il), .ref (d + 5), .ref (d + 6), .int 1, .long (stepX x), .int z]))) := sm.rf.up (by omega) (by omega)
    replace hD := hD.obj (il' := il) (x' := stepX x) (md' := (1, gv, z)) rfl
    refine mg_eqM (M' := mg_up M d (.inr (2, [.ref (d + 1), .ref (d + 3), .int (bI il), .ref (d + 5), .ref (d + 6), .int 1, .long (stepX x), .int z]))) rfl ?_
    generalize mg_up M d (.inr (2, [.ref (d + 1), .ref (d + 3), .int (bI il), .ref (d + 5), .ref (d + 6), .int 1, .long (stepX x), .int z])) = M1 at hD hs ⊢
    refine mg_iload_n d_Dr_pick_48 rfl rfl ?_
    refine mg_iconst (v := 1) d_Dr_pick_49 (by decide) ?_
    refine mg_icmp_ge (tgt := 57) d_Dr_pick_50 (by decide) (fun c_50 => ?_) (fun c_50 => ?_)
    · have hsp : ¬ span < 1 := Int32.not_lt.mpr c_50
      have hne := toInt64_ne hsp
      first | refine mg_aload_n d_Dr_pick_57 rfl rfl ?_ | refine mg_aload_nN d_Dr_pick_57 rfl rfl ?_
      refine mg_getfield fl_Dr_47 d_Dr_pick_58 hD.1 rfl ?_
      refine mg_bipush (v := 33) d_Dr_pick_61 (by decide) ?_
      refine mg_lushr d_Dr_pick_63 ?_
      refine mg_iload_n d_Dr_pick_64 rfl rfl ?_
      refine mg_i2l d_Dr_pick_65 ?_
      refine mg_lrem d_Dr_pick_66 (by first | assumption | decide) ?_
      refine mg_l2i d_Dr_pick_67 ?_
      exact mg_ireturn d_Dr_pick_68 rfl rfl (Nat.le_of_ble_eq_true rfl) (Nat.le_of_ble_eq_true rfl) ⟨by simp only [pickF, if_neg hsp, if_true]; rfl, hD, hs⟩
    · have hsp : span < 1 := Int32.not_le.mp c_50
      refine mg_iconst (v := -1) d_Dr_pick_53 (by decide) ?_
      refine mg_goto (tgt := 68) d_Dr_pick_54 (by decide) ?_
      exact mg_ireturn d_Dr_pick_68 rfl rfl (Nat.le_of_ble_eq_true rfl) (Nat.le_of_ble_eq_true rfl) ⟨by simp only [pickF, if_pos hsp, if_true], hD, hs⟩
  · by_cases h2 : how = 2
    · subst h2
      refine mg_lookup (off := 65) (tgt := 69) d_Dr_pick_4 (by decide) rfl (by decide) ?_
      first | refine mg_aload_n d_Dr_pick_69 rfl rfl ?_ | refine mg_aload_nN d_Dr_pick_69 rfl rfl ?_
      refine mg_getfield fl_Dr_25 d_Dr_pick_70 hD.1 rfl ?_
      refine mg_iload_n d_Dr_pick_73 rfl rfl ?_
      refine mg_iconst (v := 0) d_Dr_pick_74 (by decide) ?_
      refine mg_callV (vl_Dr_58 rfl) d_Dr_pick_75 (by obtain ⟨_, e1, -⟩ := hD.2.2.2.2; exact e1) rfl rfl (c_In_at (xs := gv) hD.2.2.2.2) rfl rfl (by rw [hR]; decide) (by rw [hR]; decide) (Nat.le_of_ble_eq_true rfl) ?_
      rintro v M2 ⟨rfl, rfl⟩
      exact mg_ireturn d_Dr_pick_78 rfl rfl (Nat.le_of_ble_eq_true rfl) (Nat.le_of_ble_eq_true rfl) ⟨rfl, hD, sm.rf⟩
    · refine mg_lookup (off := 75) (tgt := 79) d_Dr_pick_4 (by decide) ((lv_osw (k := 1) h1 (by decide)).trans (lv_osw (k := 2) h2 (by decide))) (by decide) ?_
      first | refine mg_aload_n d_Dr_pick_79 rfl rfl ?_ | refine mg_aload_nN d_Dr_pick_79 rfl rfl ?_
      refine mg_getfield fl_Dr_25 d_Dr_pick_80 hD.1 rfl ?_
      refine mg_iload_n d_Dr_pick_83 rfl rfl ?_
      refine mg_iconst (v := -1) d_Dr_pick_84 (by decide) ?_
      refine mg_callV (vl_Dr_58 rfl) d_Dr_pick_85 (by obtain ⟨_, e1, -⟩ := hD.2.2.2.2; exact e1) rfl rfl (c_In_at (xs := gv) hD.2.2.2.2) rfl rfl (by rw [hR]; decide) (by rw [hR]; decide) (Nat.le_of_ble_eq_true rfl) ?_
      rintro v M2 ⟨rfl, rfl⟩
      exact mg_ireturn d_Dr_pick_88 rfl rfl (Nat.le_of_ble_eq_true rfl) (Nat.le_of_ble_eq_true rfl) ⟨by simp only [pickF, if_neg h1, if_neg h2], by simp only [pickF, if_neg h1, if_neg h2]; exact hD, sm.rf⟩

/-- a draw: the choice, and the draws behind it -/
def drawF (md : dM) (σ : dS) (most span : Int32) : Int32 × dS := if σ.2.2.1 = true then (0, σ) else
  if (pickF md.1 md.2.1 (nI σ.1.length) span σ.2.2.2.1).1 < 0 ∨ most < (pickF md.1 md.2.1 (nI σ.1.length) span σ.2.2.2.1).1 ∨ 60 ≤ σ.1.length then (0, (σ.1, σ.2.1, true, (pickF md.1 md.2.1 (nI σ.1.length) span σ.2.2.2.1).2, σ.2.2.2.2))
  else ((pickF md.1 md.2.1 (nI σ.1.length) span σ.2.2.2.1).1, (σ.1 ++ [(pickF md.1 md.2.1 (nI σ.1.length) span σ.2.2.2.1).1], σ.2.1, false, (pickF md.1 md.2.1 (nI σ.1.length) span σ.2.2.2.1).2, upd σ.2.2.2.2 σ.1.length most))
theorem drawF_bad {md : dM} {cs ns : List Int32} {x : Int64} {lm : Nat → Int32} {most span : Int32} {p : Int32 × Int64} (hp : pickF md.1 md.2.1 (nI cs.length) span x = p) (h : p.1 < 0 ∨ most < p.1 ∨ 60 ≤ cs.length) : drawF md (cs, ns, false, x, lm) most span = (0, (cs, ns, true, p.2, lm)) := by
  subst hp
  simp only [drawF]
  rw [if_neg (by decide), if_pos h]
theorem drawF_ok {md : dM} {cs ns : List Int32} {x : Int64} {lm : Nat → Int32} {most span : Int32} {p : Int32 × Int64} (hp : pickF md.1 md.2.1 (nI cs.length) span x = p) (h1 : ¬ p.1 < 0) (h2 : ¬ most < p.1) (h3 : cs.length < 60) : drawF md (cs, ns, false, x, lm) most span = (p.1, (cs ++ [p.1], ns, false, p.2, upd lm cs.length most)) := by
  subst hp
  simp only [drawF]
  rw [if_neg (by decide), if_neg (fun h => h.elim h1 (fun h => h.elim h2 (fun h => absurd h3 (Nat.not_lt.mpr h))))]

set_option maxHeartbeats 4000000 in
set_option maxRecDepth 100000 in
theorem c_Dr_draw {M : mg_M} {d : Nat} {how z : Int32} {gv cs ns : List Int32} {il : Bool} {x : Int64} {lm : Nat → Int32} (hD : isD M d (how, gv, z) (cs, ns, il, x, lm)) {most span : Int32} : mg_Ct Y_Dr_draw { frames := 2, cells := 0, slots := 0, locals := 44 } [.ref d, .int most, .int span] M (fun v M' => v = some (.int (drawF (how, gv, z) (cs, ns, il, x, lm) most span).1) ∧ isD M' d (how, gv, z) (drawF (how, gv, z) (cs, ns, il, x, lm) most span).2 ∧ sm d (d + 8) M M') := by
  refine mg_met [some (.ref d), some (.int most), some (.int span), none, none] (by decide +kernel) rfl (Nat.le_of_ble_eq_true rfl) ?_
  intro X hR _
  first | refine mg_aload_n d_Dr_draw_0 rfl rfl ?_ | refine mg_aload_nN d_Dr_draw_0 rfl rfl ?_
  refine mg_getfield fl_Dr_36 d_Dr_draw_1 (by first | exact hD.1 | exact hD.2.2.2.1) rfl ?_
  refine mg_if_eq (tgt := 9) d_Dr_draw_4 (by decide) (fun c_4 => ?_) (fun c_4 => ?_)
  · obtain rfl := bI_f c_4
    first | refine mg_aload_n d_Dr_draw_9 rfl rfl ?_ | refine mg_aload_nN d_Dr_draw_9 rfl rfl ?_
    refine mg_getfield fl_Dr_12 d_Dr_draw_10 (by first | exact hD.1 | exact hD.2.2.2.1) rfl ?_
    refine mg_callV (vl_Dr_54 rfl) d_Dr_draw_13 (by obtain ⟨_, e1, -⟩ := hD.2.1; exact e1) rfl rfl (c_In_length (xs := cs) hD.2.1) rfl rfl (by rw [hR]; decide) (by rw [hR]; decide) (Nat.le_of_ble_eq_true rfl) ?_
    rintro v M2 ⟨rfl, rfl⟩
    refine mg_istore_n d_Dr_draw_16 rfl (Nat.le_of_ble_eq_true rfl) rfl ?_
    first | refine mg_aload_n d_Dr_draw_17 rfl rfl ?_ | refine mg_aload_nN d_Dr_draw_17 rfl rfl ?_
    refine mg_iload_n d_Dr_draw_18 rfl rfl ?_
    refine mg_iload_n d_Dr_draw_19 rfl rfl ?_
    refine mg_callV (vl_Dr_66 rfl) d_Dr_draw_20 hD.1 rfl rfl (c_Dr_pick hD) rfl rfl (by rw [hR]; decide) (by rw [hR]; decide) (Nat.le_of_ble_eq_true rfl) ?_
    rintro v M3 ⟨rfl, hD3, hs⟩
    generalize hp : pickF how gv (nI cs.length) span x = p at hD3 ⊢
    replace hD := hD3
    refine mg_istore d_Dr_draw_23 (Nat.le_of_ble_eq_true rfl) rfl ?_
    refine mg_iload d_Dr_draw_25 rfl ?_
    refine mg_if_lt (tgt := 57) d_Dr_draw_27 (by decide) (fun c_27 => ?_) (fun c_27 => ?_)
    · refine mg_aload_n d_Dr_draw_57 rfl rfl ?_
      refine mg_iconst (v := 1) d_Dr_draw_58 (by decide) ?_
      refine mg_putfield (fw_Dr_36 _) d_Dr_draw_59 hD.1 (Nat.le_of_ble_eq_true rfl) (fun _ => ⟨rfl, rfl⟩) ?_
      refine mg_iconst (v := 0) d_Dr_draw_62 (by decide) ?_
      refine mg_ireturn d_Dr_draw_63 rfl rfl (Nat.le_of_ble_eq_true rfl) (Nat.le_of_ble_eq_true rfl) ⟨?_, ?_, hs.up (by omega) (by omega)⟩
      · rw [drawF_bad hp (Or.inl c_27)]
      · rw [drawF_bad hp (Or.inl c_27)]; exact hD.obj (il' := true) (x' := p.2) (md' := (how, gv, z)) rfl
    · refine mg_iload d_Dr_draw_30 rfl ?_
      refine mg_iload_n d_Dr_draw_32 rfl rfl ?_
      refine mg_icmp_gt (tgt := 57) d_Dr_draw_33 (by decide) (fun c_33 => ?_) (fun c_33 => ?_)
      · refine mg_aload_n d_Dr_draw_57 rfl rfl ?_
        refine mg_iconst (v := 1) d_Dr_draw_58 (by decide) ?_
        refine mg_putfield (fw_Dr_36 _) d_Dr_draw_59 hD.1 (Nat.le_of_ble_eq_true rfl) (fun _ => ⟨rfl, rfl⟩) ?_
        refine mg_iconst (v := 0) d_Dr_draw_62 (by decide) ?_
        refine mg_ireturn d_Dr_draw_63 rfl rfl (Nat.le_of_ble_eq_true rfl) (Nat.le_of_ble_eq_true rfl) ⟨?_, ?_, hs.up (by omega) (by omega)⟩
        · rw [drawF_bad hp (Or.inr (Or.inl c_33))]
        · rw [drawF_bad hp (Or.inr (Or.inl c_33))]; exact hD.obj (il' := true) (x' := p.2) (md' := (how, gv, z)) rfl
      · refine mg_iload_n d_Dr_draw_36 rfl rfl ?_
        first | refine mg_aload_n d_Dr_draw_37 rfl rfl ?_ | refine mg_aload_nN d_Dr_draw_37 rfl rfl ?_
        refine mg_getfield fl_Dr_21 d_Dr_draw_38 (by first | exact hD.1 | exact hD.2.2.2.1) rfl ?_
        refine mg_arrlen (v := nI 60) rfl d_Dr_draw_41 (by first | exact hD.1 | exact hD.2.2.2.1) rfl ?_
        refine mg_icmp_ge (tgt := 57) d_Dr_draw_42 (by decide) (fun c_42 => ?_) (fun c_42 => ?_)
        · have hge : 60 ≤ cs.length := by
            rcases Nat.lt_or_ge cs.length 60 with q | q
            · exact absurd c_42 (nI_ge q (by decide))
            · exact q
          refine mg_aload_n d_Dr_draw_57 rfl rfl ?_
          refine mg_iconst (v := 1) d_Dr_draw_58 (by decide) ?_
          refine mg_putfield (fw_Dr_36 _) d_Dr_draw_59 hD.1 (Nat.le_of_ble_eq_true rfl) (fun _ => ⟨rfl, rfl⟩) ?_
          refine mg_iconst (v := 0) d_Dr_draw_62 (by decide) ?_
          refine mg_ireturn d_Dr_draw_63 rfl rfl (Nat.le_of_ble_eq_true rfl) (Nat.le_of_ble_eq_true rfl) ⟨?_, ?_, hs.up (by omega) (by omega)⟩
          · rw [drawF_bad hp (Or.inr (Or.inr hge))]
          · rw [drawF_bad hp (Or.inr (Or.inr hge))]; exact hD.obj (il' := true) (x' := p.2) (md' := (how, gv, z)) rfl
        · have hlt : cs.length < 60 := by
            rcases Nat.lt_or_ge cs.length 60 with q | q
            · exact q
            · exact absurd (nI_le q (by have := hD.2.1.le; show cs.length < 2 ^ 31; have h9 : cs.length ≤ 60 := this; omega)) c_42
          have hin := nIw (n := 60) hlt (by decide)
          first | refine mg_aload_n d_Dr_draw_45 rfl rfl ?_ | refine mg_aload_nN d_Dr_draw_45 rfl rfl ?_
          refine mg_getfield fl_Dr_12 d_Dr_draw_46 (by first | exact hD.1 | exact hD.2.2.2.1) rfl ?_
          refine mg_iload d_Dr_draw_49 rfl ?_
          refine mg_callV (vl_Dr_62 rfl) d_Dr_draw_51 (by obtain ⟨_, e1, -⟩ := hD.2.1; exact e1) rfl rfl (c_In_add (xs := cs) hD.2.1) rfl rfl (by rw [hR]; decide) (by rw [hR]; decide) (Nat.le_of_ble_eq_true rfl) ?_
          rintro v M4 ⟨rfl, hI4, hs4⟩
          rw [show (if cs.length < 60 then cs ++ [p.1] else cs) = cs ++ [p.1] from if_pos hlt] at hI4
          replace hD := hD.cs hI4 hs4
          replace hs := hs.tr (hs4.wd (by omega) (by omega))
          have hLm := hD.2.2.2.1
          refine mg_if_ne (tgt := 64) d_Dr_draw_54 (by decide) (fun c_54 => ?_) (fun c_54 => ?_)
          · first | refine mg_aload_n d_Dr_draw_64 rfl rfl ?_ | refine mg_aload_nN d_Dr_draw_64 rfl rfl ?_
            refine mg_getfield fl_Dr_21 d_Dr_draw_65 (by first | exact hD.1 | exact hD.2.2.2.1) rfl ?_
            refine mg_iload_n d_Dr_draw_68 rfl rfl ?_
            refine mg_iload_n d_Dr_draw_69 rfl rfl ?_
            refine mg_iastore rfl d_Dr_draw_70 hLm hin ?_
            rw [nI_clampN (by omega)]
            refine mg_iload d_Dr_draw_71 rfl ?_
            refine mg_ireturn d_Dr_draw_73 rfl rfl (Nat.le_of_ble_eq_true rfl) (Nat.le_of_ble_eq_true rfl) ⟨?_, ?_, hs.up (by omega) (by omega)⟩
            · rw [drawF_ok hp c_27 c_33 hlt]
            · rw [drawF_ok hp c_27 c_33 hlt]; exact hD.lm
          · exact absurd c_54 (by rw [show (if cs.length < 60 then (1 : Int32) else 0) = 1 from if_pos hlt]; decide)
  · obtain rfl := bI_t c_4
    refine mg_iconst (v := 0) d_Dr_draw_7 (by decide) ?_
    exact mg_ireturn d_Dr_draw_8 rfl rfl (Nat.le_of_ble_eq_true rfl) (Nat.le_of_ble_eq_true rfl) ⟨rfl, hD, sm.rf⟩

