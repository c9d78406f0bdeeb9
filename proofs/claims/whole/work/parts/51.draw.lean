/-! THE REFERENCE's draw -/
theorem shr33 (x : Int64) : ∃ n : Nat, n < 2 ^ 31 ∧ (x.toUInt64 >>> ((33 : Int32).toInt64.toUInt64 &&& Int64.toUInt64 63)).toInt64 = lN n := by
  have hs : ((33 : Int32).toInt64.toUInt64 &&& Int64.toUInt64 63) = 33 := by decide
  rw [hs]
  refine ⟨(x.toUInt64 >>> 33).toNat, ?_, ?_⟩
  · rw [UInt64.toNat_shiftRight]
    have h1 : x.toUInt64.toNat < 2 ^ 64 := UInt64.toNat_lt _
    have h2 : (33 : UInt64).toNat % 64 = 33 := by decide
    rw [h2, Nat.shiftRight_eq_div_pow]
    omega
  · apply Int64.toBitVec_inj.mp
    apply BitVec.eq_of_toNat_eq
    show (x.toUInt64 >>> 33).toBitVec.toNat = ((x.toUInt64 >>> 33).toNat : Nat) % 2 ^ 64
    rw [UInt64.toNat_toBitVec, Nat.mod_eq_of_lt (UInt64.toNat_lt _)]
theorem modX_nn (x : Int64) {span : Int32} (h : ¬ span < 1) : ¬ modX x span < 0 := by
  obtain ⟨n, hn, e⟩ := shr33 x
  have h0 : ¬ span < 0 := fun h2 => h (by rw [Int32.lt_iff_toInt_lt] at h2 ⊢; exact Int.lt_trans h2 (by decide))
  obtain ⟨m, hm, rfl⟩ := nI_of h0
  have hm0 : 0 < m := by
    rcases Nat.eq_zero_or_pos m with q | q
    · subst q; exact absurd (by decide) h
    · exact q
  unfold modX
  rw [e, nI_l hm, pk_lRem (by omega) hm0 (by omega), lN_i]
  exact nI_pos (Nat.lt_of_lt_of_le (Nat.mod_lt _ hm0) (by omega))
def drP (M : mg_M) (si : Nat → Int32) (s : Int64) (md : dM) (r : Int32 × dS) : Option Value → mg_M → Prop := fun v M' => v = some (.int r.1) ∧ ∃ si', isRun M' si' r.2.2.2.2.1 s md r.2 ∧ (∀ k, k ≠ 11 → k ≠ 15 → si' k = si k) ∧ ∀ k, k ≠ 1000 → k ≠ 1009 → k ≠ 1010 → M' k = M k
theorem drP_bad {M M' : mg_M} {si : Nat → Int32} {x x' s : Int64} {md : dM} {cs ns : List Int32} {lm : Nat → Int32} (h : isRun M si x s md (cs, ns, false, x, lm)) (h0 : M' 1000 = some (moE (upd si 15 1) x' s)) (hs : ∀ k, k ≠ 1000 → M' k = M k) : drP M si s md (0, (cs, ns, true, x', lm)) (some (.int 0)) M' := by
  obtain ⟨a1, a2, a3, a4, a5, a6, a7, a8, a9, a10, a11, a12⟩ := h
  exact ⟨rfl, upd si 15 1, ⟨h0, a2, a3, a4, a5, rfl, rfl, a8, a9.eq (hs _ (by decide)), a10.eq (hs _ (by decide)), (hs _ (by decide)).trans a11, a12.eq (hs _ (by decide))⟩, fun k _ h2 => pk_un h2, fun k h2 _ _ => hs k h2⟩
theorem drP_ok {M M' : mg_M} {si : Nat → Int32} {x x' s : Int64} {md : dM} {cs ns : List Int32} {lm rf : Nat → Int32} {c most : Int32} (h : isRun M si x s md (cs, ns, false, x, lm)) (hf : ∀ j, j < cs.length → rf j = cs.getD j 0) (hl : cs.length < 60) (h0 : M' 1000 = some (moE (upd si 11 (nI (cs.length + 1))) x' s)) (h9 : M' 1009 = some (iaE 60 (upd rf cs.length c))) (h10 : M' 1010 = some (iaE 60 (upd lm cs.length most))) (hs : ∀ k, k ≠ 1000 → k ≠ 1009 → k ≠ 1010 → M' k = M k) : drP M si s md (c, (cs ++ [c], ns, false, x', upd lm cs.length most)) (some (.int c)) M' := by
  obtain ⟨a1, a2, a3, a4, a5, a6, a7, a8, a9, a10, a11, a12⟩ := h
  refine ⟨rfl, upd si 11 (nI (cs.length + 1)), ⟨h0, a2, ?_, a4, a5, rfl, a7, a8, a9.eq (hs _ (by decide) (by decide) (by decide)), isA_push hf hl h9, h10, a12.eq (hs _ (by decide) (by decide) (by decide))⟩, fun k h1 _ => pk_un h1, hs⟩
  show upd si 11 (nI (cs.length + 1)) 11 = nI (cs ++ [c]).length
  rw [pk_us, List.length_append]; rfl

set_option maxHeartbeats 4000000 in
set_option maxRecDepth 100000 in
theorem c_Mo_draw0 {M : mg_M} {si : Nat → Int32} {x s : Int64} {gv : List Int32} {z : Int32} {cs ns : List Int32} {lm : Nat → Int32} {most span w : Int32} (h : isRun M si x s (0, gv, z) (cs, ns, false, x, lm)) (hnn : nnL gv) (hle : cs.length ≤ gv.length) : mg_Ct Y_Mo_draw { frames := 0, cells := 0, slots := 0, locals := 0 } [.ref 1000, .int most, .int w] M (drP M si s (0, gv, z) (drawF (0, gv, z) (cs, ns, false, x, lm) most span)) := by
  obtain ⟨a1, a2, a3, a4, a5, a6, a7, a8, ⟨gf, g1, g2, g3⟩, ⟨rf, r1, r2, hrf⟩, a11, a12⟩ := id h
  replace a2 : si 10 = 0 := a2
  replace a3 : si 11 = nI cs.length := a3
  replace a8 : si 20 = nI gv.length := a8
  replace r2 : cs.length ≤ 60 := r2
  replace g2 : gv.length ≤ 60 := g2
  replace g3 : ∀ j, j < gv.length → gf j = gv.getD j 0 := g3
  replace hrf : ∀ j, j < cs.length → rf j = cs.getD j 0 := hrf
  replace a11 : M 1010 = some (iaE 60 lm) := a11
  refine mg_met [some (.ref 1000), some (.int most), some (.int w), none] (by decide +kernel) rfl (Nat.le_of_ble_eq_true rfl) ?_
  intro X hR _
  first | refine mg_aload_n d_Mo_draw_0 rfl rfl ?_ | refine mg_aload_nN d_Mo_draw_0 rfl rfl ?_
  refine mg_getfield fl_Mo_97 d_Mo_draw_1 (by first | assumption | exact mg_up_s _ _ _ | (rw [mg_up_n _ _ (by decide)]; first | assumption | exact mg_up_s _ _ _ | (rw [mg_up_n _ _ (by decide)]; first | assumption | exact mg_up_s _ _ _ | (rw [mg_up_n _ _ (by decide)]; first | assumption | exact mg_up_s _ _ _ | (rw [mg_up_n _ _ (by decide)]; first | assumption | exact mg_up_s _ _ _ | (rw [mg_up_n _ _ (by decide)]; first | assumption | exact mg_up_s _ _ _ | (rw [mg_up_n _ _ (by decide)]; first | assumption | exact mg_up_s _ _ _))))))) rfl ?_
  refine mg_iconst (v := 1) d_Mo_draw_4 (by decide) ?_
  refine mg_icmp_ne (tgt := 24) d_Mo_draw_5 (by decide) (fun c_5 => ?_) (fun c_5 => ?_)
  · first | refine mg_aload_n d_Mo_draw_24 rfl rfl ?_ | refine mg_aload_nN d_Mo_draw_24 rfl rfl ?_
    refine mg_getfield fl_Mo_108 d_Mo_draw_25 (by first | assumption | exact mg_up_s _ _ _ | (rw [mg_up_n _ _ (by decide)]; first | assumption | exact mg_up_s _ _ _ | (rw [mg_up_n _ _ (by decide)]; first | assumption | exact mg_up_s _ _ _ | (rw [mg_up_n _ _ (by decide)]; first | assumption | exact mg_up_s _ _ _ | (rw [mg_up_n _ _ (by decide)]; first | assumption | exact mg_up_s _ _ _ | (rw [mg_up_n _ _ (by decide)]; first | assumption | exact mg_up_s _ _ _ | (rw [mg_up_n _ _ (by decide)]; first | assumption | exact mg_up_s _ _ _))))))) rfl ?_
    refine mg_bipush (v := 60) d_Mo_draw_28 (by decide) ?_
    refine mg_icmp_eq (tgt := 51) d_Mo_draw_30 (by decide) (fun c_30 => ?_) (fun c_30 => ?_)
    · have hc60 : cs.length = 60 := (nI_eq (by omega) (by decide)).mp (show nI cs.length = nI 60 from a3 ▸ c_30)
      first | refine mg_aload_n d_Mo_draw_51 rfl rfl ?_ | refine mg_aload_nN d_Mo_draw_51 rfl rfl ?_
      refine mg_iconst (v := 1) d_Mo_draw_52 (by decide) ?_
      refine mg_putfield (fw_Mo_114 _) d_Mo_draw_53 (by first | assumption | exact mg_up_s _ _ _ | (rw [mg_up_n _ _ (by decide)]; first | assumption | exact mg_up_s _ _ _ | (rw [mg_up_n _ _ (by decide)]; first | assumption | exact mg_up_s _ _ _ | (rw [mg_up_n _ _ (by decide)]; first | assumption | exact mg_up_s _ _ _ | (rw [mg_up_n _ _ (by decide)]; first | assumption | exact mg_up_s _ _ _ | (rw [mg_up_n _ _ (by decide)]; first | assumption | exact mg_up_s _ _ _ | (rw [mg_up_n _ _ (by decide)]; first | assumption | exact mg_up_s _ _ _))))))) (Nat.le_of_ble_eq_true rfl) (fun _ => ⟨rfl, rfl⟩) ?_
      refine mg_iconst (v := 0) d_Mo_draw_56 (by decide) ?_
      refine mg_ireturn d_Mo_draw_57 rfl rfl (Nat.le_of_ble_eq_true rfl) (Nat.le_of_ble_eq_true rfl) ?_
      rw [drawF_bad (p := (atI gv (nI cs.length) (-1), x)) rfl (by first | exact Or.inr (Or.inr (by omega)) | exact Or.inl (by show atI gv (nI cs.length) (-1) < 0; rw [atI_ge (by rw [hgl]; exact Int32.le_refl _)]; decide))]
      exact drP_bad (M' := mg_up M 1000 (moE (upd si 15 1) x s)) h (mg_up_s _ _ _) (fun k hk => mg_up_n _ _ hk)
    · have hlt : cs.length < 60 := by
        rcases Nat.lt_or_ge cs.length 60 with q | q
        · exact q
        · exact absurd (show si 11 = 60 by rw [a3, show cs.length = 60 by omega]; rfl) c_30
      have hin : vp_in (si 11) 60 := by rw [a3]; exact nIw hlt (Nat.le_refl _)
      first | refine mg_aload_n d_Mo_draw_33 rfl rfl ?_ | refine mg_aload_nN d_Mo_draw_33 rfl rfl ?_
      refine mg_getfield fl_Mo_97 d_Mo_draw_34 (by first | assumption | exact mg_up_s _ _ _ | (rw [mg_up_n _ _ (by decide)]; first | assumption | exact mg_up_s _ _ _ | (rw [mg_up_n _ _ (by decide)]; first | assumption | exact mg_up_s _ _ _ | (rw [mg_up_n _ _ (by decide)]; first | assumption | exact mg_up_s _ _ _ | (rw [mg_up_n _ _ (by decide)]; first | assumption | exact mg_up_s _ _ _ | (rw [mg_up_n _ _ (by decide)]; first | assumption | exact mg_up_s _ _ _ | (rw [mg_up_n _ _ (by decide)]; first | assumption | exact mg_up_s _ _ _))))))) rfl ?_
      refine mg_if_ne (tgt := 58) d_Mo_draw_37 (by decide) (fun c_37 => ?_) (fun c_37 => ?_)
      · exact absurd (by rw [a2]) c_37
      · first | refine mg_aload_n d_Mo_draw_40 rfl rfl ?_ | refine mg_aload_nN d_Mo_draw_40 rfl rfl ?_
        refine mg_getfield fl_Mo_108 d_Mo_draw_41 (by first | assumption | exact mg_up_s _ _ _ | (rw [mg_up_n _ _ (by decide)]; first | assumption | exact mg_up_s _ _ _ | (rw [mg_up_n _ _ (by decide)]; first | assumption | exact mg_up_s _ _ _ | (rw [mg_up_n _ _ (by decide)]; first | assumption | exact mg_up_s _ _ _ | (rw [mg_up_n _ _ (by decide)]; first | assumption | exact mg_up_s _ _ _ | (rw [mg_up_n _ _ (by decide)]; first | assumption | exact mg_up_s _ _ _ | (rw [mg_up_n _ _ (by decide)]; first | assumption | exact mg_up_s _ _ _))))))) rfl ?_
        first | refine mg_aload_n d_Mo_draw_44 rfl rfl ?_ | refine mg_aload_nN d_Mo_draw_44 rfl rfl ?_
        refine mg_getfield fl_Mo_111 d_Mo_draw_45 (by first | assumption | exact mg_up_s _ _ _ | (rw [mg_up_n _ _ (by decide)]; first | assumption | exact mg_up_s _ _ _ | (rw [mg_up_n _ _ (by decide)]; first | assumption | exact mg_up_s _ _ _ | (rw [mg_up_n _ _ (by decide)]; first | assumption | exact mg_up_s _ _ _ | (rw [mg_up_n _ _ (by decide)]; first | assumption | exact mg_up_s _ _ _ | (rw [mg_up_n _ _ (by decide)]; first | assumption | exact mg_up_s _ _ _ | (rw [mg_up_n _ _ (by decide)]; first | assumption | exact mg_up_s _ _ _))))))) rfl ?_
        refine mg_icmp_ne (tgt := 58) d_Mo_draw_48 (by decide) (fun c_48 => ?_) (fun c_48 => ?_)
        · have hgl : cs.length < gv.length := by
            rcases Nat.lt_or_ge cs.length gv.length with q | q
            · exact q
            · exact absurd (show si 11 = si 20 by rw [a3, a8, show cs.length = gv.length by omega]) c_48
          have hat : atI gv (nI cs.length) (-1) = gv.getD cs.length 0 := atI_in g2 hgl
          refine mg_iconst (v := 0) d_Mo_draw_58 (by decide) ?_
          refine mg_istore_n d_Mo_draw_59 rfl (Nat.le_of_ble_eq_true rfl) rfl ?_
          first | refine mg_aload_n d_Mo_draw_60 rfl rfl ?_ | refine mg_aload_nN d_Mo_draw_60 rfl rfl ?_
          refine mg_getfield fl_Mo_97 d_Mo_draw_61 (by first | assumption | exact mg_up_s _ _ _ | (rw [mg_up_n _ _ (by decide)]; first | assumption | exact mg_up_s _ _ _ | (rw [mg_up_n _ _ (by decide)]; first | assumption | exact mg_up_s _ _ _ | (rw [mg_up_n _ _ (by decide)]; first | assumption | exact mg_up_s _ _ _ | (rw [mg_up_n _ _ (by decide)]; first | assumption | exact mg_up_s _ _ _ | (rw [mg_up_n _ _ (by decide)]; first | assumption | exact mg_up_s _ _ _ | (rw [mg_up_n _ _ (by decide)]; first | assumption | exact mg_up_s _ _ _))))))) rfl ?_
          refine mg_if_ne (tgt := 77) d_Mo_draw_64 (by decide) (fun c_64 => ?_) (fun c_64 => ?_)
          · exact absurd (by rw [a2]) c_64
          · first | refine mg_aload_n d_Mo_draw_67 rfl rfl ?_ | refine mg_aload_nN d_Mo_draw_67 rfl rfl ?_
            refine mg_getfield fl_Mo_31 d_Mo_draw_68 (by first | assumption | exact mg_up_s _ _ _ | (rw [mg_up_n _ _ (by decide)]; first | assumption | exact mg_up_s _ _ _ | (rw [mg_up_n _ _ (by decide)]; first | assumption | exact mg_up_s _ _ _ | (rw [mg_up_n _ _ (by decide)]; first | assumption | exact mg_up_s _ _ _ | (rw [mg_up_n _ _ (by decide)]; first | assumption | exact mg_up_s _ _ _ | (rw [mg_up_n _ _ (by decide)]; first | assumption | exact mg_up_s _ _ _ | (rw [mg_up_n _ _ (by decide)]; first | assumption | exact mg_up_s _ _ _))))))) rfl ?_
            first | refine mg_aload_n d_Mo_draw_71 rfl rfl ?_ | refine mg_aload_nN d_Mo_draw_71 rfl rfl ?_
            refine mg_getfield fl_Mo_108 d_Mo_draw_72 (by first | assumption | exact mg_up_s _ _ _ | (rw [mg_up_n _ _ (by decide)]; first | assumption | exact mg_up_s _ _ _ | (rw [mg_up_n _ _ (by decide)]; first | assumption | exact mg_up_s _ _ _ | (rw [mg_up_n _ _ (by decide)]; first | assumption | exact mg_up_s _ _ _ | (rw [mg_up_n _ _ (by decide)]; first | assumption | exact mg_up_s _ _ _ | (rw [mg_up_n _ _ (by decide)]; first | assumption | exact mg_up_s _ _ _ | (rw [mg_up_n _ _ (by decide)]; first | assumption | exact mg_up_s _ _ _))))))) rfl ?_
            refine mg_iaload rfl d_Mo_draw_75 (by first | assumption | exact mg_up_s _ _ _ | (rw [mg_up_n _ _ (by decide)]; first | assumption | exact mg_up_s _ _ _ | (rw [mg_up_n _ _ (by decide)]; first | assumption | exact mg_up_s _ _ _ | (rw [mg_up_n _ _ (by decide)]; first | assumption | exact mg_up_s _ _ _ | (rw [mg_up_n _ _ (by decide)]; first | assumption | exact mg_up_s _ _ _ | (rw [mg_up_n _ _ (by decide)]; first | assumption | exact mg_up_s _ _ _ | (rw [mg_up_n _ _ (by decide)]; first | assumption | exact mg_up_s _ _ _))))))) (by assumption) ?_
            refine mg_eqi (y := gv.getD cs.length 0) (by rw [a3, nI_clampN (by omega)]; exact g3 _ hgl) ?_
            refine mg_istore_n d_Mo_draw_76 rfl (Nat.le_of_ble_eq_true rfl) rfl ?_
            first | refine mg_aload_n d_Mo_draw_77 rfl rfl ?_ | refine mg_aload_nN d_Mo_draw_77 rfl rfl ?_
            refine mg_getfield fl_Mo_97 d_Mo_draw_78 (by first | assumption | exact mg_up_s _ _ _ | (rw [mg_up_n _ _ (by decide)]; first | assumption | exact mg_up_s _ _ _ | (rw [mg_up_n _ _ (by decide)]; first | assumption | exact mg_up_s _ _ _ | (rw [mg_up_n _ _ (by decide)]; first | assumption | exact mg_up_s _ _ _ | (rw [mg_up_n _ _ (by decide)]; first | assumption | exact mg_up_s _ _ _ | (rw [mg_up_n _ _ (by decide)]; first | assumption | exact mg_up_s _ _ _ | (rw [mg_up_n _ _ (by decide)]; first | assumption | exact mg_up_s _ _ _))))))) rfl ?_
            refine mg_iconst (v := 1) d_Mo_draw_81 (by decide) ?_
            refine mg_icmp_ne (tgt := 122) d_Mo_draw_82 (by decide) (fun c_82 => ?_) (fun c_82 => ?_)
            · first | refine mg_aload_n d_Mo_draw_122 rfl rfl ?_ | refine mg_aload_nN d_Mo_draw_122 rfl rfl ?_
              refine mg_getfield fl_Mo_97 d_Mo_draw_123 (by first | assumption | exact mg_up_s _ _ _ | (rw [mg_up_n _ _ (by decide)]; first | assumption | exact mg_up_s _ _ _ | (rw [mg_up_n _ _ (by decide)]; first | assumption | exact mg_up_s _ _ _ | (rw [mg_up_n _ _ (by decide)]; first | assumption | exact mg_up_s _ _ _ | (rw [mg_up_n _ _ (by decide)]; first | assumption | exact mg_up_s _ _ _ | (rw [mg_up_n _ _ (by decide)]; first | assumption | exact mg_up_s _ _ _ | (rw [mg_up_n _ _ (by decide)]; first | assumption | exact mg_up_s _ _ _))))))) rfl ?_
              refine mg_iconst (v := 2) d_Mo_draw_126 (by decide) ?_
              refine mg_icmp_ne (tgt := 151) d_Mo_draw_127 (by decide) (fun c_127 => ?_) (fun c_127 => ?_)
              · refine mg_iload_n d_Mo_draw_151 rfl rfl ?_
                refine mg_iload_n d_Mo_draw_152 rfl rfl ?_
                refine mg_icmp_le (tgt := 163) d_Mo_draw_153 (by decide) (fun c_153 => ?_) (fun c_153 => ?_)
                · first | refine mg_aload_n d_Mo_draw_163 rfl rfl ?_ | refine mg_aload_nN d_Mo_draw_163 rfl rfl ?_
                  refine mg_getfield fl_Mo_34 d_Mo_draw_164 (by first | assumption | exact mg_up_s _ _ _ | (rw [mg_up_n _ _ (by decide)]; first | assumption | exact mg_up_s _ _ _ | (rw [mg_up_n _ _ (by decide)]; first | assumption | exact mg_up_s _ _ _ | (rw [mg_up_n _ _ (by decide)]; first | assumption | exact mg_up_s _ _ _ | (rw [mg_up_n _ _ (by decide)]; first | assumption | exact mg_up_s _ _ _ | (rw [mg_up_n _ _ (by decide)]; first | assumption | exact mg_up_s _ _ _ | (rw [mg_up_n _ _ (by decide)]; first | assumption | exact mg_up_s _ _ _))))))) rfl ?_
                  first | refine mg_aload_n d_Mo_draw_167 rfl rfl ?_ | refine mg_aload_nN d_Mo_draw_167 rfl rfl ?_
                  refine mg_getfield fl_Mo_108 d_Mo_draw_168 (by first | assumption | exact mg_up_s _ _ _ | (rw [mg_up_n _ _ (by decide)]; first | assumption | exact mg_up_s _ _ _ | (rw [mg_up_n _ _ (by decide)]; first | assumption | exact mg_up_s _ _ _ | (rw [mg_up_n _ _ (by decide)]; first | assumption | exact mg_up_s _ _ _ | (rw [mg_up_n _ _ (by decide)]; first | assumption | exact mg_up_s _ _ _ | (rw [mg_up_n _ _ (by decide)]; first | assumption | exact mg_up_s _ _ _ | (rw [mg_up_n _ _ (by decide)]; first | assumption | exact mg_up_s _ _ _))))))) rfl ?_
                  refine mg_iload_n d_Mo_draw_171 rfl rfl ?_
                  refine mg_iastore rfl d_Mo_draw_172 (by first | assumption | exact mg_up_s _ _ _ | (rw [mg_up_n _ _ (by decide)]; first | assumption | exact mg_up_s _ _ _ | (rw [mg_up_n _ _ (by decide)]; first | assumption | exact mg_up_s _ _ _ | (rw [mg_up_n _ _ (by decide)]; first | assumption | exact mg_up_s _ _ _ | (rw [mg_up_n _ _ (by decide)]; first | assumption | exact mg_up_s _ _ _ | (rw [mg_up_n _ _ (by decide)]; first | assumption | exact mg_up_s _ _ _ | (rw [mg_up_n _ _ (by decide)]; first | assumption | exact mg_up_s _ _ _))))))) hin ?_
                  refine mg_eqM (M' := mg_up M 1009 (iaE 60 (upd rf cs.length (gv.getD cs.length 0)))) (by rw [a3, nI_clampN (by omega)]) ?_
                  first | refine mg_aload_n d_Mo_draw_173 rfl rfl ?_ | refine mg_aload_nN d_Mo_draw_173 rfl rfl ?_
                  refine mg_getfield fl_Mo_37 d_Mo_draw_174 (by first | assumption | exact mg_up_s _ _ _ | (rw [mg_up_n _ _ (by decide)]; first | assumption | exact mg_up_s _ _ _ | (rw [mg_up_n _ _ (by decide)]; first | assumption | exact mg_up_s _ _ _ | (rw [mg_up_n _ _ (by decide)]; first | assumption | exact mg_up_s _ _ _ | (rw [mg_up_n _ _ (by decide)]; first | assumption | exact mg_up_s _ _ _ | (rw [mg_up_n _ _ (by decide)]; first | assumption | exact mg_up_s _ _ _ | (rw [mg_up_n _ _ (by decide)]; first | assumption | exact mg_up_s _ _ _))))))) rfl ?_
                  first | refine mg_aload_n d_Mo_draw_177 rfl rfl ?_ | refine mg_aload_nN d_Mo_draw_177 rfl rfl ?_
                  refine mg_getfield fl_Mo_108 d_Mo_draw_178 (by first | assumption | exact mg_up_s _ _ _ | (rw [mg_up_n _ _ (by decide)]; first | assumption | exact mg_up_s _ _ _ | (rw [mg_up_n _ _ (by decide)]; first | assumption | exact mg_up_s _ _ _ | (rw [mg_up_n _ _ (by decide)]; first | assumption | exact mg_up_s _ _ _ | (rw [mg_up_n _ _ (by decide)]; first | assumption | exact mg_up_s _ _ _ | (rw [mg_up_n _ _ (by decide)]; first | assumption | exact mg_up_s _ _ _ | (rw [mg_up_n _ _ (by decide)]; first | assumption | exact mg_up_s _ _ _))))))) rfl ?_
                  refine mg_iload_n d_Mo_draw_181 rfl rfl ?_
                  refine mg_iastore rfl d_Mo_draw_182 (by first | assumption | exact mg_up_s _ _ _ | (rw [mg_up_n _ _ (by decide)]; first | assumption | exact mg_up_s _ _ _ | (rw [mg_up_n _ _ (by decide)]; first | assumption | exact mg_up_s _ _ _ | (rw [mg_up_n _ _ (by decide)]; first | assumption | exact mg_up_s _ _ _ | (rw [mg_up_n _ _ (by decide)]; first | assumption | exact mg_up_s _ _ _ | (rw [mg_up_n _ _ (by decide)]; first | assumption | exact mg_up_s _ _ _ | (rw [mg_up_n _ _ (by decide)]; first | assumption | exact mg_up_s _ _ _))))))) hin ?_
                  refine mg_eqM (M' := mg_up (mg_up M 1009 (iaE 60 (upd rf cs.length (gv.getD cs.length 0)))) 1010 (iaE 60 (upd lm cs.length most))) (by rw [a3, nI_clampN (by omega)]) ?_
                  first | refine mg_aload_n d_Mo_draw_183 rfl rfl ?_ | refine mg_aload_nN d_Mo_draw_183 rfl rfl ?_
                  refine mg_dup d_Mo_draw_184 rfl ?_
                  refine mg_getfield fl_Mo_108 d_Mo_draw_185 (by first | assumption | exact mg_up_s _ _ _ | (rw [mg_up_n _ _ (by decide)]; first | assumption | exact mg_up_s _ _ _ | (rw [mg_up_n _ _ (by decide)]; first | assumption | exact mg_up_s _ _ _ | (rw [mg_up_n _ _ (by decide)]; first | assumption | exact mg_up_s _ _ _ | (rw [mg_up_n _ _ (by decide)]; first | assumption | exact mg_up_s _ _ _ | (rw [mg_up_n _ _ (by decide)]; first | assumption | exact mg_up_s _ _ _ | (rw [mg_up_n _ _ (by decide)]; first | assumption | exact mg_up_s _ _ _))))))) rfl ?_
                  refine mg_iconst (v := 1) d_Mo_draw_188 (by decide) ?_
                  refine mg_iadd d_Mo_draw_189 ?_
                  refine mg_putfield (fw_Mo_108 _) d_Mo_draw_190 (by first | assumption | exact mg_up_s _ _ _ | (rw [mg_up_n _ _ (by decide)]; first | assumption | exact mg_up_s _ _ _ | (rw [mg_up_n _ _ (by decide)]; first | assumption | exact mg_up_s _ _ _ | (rw [mg_up_n _ _ (by decide)]; first | assumption | exact mg_up_s _ _ _ | (rw [mg_up_n _ _ (by decide)]; first | assumption | exact mg_up_s _ _ _ | (rw [mg_up_n _ _ (by decide)]; first | assumption | exact mg_up_s _ _ _ | (rw [mg_up_n _ _ (by decide)]; first | assumption | exact mg_up_s _ _ _))))))) (Nat.le_of_ble_eq_true rfl) (fun _ => ⟨rfl, rfl⟩) ?_
                  refine mg_eqM (M' := mg_up (mg_up (mg_up M 1009 (iaE 60 (upd rf cs.length (gv.getD cs.length 0)))) 1010 (iaE 60 (upd lm cs.length most))) 1000 (moE (upd si 11 (nI (cs.length + 1))) x s)) (by rw [a3, nI_1]; rfl) ?_
                  refine mg_iload_n d_Mo_draw_193 rfl rfl ?_
                  refine mg_ireturn d_Mo_draw_194 rfl rfl (Nat.le_of_ble_eq_true rfl) (Nat.le_of_ble_eq_true rfl) ?_
                  rw [drawF_ok (p := (atI gv (nI cs.length) (-1), x)) rfl (by show ¬ atI gv (nI cs.length) (-1) < 0; rw [hat]; exact hnn.at _) (by show ¬ most < atI gv (nI cs.length) (-1); rw [hat]; exact Int32.not_lt.mpr c_153) hlt]
                  simp only [hat]
                  exact drP_ok (M' := mg_up (mg_up (mg_up M 1009 (iaE 60 (upd rf cs.length (gv.getD cs.length 0)))) 1010 (iaE 60 (upd lm cs.length most))) 1000 (moE (upd si 11 (nI (cs.length + 1))) x s)) h hrf hlt (mg_up_s _ _ _) ((mg_up_n _ _ (by decide)).trans ((mg_up_n _ _ (by decide)).trans (mg_up_s _ _ _))) ((mg_up_n _ _ (by decide)).trans (mg_up_s _ _ _)) (fun k h0 h1 h2 => (mg_up_n _ _ h0).trans ((mg_up_n _ _ h2).trans (mg_up_n _ _ h1)))
                · first | refine mg_aload_n d_Mo_draw_156 rfl rfl ?_ | refine mg_aload_nN d_Mo_draw_156 rfl rfl ?_
                  refine mg_iconst (v := 1) d_Mo_draw_157 (by decide) ?_
                  refine mg_putfield (fw_Mo_114 _) d_Mo_draw_158 (by first | assumption | exact mg_up_s _ _ _ | (rw [mg_up_n _ _ (by decide)]; first | assumption | exact mg_up_s _ _ _ | (rw [mg_up_n _ _ (by decide)]; first | assumption | exact mg_up_s _ _ _ | (rw [mg_up_n _ _ (by decide)]; first | assumption | exact mg_up_s _ _ _ | (rw [mg_up_n _ _ (by decide)]; first | assumption | exact mg_up_s _ _ _ | (rw [mg_up_n _ _ (by decide)]; first | assumption | exact mg_up_s _ _ _ | (rw [mg_up_n _ _ (by decide)]; first | assumption | exact mg_up_s _ _ _))))))) (Nat.le_of_ble_eq_true rfl) (fun _ => ⟨rfl, rfl⟩) ?_
                  refine mg_iconst (v := 0) d_Mo_draw_161 (by decide) ?_
                  refine mg_ireturn d_Mo_draw_162 rfl rfl (Nat.le_of_ble_eq_true rfl) (Nat.le_of_ble_eq_true rfl) ?_
                  rw [drawF_bad (p := (atI gv (nI cs.length) (-1), x)) rfl (Or.inr (Or.inl (by show most < atI gv (nI cs.length) (-1); rw [hat]; exact Int32.not_le.mp c_153)))]
                  exact drP_bad (M' := mg_up M 1000 (moE (upd si 15 1) x s)) h (mg_up_s _ _ _) (fun k hk => mg_up_n _ _ hk)
              · exact absurd c_127 (by rw [a2]; decide)
            · exact absurd c_82 (by rw [a2]; decide)
        · have hgl : gv.length = cs.length := by
            rw [a3, a8] at c_48
            first | exact ((nI_eq (by omega) (by omega)).mp c_48).symm | exact ((nI_eq (by omega) (by omega)).mp (Decidable.not_not.mp c_48)).symm
          first | refine mg_aload_n d_Mo_draw_51 rfl rfl ?_ | refine mg_aload_nN d_Mo_draw_51 rfl rfl ?_
          refine mg_iconst (v := 1) d_Mo_draw_52 (by decide) ?_
          refine mg_putfield (fw_Mo_114 _) d_Mo_draw_53 (by first | assumption | exact mg_up_s _ _ _ | (rw [mg_up_n _ _ (by decide)]; first | assumption | exact mg_up_s _ _ _ | (rw [mg_up_n _ _ (by decide)]; first | assumption | exact mg_up_s _ _ _ | (rw [mg_up_n _ _ (by decide)]; first | assumption | exact mg_up_s _ _ _ | (rw [mg_up_n _ _ (by decide)]; first | assumption | exact mg_up_s _ _ _ | (rw [mg_up_n _ _ (by decide)]; first | assumption | exact mg_up_s _ _ _ | (rw [mg_up_n _ _ (by decide)]; first | assumption | exact mg_up_s _ _ _))))))) (Nat.le_of_ble_eq_true rfl) (fun _ => ⟨rfl, rfl⟩) ?_
          refine mg_iconst (v := 0) d_Mo_draw_56 (by decide) ?_
          refine mg_ireturn d_Mo_draw_57 rfl rfl (Nat.le_of_ble_eq_true rfl) (Nat.le_of_ble_eq_true rfl) ?_
          rw [drawF_bad (p := (atI gv (nI cs.length) (-1), x)) rfl (by first | exact Or.inr (Or.inr (by omega)) | exact Or.inl (by show atI gv (nI cs.length) (-1) < 0; rw [atI_ge (by rw [hgl]; exact Int32.le_refl _)]; decide))]
          exact drP_bad (M' := mg_up M 1000 (moE (upd si 15 1) x s)) h (mg_up_s _ _ _) (fun k hk => mg_up_n _ _ hk)
  · exact absurd c_5 (by rw [a2]; decide)

set_option maxHeartbeats 4000000 in
set_option maxRecDepth 100000 in
theorem c_Mo_draw1 {M : mg_M} {si : Nat → Int32} {x s : Int64} {gv : List Int32} {z : Int32} {cs ns : List Int32} {lm : Nat → Int32} {most span w : Int32} (h : isRun M si x s (1, gv, z) (cs, ns, false, x, lm)) (hsp : span = if w = 0 then most + 1 else spanF z most) (hsp1 : ¬ span < 1) : mg_Ct Y_Mo_draw { frames := 0, cells := 0, slots := 0, locals := 0 } [.ref 1000, .int most, .int w] M (drP M si s (1, gv, z) (drawF (1, gv, z) (cs, ns, false, x, lm) most span)) := by
  obtain ⟨a1, a2, a3, a4, a5, a6, a7, a8, ⟨gf, g1, g2, g3⟩, ⟨rf, r1, r2, hrf⟩, a11, a12⟩ := id h
  replace a2 : si 10 = 1 := a2
  replace a3 : si 11 = nI cs.length := a3
  replace a8 : si 20 = nI gv.length := a8
  replace r2 : cs.length ≤ 60 := r2
  replace g2 : gv.length ≤ 60 := g2
  replace g3 : ∀ j, j < gv.length → gf j = gv.getD j 0 := g3
  replace hrf : ∀ j, j < cs.length → rf j = cs.getD j 0 := hrf
  replace a11 : M 1010 = some (iaE 60 lm) := a11
  refine mg_met [some (.ref 1000), some (.int most), some (.int w), none] (by decide +kernel) rfl (Nat.le_of_ble_eq_true rfl) ?_
  intro X hR _
  first | refine mg_aload_n d_Mo_draw_0 rfl rfl ?_ | refine mg_aload_nN d_Mo_draw_0 rfl rfl ?_
  refine mg_getfield fl_Mo_97 d_Mo_draw_1 (by first | assumption | exact mg_up_s _ _ _ | (rw [mg_up_n _ _ (by decide)]; first | assumption | exact mg_up_s _ _ _ | (rw [mg_up_n _ _ (by decide)]; first | assumption | exact mg_up_s _ _ _ | (rw [mg_up_n _ _ (by decide)]; first | assumption | exact mg_up_s _ _ _ | (rw [mg_up_n _ _ (by decide)]; first | assumption | exact mg_up_s _ _ _ | (rw [mg_up_n _ _ (by decide)]; first | assumption | exact mg_up_s _ _ _ | (rw [mg_up_n _ _ (by decide)]; first | assumption | exact mg_up_s _ _ _))))))) rfl ?_
  refine mg_iconst (v := 1) d_Mo_draw_4 (by decide) ?_
  refine mg_icmp_ne (tgt := 24) d_Mo_draw_5 (by decide) (fun c_5 => ?_) (fun c_5 => ?_)
  · exact absurd (by rw [a2]) c_5
  · first | refine mg_aload_n d_Mo_draw_8 rfl rfl ?_ | refine mg_aload_nN d_Mo_draw_8 rfl rfl ?_
    first | refine mg_aload_n d_Mo_draw_9 rfl rfl ?_ | refine mg_aload_nN d_Mo_draw_9 rfl rfl ?_
    refine mg_getfield fl_Mo_100 d_Mo_draw_10 (by first | assumption | exact mg_up_s _ _ _ | (rw [mg_up_n _ _ (by decide)]; first | assumption | exact mg_up_s _ _ _ | (rw [mg_up_n _ _ (by decide)]; first | assumption | exact mg_up_s _ _ _ | (rw [mg_up_n _ _ (by decide)]; first | assumption | exact mg_up_s _ _ _ | (rw [mg_up_n _ _ (by decide)]; first | assumption | exact mg_up_s _ _ _ | (rw [mg_up_n _ _ (by decide)]; first | assumption | exact mg_up_s _ _ _ | (rw [mg_up_n _ _ (by decide)]; first | assumption | exact mg_up_s _ _ _))))))) rfl ?_
    refine mg_ldc2 d_Mo_draw_13 kl_Mo_104 ?_
    refine mg_lmul d_Mo_draw_16 ?_
    refine mg_ldc2 d_Mo_draw_17 kl_Mo_106 ?_
    refine mg_ladd d_Mo_draw_20 ?_
    refine mg_putfield (fw_Mo_100 _) d_Mo_draw_21 (by first | assumption | exact mg_up_s _ _ _ | (rw [mg_up_n _ _ (by decide)]; first | assumption | exact mg_up_s _ _ _ | (rw [mg_up_n _ _ (by decide)]; first | assumption | exact mg_up_s _ _ _ | (rw [mg_up_n _ _ (by decide)]; first | assumption | exact mg_up_s _ _ _ | (rw [mg_up_n _ _ (by decide)]; first | assumption | exact mg_up_s _ _ _ | (rw [mg_up_n _ _ (by decide)]; first | assumption | exact mg_up_s _ _ _ | (rw [mg_up_n _ _ (by decide)]; first | assumption | exact mg_up_s _ _ _))))))) (Nat.le_of_ble_eq_true rfl) (fun _ => ⟨rfl, rfl⟩) ?_
    have b1 : (mg_up M 1000 (moE si (stepX x) s)) 1000 = some (moE si (stepX x) s) := mg_up_s _ _ _
    have b2 : (mg_up M 1000 (moE si (stepX x) s)) 1009 = some (iaE 60 rf) := (mg_up_n _ _ (by decide)).trans r1
    have b3 : (mg_up M 1000 (moE si (stepX x) s)) 1010 = some (iaE 60 lm) := (mg_up_n _ _ (by decide)).trans a11
    have hM1 : ∀ k, k ≠ 1000 → (mg_up M 1000 (moE si (stepX x) s)) k = M k := fun k hk => mg_up_n _ _ hk
    refine mg_eqM (M' := mg_up M 1000 (moE si (stepX x) s)) rfl ?_
    first | refine mg_aload_n d_Mo_draw_24 rfl rfl ?_ | refine mg_aload_nN d_Mo_draw_24 rfl rfl ?_
    refine mg_getfield fl_Mo_108 d_Mo_draw_25 (by first | assumption | exact mg_up_s _ _ _ | (rw [mg_up_n _ _ (by decide)]; first | assumption | exact mg_up_s _ _ _ | (rw [mg_up_n _ _ (by decide)]; first | assumption | exact mg_up_s _ _ _ | (rw [mg_up_n _ _ (by decide)]; first | assumption | exact mg_up_s _ _ _ | (rw [mg_up_n _ _ (by decide)]; first | assumption | exact mg_up_s _ _ _ | (rw [mg_up_n _ _ (by decide)]; first | assumption | exact mg_up_s _ _ _ | (rw [mg_up_n _ _ (by decide)]; first | assumption | exact mg_up_s _ _ _))))))) rfl ?_
    refine mg_bipush (v := 60) d_Mo_draw_28 (by decide) ?_
    refine mg_icmp_eq (tgt := 51) d_Mo_draw_30 (by decide) (fun c_30 => ?_) (fun c_30 => ?_)
    · have hc60 : cs.length = 60 := (nI_eq (by omega) (by decide)).mp (show nI cs.length = nI 60 from a3 ▸ c_30)
      first | refine mg_aload_n d_Mo_draw_51 rfl rfl ?_ | refine mg_aload_nN d_Mo_draw_51 rfl rfl ?_
      refine mg_iconst (v := 1) d_Mo_draw_52 (by decide) ?_
      refine mg_putfield (fw_Mo_114 _) d_Mo_draw_53 (by first | assumption | exact mg_up_s _ _ _ | (rw [mg_up_n _ _ (by decide)]; first | assumption | exact mg_up_s _ _ _ | (rw [mg_up_n _ _ (by decide)]; first | assumption | exact mg_up_s _ _ _ | (rw [mg_up_n _ _ (by decide)]; first | assumption | exact mg_up_s _ _ _ | (rw [mg_up_n _ _ (by decide)]; first | assumption | exact mg_up_s _ _ _ | (rw [mg_up_n _ _ (by decide)]; first | assumption | exact mg_up_s _ _ _ | (rw [mg_up_n _ _ (by decide)]; first | assumption | exact mg_up_s _ _ _))))))) (Nat.le_of_ble_eq_true rfl) (fun _ => ⟨rfl, rfl⟩) ?_
      refine mg_iconst (v := 0) d_Mo_draw_56 (by decide) ?_
      refine mg_ireturn d_Mo_draw_57 rfl rfl (Nat.le_of_ble_eq_true rfl) (Nat.le_of_ble_eq_true rfl) ?_
      rw [drawF_bad (p := (modX (stepX x) span, stepX x)) (by simp only [pickF, if_true, if_neg hsp1]) (Or.inr (Or.inr (by omega)))]
      exact drP_bad (M' := mg_up (mg_up M 1000 (moE si (stepX x) s)) 1000 (moE (upd si 15 1) (stepX x) s)) h (mg_up_s _ _ _) (fun k hk => (mg_up_n _ _ hk).trans (mg_up_n _ _ hk))
    · have hlt : cs.length < 60 := by
        rcases Nat.lt_or_ge cs.length 60 with q | q
        · exact q
        · exact absurd (show si 11 = 60 by rw [a3, show cs.length = 60 by omega]; rfl) c_30
      have hin : vp_in (si 11) 60 := by rw [a3]; exact nIw hlt (Nat.le_refl _)
      first | refine mg_aload_n d_Mo_draw_33 rfl rfl ?_ | refine mg_aload_nN d_Mo_draw_33 rfl rfl ?_
      refine mg_getfield fl_Mo_97 d_Mo_draw_34 (by first | assumption | exact mg_up_s _ _ _ | (rw [mg_up_n _ _ (by decide)]; first | assumption | exact mg_up_s _ _ _ | (rw [mg_up_n _ _ (by decide)]; first | assumption | exact mg_up_s _ _ _ | (rw [mg_up_n _ _ (by decide)]; first | assumption | exact mg_up_s _ _ _ | (rw [mg_up_n _ _ (by decide)]; first | assumption | exact mg_up_s _ _ _ | (rw [mg_up_n _ _ (by decide)]; first | assumption | exact mg_up_s _ _ _ | (rw [mg_up_n _ _ (by decide)]; first | assumption | exact mg_up_s _ _ _))))))) rfl ?_
      refine mg_if_ne (tgt := 58) d_Mo_draw_37 (by decide) (fun c_37 => ?_) (fun c_37 => ?_)
      · refine mg_iconst (v := 0) d_Mo_draw_58 (by decide) ?_
        refine mg_istore_n d_Mo_draw_59 rfl (Nat.le_of_ble_eq_true rfl) rfl ?_
        first | refine mg_aload_n d_Mo_draw_60 rfl rfl ?_ | refine mg_aload_nN d_Mo_draw_60 rfl rfl ?_
        refine mg_getfield fl_Mo_97 d_Mo_draw_61 (by first | assumption | exact mg_up_s _ _ _ | (rw [mg_up_n _ _ (by decide)]; first | assumption | exact mg_up_s _ _ _ | (rw [mg_up_n _ _ (by decide)]; first | assumption | exact mg_up_s _ _ _ | (rw [mg_up_n _ _ (by decide)]; first | assumption | exact mg_up_s _ _ _ | (rw [mg_up_n _ _ (by decide)]; first | assumption | exact mg_up_s _ _ _ | (rw [mg_up_n _ _ (by decide)]; first | assumption | exact mg_up_s _ _ _ | (rw [mg_up_n _ _ (by decide)]; first | assumption | exact mg_up_s _ _ _))))))) rfl ?_
        refine mg_if_ne (tgt := 77) d_Mo_draw_64 (by decide) (fun c_64 => ?_) (fun c_64 => ?_)
        · first | refine mg_aload_n d_Mo_draw_77 rfl rfl ?_ | refine mg_aload_nN d_Mo_draw_77 rfl rfl ?_
          refine mg_getfield fl_Mo_97 d_Mo_draw_78 (by first | assumption | exact mg_up_s _ _ _ | (rw [mg_up_n _ _ (by decide)]; first | assumption | exact mg_up_s _ _ _ | (rw [mg_up_n _ _ (by decide)]; first | assumption | exact mg_up_s _ _ _ | (rw [mg_up_n _ _ (by decide)]; first | assumption | exact mg_up_s _ _ _ | (rw [mg_up_n _ _ (by decide)]; first | assumption | exact mg_up_s _ _ _ | (rw [mg_up_n _ _ (by decide)]; first | assumption | exact mg_up_s _ _ _ | (rw [mg_up_n _ _ (by decide)]; first | assumption | exact mg_up_s _ _ _))))))) rfl ?_
          refine mg_iconst (v := 1) d_Mo_draw_81 (by decide) ?_
          refine mg_icmp_ne (tgt := 122) d_Mo_draw_82 (by decide) (fun c_82 => ?_) (fun c_82 => ?_)
          · exact absurd (by rw [a2]) c_82
          · first | refine mg_aload_n d_Mo_draw_85 rfl rfl ?_ | refine mg_aload_nN d_Mo_draw_85 rfl rfl ?_
            refine mg_getfield fl_Mo_100 d_Mo_draw_86 (by first | assumption | exact mg_up_s _ _ _ | (rw [mg_up_n _ _ (by decide)]; first | assumption | exact mg_up_s _ _ _ | (rw [mg_up_n _ _ (by decide)]; first | assumption | exact mg_up_s _ _ _ | (rw [mg_up_n _ _ (by decide)]; first | assumption | exact mg_up_s _ _ _ | (rw [mg_up_n _ _ (by decide)]; first | assumption | exact mg_up_s _ _ _ | (rw [mg_up_n _ _ (by decide)]; first | assumption | exact mg_up_s _ _ _ | (rw [mg_up_n _ _ (by decide)]; first | assumption | exact mg_up_s _ _ _))))))) rfl ?_
            refine mg_bipush (v := 33) d_Mo_draw_89 (by decide) ?_
            refine mg_lushr d_Mo_draw_91 ?_
            refine mg_iload_n d_Mo_draw_92 rfl rfl ?_
            refine mg_if_eq (tgt := 115) d_Mo_draw_93 (by decide) (fun c_93 => ?_) (fun c_93 => ?_)
            · have hs2 : span = most + 1 := by rw [hsp, if_pos c_93]
              refine mg_iload_n d_Mo_draw_115 rfl rfl ?_
              refine mg_iconst (v := 1) d_Mo_draw_116 (by decide) ?_
              refine mg_iadd d_Mo_draw_117 ?_
              refine mg_eqi (y := span) hs2.symm ?_
              have hne := toInt64_ne hsp1
              refine mg_i2l d_Mo_draw_118 ?_
              refine mg_lrem d_Mo_draw_119 (by first | assumption | decide) ?_
              refine mg_l2i d_Mo_draw_120 ?_
              refine mg_eqi (y := modX (stepX x) span) rfl ?_
              refine mg_istore_n d_Mo_draw_121 rfl (Nat.le_of_ble_eq_true rfl) rfl ?_
              first | refine mg_aload_n d_Mo_draw_122 rfl rfl ?_ | refine mg_aload_nN d_Mo_draw_122 rfl rfl ?_
              refine mg_getfield fl_Mo_97 d_Mo_draw_123 (by first | assumption | exact mg_up_s _ _ _ | (rw [mg_up_n _ _ (by decide)]; first | assumption | exact mg_up_s _ _ _ | (rw [mg_up_n _ _ (by decide)]; first | assumption | exact mg_up_s _ _ _ | (rw [mg_up_n _ _ (by decide)]; first | assumption | exact mg_up_s _ _ _ | (rw [mg_up_n _ _ (by decide)]; first | assumption | exact mg_up_s _ _ _ | (rw [mg_up_n _ _ (by decide)]; first | assumption | exact mg_up_s _ _ _ | (rw [mg_up_n _ _ (by decide)]; first | assumption | exact mg_up_s _ _ _))))))) rfl ?_
              refine mg_iconst (v := 2) d_Mo_draw_126 (by decide) ?_
              refine mg_icmp_ne (tgt := 151) d_Mo_draw_127 (by decide) (fun c_127 => ?_) (fun c_127 => ?_)
              · refine mg_iload_n d_Mo_draw_151 rfl rfl ?_
                refine mg_iload_n d_Mo_draw_152 rfl rfl ?_
                refine mg_icmp_le (tgt := 163) d_Mo_draw_153 (by decide) (fun c_153 => ?_) (fun c_153 => ?_)
                · first | refine mg_aload_n d_Mo_draw_163 rfl rfl ?_ | refine mg_aload_nN d_Mo_draw_163 rfl rfl ?_
                  refine mg_getfield fl_Mo_34 d_Mo_draw_164 (by first | assumption | exact mg_up_s _ _ _ | (rw [mg_up_n _ _ (by decide)]; first | assumption | exact mg_up_s _ _ _ | (rw [mg_up_n _ _ (by decide)]; first | assumption | exact mg_up_s _ _ _ | (rw [mg_up_n _ _ (by decide)]; first | assumption | exact mg_up_s _ _ _ | (rw [mg_up_n _ _ (by decide)]; first | assumption | exact mg_up_s _ _ _ | (rw [mg_up_n _ _ (by decide)]; first | assumption | exact mg_up_s _ _ _ | (rw [mg_up_n _ _ (by decide)]; first | assumption | exact mg_up_s _ _ _))))))) rfl ?_
                  first | refine mg_aload_n d_Mo_draw_167 rfl rfl ?_ | refine mg_aload_nN d_Mo_draw_167 rfl rfl ?_
                  refine mg_getfield fl_Mo_108 d_Mo_draw_168 (by first | assumption | exact mg_up_s _ _ _ | (rw [mg_up_n _ _ (by decide)]; first | assumption | exact mg_up_s _ _ _ | (rw [mg_up_n _ _ (by decide)]; first | assumption | exact mg_up_s _ _ _ | (rw [mg_up_n _ _ (by decide)]; first | assumption | exact mg_up_s _ _ _ | (rw [mg_up_n _ _ (by decide)]; first | assumption | exact mg_up_s _ _ _ | (rw [mg_up_n _ _ (by decide)]; first | assumption | exact mg_up_s _ _ _ | (rw [mg_up_n _ _ (by decide)]; first | assumption | exact mg_up_s _ _ _))))))) rfl ?_
                  refine mg_iload_n d_Mo_draw_171 rfl rfl ?_
                  refine mg_iastore rfl d_Mo_draw_172 (by first | assumption | exact mg_up_s _ _ _ | (rw [mg_up_n _ _ (by decide)]; first | assumption | exact mg_up_s _ _ _ | (rw [mg_up_n _ _ (by decide)]; first | assumption | exact mg_up_s _ _ _ | (rw [mg_up_n _ _ (by decide)]; first | assumption | exact mg_up_s _ _ _ | (rw [mg_up_n _ _ (by decide)]; first | assumption | exact mg_up_s _ _ _ | (rw [mg_up_n _ _ (by decide)]; first | assumption | exact mg_up_s _ _ _ | (rw [mg_up_n _ _ (by decide)]; first | assumption | exact mg_up_s _ _ _))))))) hin ?_
                  refine mg_eqM (M' := mg_up (mg_up M 1000 (moE si (stepX x) s)) 1009 (iaE 60 (upd rf cs.length (modX (stepX x) span)))) (by rw [a3, nI_clampN (by omega)]) ?_
                  first | refine mg_aload_n d_Mo_draw_173 rfl rfl ?_ | refine mg_aload_nN d_Mo_draw_173 rfl rfl ?_
                  refine mg_getfield fl_Mo_37 d_Mo_draw_174 (by first | assumption | exact mg_up_s _ _ _ | (rw [mg_up_n _ _ (by decide)]; first | assumption | exact mg_up_s _ _ _ | (rw [mg_up_n _ _ (by decide)]; first | assumption | exact mg_up_s _ _ _ | (rw [mg_up_n _ _ (by decide)]; first | assumption | exact mg_up_s _ _ _ | (rw [mg_up_n _ _ (by decide)]; first | assumption | exact mg_up_s _ _ _ | (rw [mg_up_n _ _ (by decide)]; first | assumption | exact mg_up_s _ _ _ | (rw [mg_up_n _ _ (by decide)]; first | assumption | exact mg_up_s _ _ _))))))) rfl ?_
                  first | refine mg_aload_n d_Mo_draw_177 rfl rfl ?_ | refine mg_aload_nN d_Mo_draw_177 rfl rfl ?_
                  refine mg_getfield fl_Mo_108 d_Mo_draw_178 (by first | assumption | exact mg_up_s _ _ _ | (rw [mg_up_n _ _ (by decide)]; first | assumption | exact mg_up_s _ _ _ | (rw [mg_up_n _ _ (by decide)]; first | assumption | exact mg_up_s _ _ _ | (rw [mg_up_n _ _ (by decide)]; first | assumption | exact mg_up_s _ _ _ | (rw [mg_up_n _ _ (by decide)]; first | assumption | exact mg_up_s _ _ _ | (rw [mg_up_n _ _ (by decide)]; first | assumption | exact mg_up_s _ _ _ | (rw [mg_up_n _ _ (by decide)]; first | assumption | exact mg_up_s _ _ _))))))) rfl ?_
                  refine mg_iload_n d_Mo_draw_181 rfl rfl ?_
                  refine mg_iastore rfl d_Mo_draw_182 (by first | assumption | exact mg_up_s _ _ _ | (rw [mg_up_n _ _ (by decide)]; first | assumption | exact mg_up_s _ _ _ | (rw [mg_up_n _ _ (by decide)]; first | assumption | exact mg_up_s _ _ _ | (rw [mg_up_n _ _ (by decide)]; first | assumption | exact mg_up_s _ _ _ | (rw [mg_up_n _ _ (by decide)]; first | assumption | exact mg_up_s _ _ _ | (rw [mg_up_n _ _ (by decide)]; first | assumption | exact mg_up_s _ _ _ | (rw [mg_up_n _ _ (by decide)]; first | assumption | exact mg_up_s _ _ _))))))) hin ?_
                  refine mg_eqM (M' := mg_up (mg_up (mg_up M 1000 (moE si (stepX x) s)) 1009 (iaE 60 (upd rf cs.length (modX (stepX x) span)))) 1010 (iaE 60 (upd lm cs.length most))) (by rw [a3, nI_clampN (by omega)]) ?_
                  first | refine mg_aload_n d_Mo_draw_183 rfl rfl ?_ | refine mg_aload_nN d_Mo_draw_183 rfl rfl ?_
                  refine mg_dup d_Mo_draw_184 rfl ?_
                  refine mg_getfield fl_Mo_108 d_Mo_draw_185 (by first | assumption | exact mg_up_s _ _ _ | (rw [mg_up_n _ _ (by decide)]; first | assumption | exact mg_up_s _ _ _ | (rw [mg_up_n _ _ (by decide)]; first | assumption | exact mg_up_s _ _ _ | (rw [mg_up_n _ _ (by decide)]; first | assumption | exact mg_up_s _ _ _ | (rw [mg_up_n _ _ (by decide)]; first | assumption | exact mg_up_s _ _ _ | (rw [mg_up_n _ _ (by decide)]; first | assumption | exact mg_up_s _ _ _ | (rw [mg_up_n _ _ (by decide)]; first | assumption | exact mg_up_s _ _ _))))))) rfl ?_
                  refine mg_iconst (v := 1) d_Mo_draw_188 (by decide) ?_
                  refine mg_iadd d_Mo_draw_189 ?_
                  refine mg_putfield (fw_Mo_108 _) d_Mo_draw_190 (by first | assumption | exact mg_up_s _ _ _ | (rw [mg_up_n _ _ (by decide)]; first | assumption | exact mg_up_s _ _ _ | (rw [mg_up_n _ _ (by decide)]; first | assumption | exact mg_up_s _ _ _ | (rw [mg_up_n _ _ (by decide)]; first | assumption | exact mg_up_s _ _ _ | (rw [mg_up_n _ _ (by decide)]; first | assumption | exact mg_up_s _ _ _ | (rw [mg_up_n _ _ (by decide)]; first | assumption | exact mg_up_s _ _ _ | (rw [mg_up_n _ _ (by decide)]; first | assumption | exact mg_up_s _ _ _))))))) (Nat.le_of_ble_eq_true rfl) (fun _ => ⟨rfl, rfl⟩) ?_
                  refine mg_eqM (M' := mg_up (mg_up (mg_up (mg_up M 1000 (moE si (stepX x) s)) 1009 (iaE 60 (upd rf cs.length (modX (stepX x) span)))) 1010 (iaE 60 (upd lm cs.length most))) 1000 (moE (upd si 11 (nI (cs.length + 1))) (stepX x) s)) (by rw [a3, nI_1]; rfl) ?_
                  refine mg_iload_n d_Mo_draw_193 rfl rfl ?_
                  refine mg_ireturn d_Mo_draw_194 rfl rfl (Nat.le_of_ble_eq_true rfl) (Nat.le_of_ble_eq_true rfl) ?_
                  rw [drawF_ok (p := (modX (stepX x) span, stepX x)) (by simp only [pickF, if_true, if_neg hsp1]) (by exact modX_nn _ hsp1) (by exact Int32.not_lt.mpr c_153) hlt]
                  
                  exact drP_ok (M' := mg_up (mg_up (mg_up (mg_up M 1000 (moE si (stepX x) s)) 1009 (iaE 60 (upd rf cs.length (modX (stepX x) span)))) 1010 (iaE 60 (upd lm cs.length most))) 1000 (moE (upd si 11 (nI (cs.length + 1))) (stepX x) s)) h hrf hlt (mg_up_s _ _ _) ((mg_up_n _ _ (by decide)).trans ((mg_up_n _ _ (by decide)).trans (mg_up_s _ _ _))) ((mg_up_n _ _ (by decide)).trans (mg_up_s _ _ _)) (fun k h0 h1 h2 => (mg_up_n _ _ h0).trans ((mg_up_n _ _ h2).trans ((mg_up_n _ _ h1).trans (mg_up_n _ _ h0))))
                · first | refine mg_aload_n d_Mo_draw_156 rfl rfl ?_ | refine mg_aload_nN d_Mo_draw_156 rfl rfl ?_
                  refine mg_iconst (v := 1) d_Mo_draw_157 (by decide) ?_
                  refine mg_putfield (fw_Mo_114 _) d_Mo_draw_158 (by first | assumption | exact mg_up_s _ _ _ | (rw [mg_up_n _ _ (by decide)]; first | assumption | exact mg_up_s _ _ _ | (rw [mg_up_n _ _ (by decide)]; first | assumption | exact mg_up_s _ _ _ | (rw [mg_up_n _ _ (by decide)]; first | assumption | exact mg_up_s _ _ _ | (rw [mg_up_n _ _ (by decide)]; first | assumption | exact mg_up_s _ _ _ | (rw [mg_up_n _ _ (by decide)]; first | assumption | exact mg_up_s _ _ _ | (rw [mg_up_n _ _ (by decide)]; first | assumption | exact mg_up_s _ _ _))))))) (Nat.le_of_ble_eq_true rfl) (fun _ => ⟨rfl, rfl⟩) ?_
                  refine mg_iconst (v := 0) d_Mo_draw_161 (by decide) ?_
                  refine mg_ireturn d_Mo_draw_162 rfl rfl (Nat.le_of_ble_eq_true rfl) (Nat.le_of_ble_eq_true rfl) ?_
                  rw [drawF_bad (p := (modX (stepX x) span, stepX x)) (by simp only [pickF, if_true, if_neg hsp1]) (Or.inr (Or.inl (Int32.not_le.mp c_153)))]
                  exact drP_bad (M' := mg_up (mg_up M 1000 (moE si (stepX x) s)) 1000 (moE (upd si 15 1) (stepX x) s)) h (mg_up_s _ _ _) (fun k hk => (mg_up_n _ _ hk).trans (mg_up_n _ _ hk))
              · exact absurd c_127 (by rw [a2]; decide)
            · refine mg_iload_n d_Mo_draw_96 rfl rfl ?_
              first | refine mg_aload_n d_Mo_draw_97 rfl rfl ?_ | refine mg_aload_nN d_Mo_draw_97 rfl rfl ?_
              refine mg_getfield fl_Mo_118 d_Mo_draw_98 (by first | assumption | exact mg_up_s _ _ _ | (rw [mg_up_n _ _ (by decide)]; first | assumption | exact mg_up_s _ _ _ | (rw [mg_up_n _ _ (by decide)]; first | assumption | exact mg_up_s _ _ _ | (rw [mg_up_n _ _ (by decide)]; first | assumption | exact mg_up_s _ _ _ | (rw [mg_up_n _ _ (by decide)]; first | assumption | exact mg_up_s _ _ _ | (rw [mg_up_n _ _ (by decide)]; first | assumption | exact mg_up_s _ _ _ | (rw [mg_up_n _ _ (by decide)]; first | assumption | exact mg_up_s _ _ _))))))) rfl ?_
              refine mg_iconst (v := 1) d_Mo_draw_101 (by decide) ?_
              refine mg_iadd d_Mo_draw_102 ?_
              refine mg_icmp_le (tgt := 115) d_Mo_draw_103 (by decide) (fun c_103 => ?_) (fun c_103 => ?_)
              · have hs2 : span = most + 1 := by rw [hsp, if_neg c_93]; unfold spanF; rw [if_pos (show most ≤ z + 1 by rw [← show si 13 = z from a5 rfl]; exact c_103)]
                refine mg_iload_n d_Mo_draw_115 rfl rfl ?_
                refine mg_iconst (v := 1) d_Mo_draw_116 (by decide) ?_
                refine mg_iadd d_Mo_draw_117 ?_
                refine mg_eqi (y := span) hs2.symm ?_
                have hne := toInt64_ne hsp1
                refine mg_i2l d_Mo_draw_118 ?_
                refine mg_lrem d_Mo_draw_119 (by first | assumption | decide) ?_
                refine mg_l2i d_Mo_draw_120 ?_
                refine mg_eqi (y := modX (stepX x) span) rfl ?_
                refine mg_istore_n d_Mo_draw_121 rfl (Nat.le_of_ble_eq_true rfl) rfl ?_
                first | refine mg_aload_n d_Mo_draw_122 rfl rfl ?_ | refine mg_aload_nN d_Mo_draw_122 rfl rfl ?_
                refine mg_getfield fl_Mo_97 d_Mo_draw_123 (by first | assumption | exact mg_up_s _ _ _ | (rw [mg_up_n _ _ (by decide)]; first | assumption | exact mg_up_s _ _ _ | (rw [mg_up_n _ _ (by decide)]; first | assumption | exact mg_up_s _ _ _ | (rw [mg_up_n _ _ (by decide)]; first | assumption | exact mg_up_s _ _ _ | (rw [mg_up_n _ _ (by decide)]; first | assumption | exact mg_up_s _ _ _ | (rw [mg_up_n _ _ (by decide)]; first | assumption | exact mg_up_s _ _ _ | (rw [mg_up_n _ _ (by decide)]; first | assumption | exact mg_up_s _ _ _))))))) rfl ?_
                refine mg_iconst (v := 2) d_Mo_draw_126 (by decide) ?_
                refine mg_icmp_ne (tgt := 151) d_Mo_draw_127 (by decide) (fun c_127 => ?_) (fun c_127 => ?_)
                · refine mg_iload_n d_Mo_draw_151 rfl rfl ?_
                  refine mg_iload_n d_Mo_draw_152 rfl rfl ?_
                  refine mg_icmp_le (tgt := 163) d_Mo_draw_153 (by decide) (fun c_153 => ?_) (fun c_153 => ?_)
                  · first | refine mg_aload_n d_Mo_draw_163 rfl rfl ?_ | refine mg_aload_nN d_Mo_draw_163 rfl rfl ?_
                    refine mg_getfield fl_Mo_34 d_Mo_draw_164 (by first | assumption | exact mg_up_s _ _ _ | (rw [mg_up_n _ _ (by decide)]; first | assumption | exact mg_up_s _ _ _ | (rw [mg_up_n _ _ (by decide)]; first | assumption | exact mg_up_s _ _ _ | (rw [mg_up_n _ _ (by decide)]; first | assumption | exact mg_up_s _ _ _ | (rw [mg_up_n _ _ (by decide)]; first | assumption | exact mg_up_s _ _ _ | (rw [mg_up_n _ _ (by decide)]; first | assumption | exact mg_up_s _ _ _ | (rw [mg_up_n _ _ (by decide)]; first | assumption | exact mg_up_s _ _ _))))))) rfl ?_
                    first | refine mg_aload_n d_Mo_draw_167 rfl rfl ?_ | refine mg_aload_nN d_Mo_draw_167 rfl rfl ?_
                    refine mg_getfield fl_Mo_108 d_Mo_draw_168 (by first | assumption | exact mg_up_s _ _ _ | (rw [mg_up_n _ _ (by decide)]; first | assumption | exact mg_up_s _ _ _ | (rw [mg_up_n _ _ (by decide)]; first | assumption | exact mg_up_s _ _ _ | (rw [mg_up_n _ _ (by decide)]; first | assumption | exact mg_up_s _ _ _ | (rw [mg_up_n _ _ (by decide)]; first | assumption | exact mg_up_s _ _ _ | (rw [mg_up_n _ _ (by decide)]; first | assumption | exact mg_up_s _ _ _ | (rw [mg_up_n _ _ (by decide)]; first | assumption | exact mg_up_s _ _ _))))))) rfl ?_
                    refine mg_iload_n d_Mo_draw_171 rfl rfl ?_
                    refine mg_iastore rfl d_Mo_draw_172 (by first | assumption | exact mg_up_s _ _ _ | (rw [mg_up_n _ _ (by decide)]; first | assumption | exact mg_up_s _ _ _ | (rw [mg_up_n _ _ (by decide)]; first | assumption | exact mg_up_s _ _ _ | (rw [mg_up_n _ _ (by decide)]; first | assumption | exact mg_up_s _ _ _ | (rw [mg_up_n _ _ (by decide)]; first | assumption | exact mg_up_s _ _ _ | (rw [mg_up_n _ _ (by decide)]; first | assumption | exact mg_up_s _ _ _ | (rw [mg_up_n _ _ (by decide)]; first | assumption | exact mg_up_s _ _ _))))))) hin ?_
                    refine mg_eqM (M' := mg_up (mg_up M 1000 (moE si (stepX x) s)) 1009 (iaE 60 (upd rf cs.length (modX (stepX x) span)))) (by rw [a3, nI_clampN (by omega)]) ?_
                    first | refine mg_aload_n d_Mo_draw_173 rfl rfl ?_ | refine mg_aload_nN d_Mo_draw_173 rfl rfl ?_
                    refine mg_getfield fl_Mo_37 d_Mo_draw_174 (by first | assumption | exact mg_up_s _ _ _ | (rw [mg_up_n _ _ (by decide)]; first | assumption | exact mg_up_s _ _ _ | (rw [mg_up_n _ _ (by decide)]; first | assumption | exact mg_up_s _ _ _ | (rw [mg_up_n _ _ (by decide)]; first | assumption | exact mg_up_s _ _ _ | (rw [mg_up_n _ _ (by decide)]; first | assumption | exact mg_up_s _ _ _ | (rw [mg_up_n _ _ (by decide)]; first | assumption | exact mg_up_s _ _ _ | (rw [mg_up_n _ _ (by decide)]; first | assumption | exact mg_up_s _ _ _))))))) rfl ?_
                    first | refine mg_aload_n d_Mo_draw_177 rfl rfl ?_ | refine mg_aload_nN d_Mo_draw_177 rfl rfl ?_
                    refine mg_getfield fl_Mo_108 d_Mo_draw_178 (by first | assumption | exact mg_up_s _ _ _ | (rw [mg_up_n _ _ (by decide)]; first | assumption | exact mg_up_s _ _ _ | (rw [mg_up_n _ _ (by decide)]; first | assumption | exact mg_up_s _ _ _ | (rw [mg_up_n _ _ (by decide)]; first | assumption | exact mg_up_s _ _ _ | (rw [mg_up_n _ _ (by decide)]; first | assumption | exact mg_up_s _ _ _ | (rw [mg_up_n _ _ (by decide)]; first | assumption | exact mg_up_s _ _ _ | (rw [mg_up_n _ _ (by decide)]; first | assumption | exact mg_up_s _ _ _))))))) rfl ?_
                    refine mg_iload_n d_Mo_draw_181 rfl rfl ?_
                    refine mg_iastore rfl d_Mo_draw_182 (by first | assumption | exact mg_up_s _ _ _ | (rw [mg_up_n _ _ (by decide)]; first | assumption | exact mg_up_s _ _ _ | (rw [mg_up_n _ _ (by decide)]; first | assumption | exact mg_up_s _ _ _ | (rw [mg_up_n _ _ (by decide)]; first | assumption | exact mg_up_s _ _ _ | (rw [mg_up_n _ _ (by decide)]; first | assumption | exact mg_up_s _ _ _ | (rw [mg_up_n _ _ (by decide)]; first | assumption | exact mg_up_s _ _ _ | (rw [mg_up_n _ _ (by decide)]; first | assumption | exact mg_up_s _ _ _))))))) hin ?_
                    refine mg_eqM (M' := mg_up (mg_up (mg_up M 1000 (moE si (stepX x) s)) 1009 (iaE 60 (upd rf cs.length (modX (stepX x) span)))) 1010 (iaE 60 (upd lm cs.length most))) (by rw [a3, nI_clampN (by omega)]) ?_
                    first | refine mg_aload_n d_Mo_draw_183 rfl rfl ?_ | refine mg_aload_nN d_Mo_draw_183 rfl rfl ?_
                    refine mg_dup d_Mo_draw_184 rfl ?_
                    refine mg_getfield fl_Mo_108 d_Mo_draw_185 (by first | assumption | exact mg_up_s _ _ _ | (rw [mg_up_n _ _ (by decide)]; first | assumption | exact mg_up_s _ _ _ | (rw [mg_up_n _ _ (by decide)]; first | assumption | exact mg_up_s _ _ _ | (rw [mg_up_n _ _ (by decide)]; first | assumption | exact mg_up_s _ _ _ | (rw [mg_up_n _ _ (by decide)]; first | assumption | exact mg_up_s _ _ _ | (rw [mg_up_n _ _ (by decide)]; first | assumption | exact mg_up_s _ _ _ | (rw [mg_up_n _ _ (by decide)]; first | assumption | exact mg_up_s _ _ _))))))) rfl ?_
                    refine mg_iconst (v := 1) d_Mo_draw_188 (by decide) ?_
                    refine mg_iadd d_Mo_draw_189 ?_
                    refine mg_putfield (fw_Mo_108 _) d_Mo_draw_190 (by first | assumption | exact mg_up_s _ _ _ | (rw [mg_up_n _ _ (by decide)]; first | assumption | exact mg_up_s _ _ _ | (rw [mg_up_n _ _ (by decide)]; first | assumption | exact mg_up_s _ _ _ | (rw [mg_up_n _ _ (by decide)]; first | assumption | exact mg_up_s _ _ _ | (rw [mg_up_n _ _ (by decide)]; first | assumption | exact mg_up_s _ _ _ | (rw [mg_up_n _ _ (by decide)]; first | assumption | exact mg_up_s _ _ _ | (rw [mg_up_n _ _ (by decide)]; first | assumption | exact mg_up_s _ _ _))))))) (Nat.le_of_ble_eq_true rfl) (fun _ => ⟨rfl, rfl⟩) ?_
                    refine mg_eqM (M' := mg_up (mg_up (mg_up (mg_up M 1000 (moE si (stepX x) s)) 1009 (iaE 60 (upd rf cs.length (modX (stepX x) span)))) 1010 (iaE 60 (upd lm cs.length most))) 1000 (moE (upd si 11 (nI (cs.length + 1))) (stepX x) s)) (by rw [a3, nI_1]; rfl) ?_
                    refine mg_iload_n d_Mo_draw_193 rfl rfl ?_
                    refine mg_ireturn d_Mo_draw_194 rfl rfl (Nat.le_of_ble_eq_true rfl) (Nat.le_of_ble_eq_true rfl) ?_
                    rw [drawF_ok (p := (modX (stepX x) span, stepX x)) (by simp only [pickF, if_true, if_neg hsp1]) (by exact modX_nn _ hsp1) (by exact Int32.not_lt.mpr c_153) hlt]
                    
                    exact drP_ok (M' := mg_up (mg_up (mg_up (mg_up M 1000 (moE si (stepX x) s)) 1009 (iaE 60 (upd rf cs.length (modX (stepX x) span)))) 1010 (iaE 60 (upd lm cs.length most))) 1000 (moE (upd si 11 (nI (cs.length + 1))) (stepX x) s)) h hrf hlt (mg_up_s _ _ _) ((mg_up_n _ _ (by decide)).trans ((mg_up_n _ _ (by decide)).trans (mg_up_s _ _ _))) ((mg_up_n _ _ (by decide)).trans (mg_up_s _ _ _)) (fun k h0 h1 h2 => (mg_up_n _ _ h0).trans ((mg_up_n _ _ h2).trans ((mg_up_n _ _ h1).trans (mg_up_n _ _ h0))))
                  · first | refine mg_aload_n d_Mo_draw_156 rfl rfl ?_ | refine mg_aload_nN d_Mo_draw_156 rfl rfl ?_
                    refine mg_iconst (v := 1) d_Mo_draw_157 (by decide) ?_
                    refine mg_putfield (fw_Mo_114 _) d_Mo_draw_158 (by first | assumption | exact mg_up_s _ _ _ | (rw [mg_up_n _ _ (by decide)]; first | assumption | exact mg_up_s _ _ _ | (rw [mg_up_n _ _ (by decide)]; first | assumption | exact mg_up_s _ _ _ | (rw [mg_up_n _ _ (by decide)]; first | assumption | exact mg_up_s _ _ _ | (rw [mg_up_n _ _ (by decide)]; first | assumption | exact mg_up_s _ _ _ | (rw [mg_up_n _ _ (by decide)]; first | assumption | exact mg_up_s _ _ _ | (rw [mg_up_n _ _ (by decide)]; first | assumption | exact mg_up_s _ _ _))))))) (Nat.le_of_ble_eq_true rfl) (fun _ => ⟨rfl, rfl⟩) ?_
                    refine mg_iconst (v := 0) d_Mo_draw_161 (by decide) ?_
                    refine mg_ireturn d_Mo_draw_162 rfl rfl (Nat.le_of_ble_eq_true rfl) (Nat.le_of_ble_eq_true rfl) ?_
                    rw [drawF_bad (p := (modX (stepX x) span, stepX x)) (by simp only [pickF, if_true, if_neg hsp1]) (Or.inr (Or.inl (Int32.not_le.mp c_153)))]
                    exact drP_bad (M' := mg_up (mg_up M 1000 (moE si (stepX x) s)) 1000 (moE (upd si 15 1) (stepX x) s)) h (mg_up_s _ _ _) (fun k hk => (mg_up_n _ _ hk).trans (mg_up_n _ _ hk))
                · exact absurd c_127 (by rw [a2]; decide)
              · have hs2 : span = si 13 + 2 := by rw [hsp, if_neg c_93]; unfold spanF; rw [if_neg (show ¬ most ≤ z + 1 by rw [← show si 13 = z from a5 rfl]; exact c_103)]; rw [show si 13 = z from a5 rfl]
                first | refine mg_aload_n d_Mo_draw_106 rfl rfl ?_ | refine mg_aload_nN d_Mo_draw_106 rfl rfl ?_
                refine mg_getfield fl_Mo_118 d_Mo_draw_107 (by first | assumption | exact mg_up_s _ _ _ | (rw [mg_up_n _ _ (by decide)]; first | assumption | exact mg_up_s _ _ _ | (rw [mg_up_n _ _ (by decide)]; first | assumption | exact mg_up_s _ _ _ | (rw [mg_up_n _ _ (by decide)]; first | assumption | exact mg_up_s _ _ _ | (rw [mg_up_n _ _ (by decide)]; first | assumption | exact mg_up_s _ _ _ | (rw [mg_up_n _ _ (by decide)]; first | assumption | exact mg_up_s _ _ _ | (rw [mg_up_n _ _ (by decide)]; first | assumption | exact mg_up_s _ _ _))))))) rfl ?_
                refine mg_iconst (v := 2) d_Mo_draw_110 (by decide) ?_
                refine mg_iadd d_Mo_draw_111 ?_
                refine mg_goto (tgt := 118) d_Mo_draw_112 (by decide) ?_
                refine mg_eqi (y := span) hs2.symm ?_
                have hne := toInt64_ne hsp1
                refine mg_i2l d_Mo_draw_118 ?_
                refine mg_lrem d_Mo_draw_119 (by first | assumption | decide) ?_
                refine mg_l2i d_Mo_draw_120 ?_
                refine mg_eqi (y := modX (stepX x) span) rfl ?_
                refine mg_istore_n d_Mo_draw_121 rfl (Nat.le_of_ble_eq_true rfl) rfl ?_
                first | refine mg_aload_n d_Mo_draw_122 rfl rfl ?_ | refine mg_aload_nN d_Mo_draw_122 rfl rfl ?_
                refine mg_getfield fl_Mo_97 d_Mo_draw_123 (by first | assumption | exact mg_up_s _ _ _ | (rw [mg_up_n _ _ (by decide)]; first | assumption | exact mg_up_s _ _ _ | (rw [mg_up_n _ _ (by decide)]; first | assumption | exact mg_up_s _ _ _ | (rw [mg_up_n _ _ (by decide)]; first | assumption | exact mg_up_s _ _ _ | (rw [mg_up_n _ _ (by decide)]; first | assumption | exact mg_up_s _ _ _ | (rw [mg_up_n _ _ (by decide)]; first | assumption | exact mg_up_s _ _ _ | (rw [mg_up_n _ _ (by decide)]; first | assumption | exact mg_up_s _ _ _))))))) rfl ?_
                refine mg_iconst (v := 2) d_Mo_draw_126 (by decide) ?_
                refine mg_icmp_ne (tgt := 151) d_Mo_draw_127 (by decide) (fun c_127 => ?_) (fun c_127 => ?_)
                · refine mg_iload_n d_Mo_draw_151 rfl rfl ?_
                  refine mg_iload_n d_Mo_draw_152 rfl rfl ?_
                  refine mg_icmp_le (tgt := 163) d_Mo_draw_153 (by decide) (fun c_153 => ?_) (fun c_153 => ?_)
                  · first | refine mg_aload_n d_Mo_draw_163 rfl rfl ?_ | refine mg_aload_nN d_Mo_draw_163 rfl rfl ?_
                    refine mg_getfield fl_Mo_34 d_Mo_draw_164 (by first | assumption | exact mg_up_s _ _ _ | (rw [mg_up_n _ _ (by decide)]; first | assumption | exact mg_up_s _ _ _ | (rw [mg_up_n _ _ (by decide)]; first | assumption | exact mg_up_s _ _ _ | (rw [mg_up_n _ _ (by decide)]; first | assumption | exact mg_up_s _ _ _ | (rw [mg_up_n _ _ (by decide)]; first | assumption | exact mg_up_s _ _ _ | (rw [mg_up_n _ _ (by decide)]; first | assumption | exact mg_up_s _ _ _ | (rw [mg_up_n _ _ (by decide)]; first | assumption | exact mg_up_s _ _ _))))))) rfl ?_
                    first | refine mg_aload_n d_Mo_draw_167 rfl rfl ?_ | refine mg_aload_nN d_Mo_draw_167 rfl rfl ?_
                    refine mg_getfield fl_Mo_108 d_Mo_draw_168 (by first | assumption | exact mg_up_s _ _ _ | (rw [mg_up_n _ _ (by decide)]; first | assumption | exact mg_up_s _ _ _ | (rw [mg_up_n _ _ (by decide)]; first | assumption | exact mg_up_s _ _ _ | (rw [mg_up_n _ _ (by decide)]; first | assumption | exact mg_up_s _ _ _ | (rw [mg_up_n _ _ (by decide)]; first | assumption | exact mg_up_s _ _ _ | (rw [mg_up_n _ _ (by decide)]; first | assumption | exact mg_up_s _ _ _ | (rw [mg_up_n _ _ (by decide)]; first | assumption | exact mg_up_s _ _ _))))))) rfl ?_
                    refine mg_iload_n d_Mo_draw_171 rfl rfl ?_
                    refine mg_iastore rfl d_Mo_draw_172 (by first | assumption | exact mg_up_s _ _ _ | (rw [mg_up_n _ _ (by decide)]; first | assumption | exact mg_up_s _ _ _ | (rw [mg_up_n _ _ (by decide)]; first | assumption | exact mg_up_s _ _ _ | (rw [mg_up_n _ _ (by decide)]; first | assumption | exact mg_up_s _ _ _ | (rw [mg_up_n _ _ (by decide)]; first | assumption | exact mg_up_s _ _ _ | (rw [mg_up_n _ _ (by decide)]; first | assumption | exact mg_up_s _ _ _ | (rw [mg_up_n _ _ (by decide)]; first | assumption | exact mg_up_s _ _ _))))))) hin ?_
                    refine mg_eqM (M' := mg_up (mg_up M 1000 (moE si (stepX x) s)) 1009 (iaE 60 (upd rf cs.length (modX (stepX x) span)))) (by rw [a3, nI_clampN (by omega)]) ?_
                    first | refine mg_aload_n d_Mo_draw_173 rfl rfl ?_ | refine mg_aload_nN d_Mo_draw_173 rfl rfl ?_
                    refine mg_getfield fl_Mo_37 d_Mo_draw_174 (by first | assumption | exact mg_up_s _ _ _ | (rw [mg_up_n _ _ (by decide)]; first | assumption | exact mg_up_s _ _ _ | (rw [mg_up_n _ _ (by decide)]; first | assumption | exact mg_up_s _ _ _ | (rw [mg_up_n _ _ (by decide)]; first | assumption | exact mg_up_s _ _ _ | (rw [mg_up_n _ _ (by decide)]; first | assumption | exact mg_up_s _ _ _ | (rw [mg_up_n _ _ (by decide)]; first | assumption | exact mg_up_s _ _ _ | (rw [mg_up_n _ _ (by decide)]; first | assumption | exact mg_up_s _ _ _))))))) rfl ?_
                    first | refine mg_aload_n d_Mo_draw_177 rfl rfl ?_ | refine mg_aload_nN d_Mo_draw_177 rfl rfl ?_
                    refine mg_getfield fl_Mo_108 d_Mo_draw_178 (by first | assumption | exact mg_up_s _ _ _ | (rw [mg_up_n _ _ (by decide)]; first | assumption | exact mg_up_s _ _ _ | (rw [mg_up_n _ _ (by decide)]; first | assumption | exact mg_up_s _ _ _ | (rw [mg_up_n _ _ (by decide)]; first | assumption | exact mg_up_s _ _ _ | (rw [mg_up_n _ _ (by decide)]; first | assumption | exact mg_up_s _ _ _ | (rw [mg_up_n _ _ (by decide)]; first | assumption | exact mg_up_s _ _ _ | (rw [mg_up_n _ _ (by decide)]; first | assumption | exact mg_up_s _ _ _))))))) rfl ?_
                    refine mg_iload_n d_Mo_draw_181 rfl rfl ?_
                    refine mg_iastore rfl d_Mo_draw_182 (by first | assumption | exact mg_up_s _ _ _ | (rw [mg_up_n _ _ (by decide)]; first | assumption | exact mg_up_s _ _ _ | (rw [mg_up_n _ _ (by decide)]; first | assumption | exact mg_up_s _ _ _ | (rw [mg_up_n _ _ (by decide)]; first | assumption | exact mg_up_s _ _ _ | (rw [mg_up_n _ _ (by decide)]; first | assumption | exact mg_up_s _ _ _ | (rw [mg_up_n _ _ (by decide)]; first | assumption | exact mg_up_s _ _ _ | (rw [mg_up_n _ _ (by decide)]; first | assumption | exact mg_up_s _ _ _))))))) hin ?_
                    refine mg_eqM (M' := mg_up (mg_up (mg_up M 1000 (moE si (stepX x) s)) 1009 (iaE 60 (upd rf cs.length (modX (stepX x) span)))) 1010 (iaE 60 (upd lm cs.length most))) (by rw [a3, nI_clampN (by omega)]) ?_
                    first | refine mg_aload_n d_Mo_draw_183 rfl rfl ?_ | refine mg_aload_nN d_Mo_draw_183 rfl rfl ?_
                    refine mg_dup d_Mo_draw_184 rfl ?_
                    refine mg_getfield fl_Mo_108 d_Mo_draw_185 (by first | assumption | exact mg_up_s _ _ _ | (rw [mg_up_n _ _ (by decide)]; first | assumption | exact mg_up_s _ _ _ | (rw [mg_up_n _ _ (by decide)]; first | assumption | exact mg_up_s _ _ _ | (rw [mg_up_n _ _ (by decide)]; first | assumption | exact mg_up_s _ _ _ | (rw [mg_up_n _ _ (by decide)]; first | assumption | exact mg_up_s _ _ _ | (rw [mg_up_n _ _ (by decide)]; first | assumption | exact mg_up_s _ _ _ | (rw [mg_up_n _ _ (by decide)]; first | assumption | exact mg_up_s _ _ _))))))) rfl ?_
                    refine mg_iconst (v := 1) d_Mo_draw_188 (by decide) ?_
                    refine mg_iadd d_Mo_draw_189 ?_
                    refine mg_putfield (fw_Mo_108 _) d_Mo_draw_190 (by first | assumption | exact mg_up_s _ _ _ | (rw [mg_up_n _ _ (by decide)]; first | assumption | exact mg_up_s _ _ _ | (rw [mg_up_n _ _ (by decide)]; first | assumption | exact mg_up_s _ _ _ | (rw [mg_up_n _ _ (by decide)]; first | assumption | exact mg_up_s _ _ _ | (rw [mg_up_n _ _ (by decide)]; first | assumption | exact mg_up_s _ _ _ | (rw [mg_up_n _ _ (by decide)]; first | assumption | exact mg_up_s _ _ _ | (rw [mg_up_n _ _ (by decide)]; first | assumption | exact mg_up_s _ _ _))))))) (Nat.le_of_ble_eq_true rfl) (fun _ => ⟨rfl, rfl⟩) ?_
                    refine mg_eqM (M' := mg_up (mg_up (mg_up (mg_up M 1000 (moE si (stepX x) s)) 1009 (iaE 60 (upd rf cs.length (modX (stepX x) span)))) 1010 (iaE 60 (upd lm cs.length most))) 1000 (moE (upd si 11 (nI (cs.length + 1))) (stepX x) s)) (by rw [a3, nI_1]; rfl) ?_
                    refine mg_iload_n d_Mo_draw_193 rfl rfl ?_
                    refine mg_ireturn d_Mo_draw_194 rfl rfl (Nat.le_of_ble_eq_true rfl) (Nat.le_of_ble_eq_true rfl) ?_
                    rw [drawF_ok (p := (modX (stepX x) span, stepX x)) (by simp only [pickF, if_true, if_neg hsp1]) (by exact modX_nn _ hsp1) (by exact Int32.not_lt.mpr c_153) hlt]
                    
                    exact drP_ok (M' := mg_up (mg_up (mg_up (mg_up M 1000 (moE si (stepX x) s)) 1009 (iaE 60 (upd rf cs.length (modX (stepX x) span)))) 1010 (iaE 60 (upd lm cs.length most))) 1000 (moE (upd si 11 (nI (cs.length + 1))) (stepX x) s)) h hrf hlt (mg_up_s _ _ _) ((mg_up_n _ _ (by decide)).trans ((mg_up_n _ _ (by decide)).trans (mg_up_s _ _ _))) ((mg_up_n _ _ (by decide)).trans (mg_up_s _ _ _)) (fun k h0 h1 h2 => (mg_up_n _ _ h0).trans ((mg_up_n _ _ h2).trans ((mg_up_n _ _ h1).trans (mg_up_n _ _ h0))))
                  · first | refine mg_aload_n d_Mo_draw_156 rfl rfl ?_ | refine mg_aload_nN d_Mo_draw_156 rfl rfl ?_
                    refine mg_iconst (v := 1) d_Mo_draw_157 (by decide) ?_
                    refine mg_putfield (fw_Mo_114 _) d_Mo_draw_158 (by first | assumption | exact mg_up_s _ _ _ | (rw [mg_up_n _ _ (by decide)]; first | assumption | exact mg_up_s _ _ _ | (rw [mg_up_n _ _ (by decide)]; first | assumption | exact mg_up_s _ _ _ | (rw [mg_up_n _ _ (by decide)]; first | assumption | exact mg_up_s _ _ _ | (rw [mg_up_n _ _ (by decide)]; first | assumption | exact mg_up_s _ _ _ | (rw [mg_up_n _ _ (by decide)]; first | assumption | exact mg_up_s _ _ _ | (rw [mg_up_n _ _ (by decide)]; first | assumption | exact mg_up_s _ _ _))))))) (Nat.le_of_ble_eq_true rfl) (fun _ => ⟨rfl, rfl⟩) ?_
                    refine mg_iconst (v := 0) d_Mo_draw_161 (by decide) ?_
                    refine mg_ireturn d_Mo_draw_162 rfl rfl (Nat.le_of_ble_eq_true rfl) (Nat.le_of_ble_eq_true rfl) ?_
                    rw [drawF_bad (p := (modX (stepX x) span, stepX x)) (by simp only [pickF, if_true, if_neg hsp1]) (Or.inr (Or.inl (Int32.not_le.mp c_153)))]
                    exact drP_bad (M' := mg_up (mg_up M 1000 (moE si (stepX x) s)) 1000 (moE (upd si 15 1) (stepX x) s)) h (mg_up_s _ _ _) (fun k hk => (mg_up_n _ _ hk).trans (mg_up_n _ _ hk))
                · exact absurd c_127 (by rw [a2]; decide)
        · exact absurd c_64 (by rw [a2]; decide)
      · exact absurd c_37 (by rw [a2]; decide)

set_option maxHeartbeats 4000000 in
set_option maxRecDepth 100000 in
theorem c_Mo_draw2 {M : mg_M} {si : Nat → Int32} {x s : Int64} {gv : List Int32} {z : Int32} {cs ns : List Int32} {lm : Nat → Int32} {most span w : Int32} (h : isRun M si x s (2, gv, z) (cs, ns, false, x, lm)) (hnn : nnL gv) : mg_Ct Y_Mo_draw { frames := 0, cells := 0, slots := 0, locals := 0 } [.ref 1000, .int most, .int w] M (drP M si s (2, gv, z) (drawF (2, gv, z) (cs, ns, false, x, lm) most span)) := by
  obtain ⟨a1, a2, a3, a4, a5, a6, a7, a8, ⟨gf, g1, g2, g3⟩, ⟨rf, r1, r2, hrf⟩, a11, a12⟩ := id h
  replace a2 : si 10 = 2 := a2
  replace a3 : si 11 = nI cs.length := a3
  replace a8 : si 20 = nI gv.length := a8
  replace r2 : cs.length ≤ 60 := r2
  replace g2 : gv.length ≤ 60 := g2
  replace g3 : ∀ j, j < gv.length → gf j = gv.getD j 0 := g3
  replace hrf : ∀ j, j < cs.length → rf j = cs.getD j 0 := hrf
  replace a11 : M 1010 = some (iaE 60 lm) := a11
  refine mg_met [some (.ref 1000), some (.int most), some (.int w), none] (by decide +kernel) rfl (Nat.le_of_ble_eq_true rfl) ?_
  intro X hR _
  first | refine mg_aload_n d_Mo_draw_0 rfl rfl ?_ | refine mg_aload_nN d_Mo_draw_0 rfl rfl ?_
  refine mg_getfield fl_Mo_97 d_Mo_draw_1 (by first | assumption | exact mg_up_s _ _ _ | (rw [mg_up_n _ _ (by decide)]; first | assumption | exact mg_up_s _ _ _ | (rw [mg_up_n _ _ (by decide)]; first | assumption | exact mg_up_s _ _ _ | (rw [mg_up_n _ _ (by decide)]; first | assumption | exact mg_up_s _ _ _ | (rw [mg_up_n _ _ (by decide)]; first | assumption | exact mg_up_s _ _ _ | (rw [mg_up_n _ _ (by decide)]; first | assumption | exact mg_up_s _ _ _ | (rw [mg_up_n _ _ (by decide)]; first | assumption | exact mg_up_s _ _ _))))))) rfl ?_
  refine mg_iconst (v := 1) d_Mo_draw_4 (by decide) ?_
  refine mg_icmp_ne (tgt := 24) d_Mo_draw_5 (by decide) (fun c_5 => ?_) (fun c_5 => ?_)
  · first | refine mg_aload_n d_Mo_draw_24 rfl rfl ?_ | refine mg_aload_nN d_Mo_draw_24 rfl rfl ?_
    refine mg_getfield fl_Mo_108 d_Mo_draw_25 (by first | assumption | exact mg_up_s _ _ _ | (rw [mg_up_n _ _ (by decide)]; first | assumption | exact mg_up_s _ _ _ | (rw [mg_up_n _ _ (by decide)]; first | assumption | exact mg_up_s _ _ _ | (rw [mg_up_n _ _ (by decide)]; first | assumption | exact mg_up_s _ _ _ | (rw [mg_up_n _ _ (by decide)]; first | assumption | exact mg_up_s _ _ _ | (rw [mg_up_n _ _ (by decide)]; first | assumption | exact mg_up_s _ _ _ | (rw [mg_up_n _ _ (by decide)]; first | assumption | exact mg_up_s _ _ _))))))) rfl ?_
    refine mg_bipush (v := 60) d_Mo_draw_28 (by decide) ?_
    refine mg_icmp_eq (tgt := 51) d_Mo_draw_30 (by decide) (fun c_30 => ?_) (fun c_30 => ?_)
    · have hc60 : cs.length = 60 := (nI_eq (by omega) (by decide)).mp (show nI cs.length = nI 60 from a3 ▸ c_30)
      first | refine mg_aload_n d_Mo_draw_51 rfl rfl ?_ | refine mg_aload_nN d_Mo_draw_51 rfl rfl ?_
      refine mg_iconst (v := 1) d_Mo_draw_52 (by decide) ?_
      refine mg_putfield (fw_Mo_114 _) d_Mo_draw_53 (by first | assumption | exact mg_up_s _ _ _ | (rw [mg_up_n _ _ (by decide)]; first | assumption | exact mg_up_s _ _ _ | (rw [mg_up_n _ _ (by decide)]; first | assumption | exact mg_up_s _ _ _ | (rw [mg_up_n _ _ (by decide)]; first | assumption | exact mg_up_s _ _ _ | (rw [mg_up_n _ _ (by decide)]; first | assumption | exact mg_up_s _ _ _ | (rw [mg_up_n _ _ (by decide)]; first | assumption | exact mg_up_s _ _ _ | (rw [mg_up_n _ _ (by decide)]; first | assumption | exact mg_up_s _ _ _))))))) (Nat.le_of_ble_eq_true rfl) (fun _ => ⟨rfl, rfl⟩) ?_
      refine mg_iconst (v := 0) d_Mo_draw_56 (by decide) ?_
      refine mg_ireturn d_Mo_draw_57 rfl rfl (Nat.le_of_ble_eq_true rfl) (Nat.le_of_ble_eq_true rfl) ?_
      rw [drawF_bad (p := (atI gv (nI cs.length) 0, x)) rfl (Or.inr (Or.inr (by omega)))]
      exact drP_bad (M' := mg_up M 1000 (moE (upd si 15 1) x s)) h (mg_up_s _ _ _) (fun k hk => mg_up_n _ _ hk)
    · have hlt : cs.length < 60 := by
        rcases Nat.lt_or_ge cs.length 60 with q | q
        · exact q
        · exact absurd (show si 11 = 60 by rw [a3, show cs.length = 60 by omega]; rfl) c_30
      have hin : vp_in (si 11) 60 := by rw [a3]; exact nIw hlt (Nat.le_refl _)
      first | refine mg_aload_n d_Mo_draw_33 rfl rfl ?_ | refine mg_aload_nN d_Mo_draw_33 rfl rfl ?_
      refine mg_getfield fl_Mo_97 d_Mo_draw_34 (by first | assumption | exact mg_up_s _ _ _ | (rw [mg_up_n _ _ (by decide)]; first | assumption | exact mg_up_s _ _ _ | (rw [mg_up_n _ _ (by decide)]; first | assumption | exact mg_up_s _ _ _ | (rw [mg_up_n _ _ (by decide)]; first | assumption | exact mg_up_s _ _ _ | (rw [mg_up_n _ _ (by decide)]; first | assumption | exact mg_up_s _ _ _ | (rw [mg_up_n _ _ (by decide)]; first | assumption | exact mg_up_s _ _ _ | (rw [mg_up_n _ _ (by decide)]; first | assumption | exact mg_up_s _ _ _))))))) rfl ?_
      refine mg_if_ne (tgt := 58) d_Mo_draw_37 (by decide) (fun c_37 => ?_) (fun c_37 => ?_)
      · refine mg_iconst (v := 0) d_Mo_draw_58 (by decide) ?_
        refine mg_istore_n d_Mo_draw_59 rfl (Nat.le_of_ble_eq_true rfl) rfl ?_
        first | refine mg_aload_n d_Mo_draw_60 rfl rfl ?_ | refine mg_aload_nN d_Mo_draw_60 rfl rfl ?_
        refine mg_getfield fl_Mo_97 d_Mo_draw_61 (by first | assumption | exact mg_up_s _ _ _ | (rw [mg_up_n _ _ (by decide)]; first | assumption | exact mg_up_s _ _ _ | (rw [mg_up_n _ _ (by decide)]; first | assumption | exact mg_up_s _ _ _ | (rw [mg_up_n _ _ (by decide)]; first | assumption | exact mg_up_s _ _ _ | (rw [mg_up_n _ _ (by decide)]; first | assumption | exact mg_up_s _ _ _ | (rw [mg_up_n _ _ (by decide)]; first | assumption | exact mg_up_s _ _ _ | (rw [mg_up_n _ _ (by decide)]; first | assumption | exact mg_up_s _ _ _))))))) rfl ?_
        refine mg_if_ne (tgt := 77) d_Mo_draw_64 (by decide) (fun c_64 => ?_) (fun c_64 => ?_)
        · first | refine mg_aload_n d_Mo_draw_77 rfl rfl ?_ | refine mg_aload_nN d_Mo_draw_77 rfl rfl ?_
          refine mg_getfield fl_Mo_97 d_Mo_draw_78 (by first | assumption | exact mg_up_s _ _ _ | (rw [mg_up_n _ _ (by decide)]; first | assumption | exact mg_up_s _ _ _ | (rw [mg_up_n _ _ (by decide)]; first | assumption | exact mg_up_s _ _ _ | (rw [mg_up_n _ _ (by decide)]; first | assumption | exact mg_up_s _ _ _ | (rw [mg_up_n _ _ (by decide)]; first | assumption | exact mg_up_s _ _ _ | (rw [mg_up_n _ _ (by decide)]; first | assumption | exact mg_up_s _ _ _ | (rw [mg_up_n _ _ (by decide)]; first | assumption | exact mg_up_s _ _ _))))))) rfl ?_
          refine mg_iconst (v := 1) d_Mo_draw_81 (by decide) ?_
          refine mg_icmp_ne (tgt := 122) d_Mo_draw_82 (by decide) (fun c_82 => ?_) (fun c_82 => ?_)
          · first | refine mg_aload_n d_Mo_draw_122 rfl rfl ?_ | refine mg_aload_nN d_Mo_draw_122 rfl rfl ?_
            refine mg_getfield fl_Mo_97 d_Mo_draw_123 (by first | assumption | exact mg_up_s _ _ _ | (rw [mg_up_n _ _ (by decide)]; first | assumption | exact mg_up_s _ _ _ | (rw [mg_up_n _ _ (by decide)]; first | assumption | exact mg_up_s _ _ _ | (rw [mg_up_n _ _ (by decide)]; first | assumption | exact mg_up_s _ _ _ | (rw [mg_up_n _ _ (by decide)]; first | assumption | exact mg_up_s _ _ _ | (rw [mg_up_n _ _ (by decide)]; first | assumption | exact mg_up_s _ _ _ | (rw [mg_up_n _ _ (by decide)]; first | assumption | exact mg_up_s _ _ _))))))) rfl ?_
            refine mg_iconst (v := 2) d_Mo_draw_126 (by decide) ?_
            refine mg_icmp_ne (tgt := 151) d_Mo_draw_127 (by decide) (fun c_127 => ?_) (fun c_127 => ?_)
            · exact absurd (by rw [a2]) c_127
            · first | refine mg_aload_n d_Mo_draw_130 rfl rfl ?_ | refine mg_aload_nN d_Mo_draw_130 rfl rfl ?_
              refine mg_getfield fl_Mo_108 d_Mo_draw_131 (by first | assumption | exact mg_up_s _ _ _ | (rw [mg_up_n _ _ (by decide)]; first | assumption | exact mg_up_s _ _ _ | (rw [mg_up_n _ _ (by decide)]; first | assumption | exact mg_up_s _ _ _ | (rw [mg_up_n _ _ (by decide)]; first | assumption | exact mg_up_s _ _ _ | (rw [mg_up_n _ _ (by decide)]; first | assumption | exact mg_up_s _ _ _ | (rw [mg_up_n _ _ (by decide)]; first | assumption | exact mg_up_s _ _ _ | (rw [mg_up_n _ _ (by decide)]; first | assumption | exact mg_up_s _ _ _))))))) rfl ?_
              first | refine mg_aload_n d_Mo_draw_134 rfl rfl ?_ | refine mg_aload_nN d_Mo_draw_134 rfl rfl ?_
              refine mg_getfield fl_Mo_111 d_Mo_draw_135 (by first | assumption | exact mg_up_s _ _ _ | (rw [mg_up_n _ _ (by decide)]; first | assumption | exact mg_up_s _ _ _ | (rw [mg_up_n _ _ (by decide)]; first | assumption | exact mg_up_s _ _ _ | (rw [mg_up_n _ _ (by decide)]; first | assumption | exact mg_up_s _ _ _ | (rw [mg_up_n _ _ (by decide)]; first | assumption | exact mg_up_s _ _ _ | (rw [mg_up_n _ _ (by decide)]; first | assumption | exact mg_up_s _ _ _ | (rw [mg_up_n _ _ (by decide)]; first | assumption | exact mg_up_s _ _ _))))))) rfl ?_
              refine mg_icmp_ge (tgt := 151) d_Mo_draw_138 (by decide) (fun c_138 => ?_) (fun c_138 => ?_)
              · have hgl : gv.length ≤ cs.length := by
                  rw [a3, a8] at c_138
                  exact (nI_leI (by omega) (by omega)).mp c_138
                obtain ⟨cc, hat⟩ : ∃ cc, cc = atI gv (nI cs.length) 0 := ⟨_, rfl⟩
                have hc0 : cc = 0 := by rw [hat, atI_ge (nI_le hgl (by omega))]
                have hcn : ¬ cc < 0 := by rw [hc0]; decide
                refine mg_eql (lv' := [some (.ref 1000), some (.int most), some (.int w), some (.int cc)]) (by rw [hc0]; rfl) ?_
                refine mg_iload_n d_Mo_draw_151 rfl rfl ?_
                refine mg_iload_n d_Mo_draw_152 rfl rfl ?_
                refine mg_icmp_le (tgt := 163) d_Mo_draw_153 (by decide) (fun c_153 => ?_) (fun c_153 => ?_)
                · first | refine mg_aload_n d_Mo_draw_163 rfl rfl ?_ | refine mg_aload_nN d_Mo_draw_163 rfl rfl ?_
                  refine mg_getfield fl_Mo_34 d_Mo_draw_164 (by first | assumption | exact mg_up_s _ _ _ | (rw [mg_up_n _ _ (by decide)]; first | assumption | exact mg_up_s _ _ _ | (rw [mg_up_n _ _ (by decide)]; first | assumption | exact mg_up_s _ _ _ | (rw [mg_up_n _ _ (by decide)]; first | assumption | exact mg_up_s _ _ _ | (rw [mg_up_n _ _ (by decide)]; first | assumption | exact mg_up_s _ _ _ | (rw [mg_up_n _ _ (by decide)]; first | assumption | exact mg_up_s _ _ _ | (rw [mg_up_n _ _ (by decide)]; first | assumption | exact mg_up_s _ _ _))))))) rfl ?_
                  first | refine mg_aload_n d_Mo_draw_167 rfl rfl ?_ | refine mg_aload_nN d_Mo_draw_167 rfl rfl ?_
                  refine mg_getfield fl_Mo_108 d_Mo_draw_168 (by first | assumption | exact mg_up_s _ _ _ | (rw [mg_up_n _ _ (by decide)]; first | assumption | exact mg_up_s _ _ _ | (rw [mg_up_n _ _ (by decide)]; first | assumption | exact mg_up_s _ _ _ | (rw [mg_up_n _ _ (by decide)]; first | assumption | exact mg_up_s _ _ _ | (rw [mg_up_n _ _ (by decide)]; first | assumption | exact mg_up_s _ _ _ | (rw [mg_up_n _ _ (by decide)]; first | assumption | exact mg_up_s _ _ _ | (rw [mg_up_n _ _ (by decide)]; first | assumption | exact mg_up_s _ _ _))))))) rfl ?_
                  refine mg_iload_n d_Mo_draw_171 rfl rfl ?_
                  refine mg_iastore rfl d_Mo_draw_172 (by first | assumption | exact mg_up_s _ _ _ | (rw [mg_up_n _ _ (by decide)]; first | assumption | exact mg_up_s _ _ _ | (rw [mg_up_n _ _ (by decide)]; first | assumption | exact mg_up_s _ _ _ | (rw [mg_up_n _ _ (by decide)]; first | assumption | exact mg_up_s _ _ _ | (rw [mg_up_n _ _ (by decide)]; first | assumption | exact mg_up_s _ _ _ | (rw [mg_up_n _ _ (by decide)]; first | assumption | exact mg_up_s _ _ _ | (rw [mg_up_n _ _ (by decide)]; first | assumption | exact mg_up_s _ _ _))))))) hin ?_
                  refine mg_eqM (M' := mg_up M 1009 (iaE 60 (upd rf cs.length cc))) (by rw [a3, nI_clampN (by omega)]) ?_
                  first | refine mg_aload_n d_Mo_draw_173 rfl rfl ?_ | refine mg_aload_nN d_Mo_draw_173 rfl rfl ?_
                  refine mg_getfield fl_Mo_37 d_Mo_draw_174 (by first | assumption | exact mg_up_s _ _ _ | (rw [mg_up_n _ _ (by decide)]; first | assumption | exact mg_up_s _ _ _ | (rw [mg_up_n _ _ (by decide)]; first | assumption | exact mg_up_s _ _ _ | (rw [mg_up_n _ _ (by decide)]; first | assumption | exact mg_up_s _ _ _ | (rw [mg_up_n _ _ (by decide)]; first | assumption | exact mg_up_s _ _ _ | (rw [mg_up_n _ _ (by decide)]; first | assumption | exact mg_up_s _ _ _ | (rw [mg_up_n _ _ (by decide)]; first | assumption | exact mg_up_s _ _ _))))))) rfl ?_
                  first | refine mg_aload_n d_Mo_draw_177 rfl rfl ?_ | refine mg_aload_nN d_Mo_draw_177 rfl rfl ?_
                  refine mg_getfield fl_Mo_108 d_Mo_draw_178 (by first | assumption | exact mg_up_s _ _ _ | (rw [mg_up_n _ _ (by decide)]; first | assumption | exact mg_up_s _ _ _ | (rw [mg_up_n _ _ (by decide)]; first | assumption | exact mg_up_s _ _ _ | (rw [mg_up_n _ _ (by decide)]; first | assumption | exact mg_up_s _ _ _ | (rw [mg_up_n _ _ (by decide)]; first | assumption | exact mg_up_s _ _ _ | (rw [mg_up_n _ _ (by decide)]; first | assumption | exact mg_up_s _ _ _ | (rw [mg_up_n _ _ (by decide)]; first | assumption | exact mg_up_s _ _ _))))))) rfl ?_
                  refine mg_iload_n d_Mo_draw_181 rfl rfl ?_
                  refine mg_iastore rfl d_Mo_draw_182 (by first | assumption | exact mg_up_s _ _ _ | (rw [mg_up_n _ _ (by decide)]; first | assumption | exact mg_up_s _ _ _ | (rw [mg_up_n _ _ (by decide)]; first | assumption | exact mg_up_s _ _ _ | (rw [mg_up_n _ _ (by decide)]; first | assumption | exact mg_up_s _ _ _ | (rw [mg_up_n _ _ (by decide)]; first | assumption | exact mg_up_s _ _ _ | (rw [mg_up_n _ _ (by decide)]; first | assumption | exact mg_up_s _ _ _ | (rw [mg_up_n _ _ (by decide)]; first | assumption | exact mg_up_s _ _ _))))))) hin ?_
                  refine mg_eqM (M' := mg_up (mg_up M 1009 (iaE 60 (upd rf cs.length cc))) 1010 (iaE 60 (upd lm cs.length most))) (by rw [a3, nI_clampN (by omega)]) ?_
                  first | refine mg_aload_n d_Mo_draw_183 rfl rfl ?_ | refine mg_aload_nN d_Mo_draw_183 rfl rfl ?_
                  refine mg_dup d_Mo_draw_184 rfl ?_
                  refine mg_getfield fl_Mo_108 d_Mo_draw_185 (by first | assumption | exact mg_up_s _ _ _ | (rw [mg_up_n _ _ (by decide)]; first | assumption | exact mg_up_s _ _ _ | (rw [mg_up_n _ _ (by decide)]; first | assumption | exact mg_up_s _ _ _ | (rw [mg_up_n _ _ (by decide)]; first | assumption | exact mg_up_s _ _ _ | (rw [mg_up_n _ _ (by decide)]; first | assumption | exact mg_up_s _ _ _ | (rw [mg_up_n _ _ (by decide)]; first | assumption | exact mg_up_s _ _ _ | (rw [mg_up_n _ _ (by decide)]; first | assumption | exact mg_up_s _ _ _))))))) rfl ?_
                  refine mg_iconst (v := 1) d_Mo_draw_188 (by decide) ?_
                  refine mg_iadd d_Mo_draw_189 ?_
                  refine mg_putfield (fw_Mo_108 _) d_Mo_draw_190 (by first | assumption | exact mg_up_s _ _ _ | (rw [mg_up_n _ _ (by decide)]; first | assumption | exact mg_up_s _ _ _ | (rw [mg_up_n _ _ (by decide)]; first | assumption | exact mg_up_s _ _ _ | (rw [mg_up_n _ _ (by decide)]; first | assumption | exact mg_up_s _ _ _ | (rw [mg_up_n _ _ (by decide)]; first | assumption | exact mg_up_s _ _ _ | (rw [mg_up_n _ _ (by decide)]; first | assumption | exact mg_up_s _ _ _ | (rw [mg_up_n _ _ (by decide)]; first | assumption | exact mg_up_s _ _ _))))))) (Nat.le_of_ble_eq_true rfl) (fun _ => ⟨rfl, rfl⟩) ?_
                  refine mg_eqM (M' := mg_up (mg_up (mg_up M 1009 (iaE 60 (upd rf cs.length cc))) 1010 (iaE 60 (upd lm cs.length most))) 1000 (moE (upd si 11 (nI (cs.length + 1))) x s)) (by rw [a3, nI_1]; rfl) ?_
                  refine mg_iload_n d_Mo_draw_193 rfl rfl ?_
                  refine mg_ireturn d_Mo_draw_194 rfl rfl (Nat.le_of_ble_eq_true rfl) (Nat.le_of_ble_eq_true rfl) ?_
                  rw [drawF_ok (p := (atI gv (nI cs.length) 0, x)) rfl (by show ¬ atI gv (nI cs.length) 0 < 0; rw [← hat]; exact hcn) (by show ¬ most < atI gv (nI cs.length) 0; rw [← hat]; exact Int32.not_lt.mpr c_153) hlt]
                  simp only [← hat]
                  exact drP_ok (M' := mg_up (mg_up (mg_up M 1009 (iaE 60 (upd rf cs.length cc))) 1010 (iaE 60 (upd lm cs.length most))) 1000 (moE (upd si 11 (nI (cs.length + 1))) x s)) h hrf hlt (mg_up_s _ _ _) ((mg_up_n _ _ (by decide)).trans ((mg_up_n _ _ (by decide)).trans (mg_up_s _ _ _))) ((mg_up_n _ _ (by decide)).trans (mg_up_s _ _ _)) (fun k h0 h1 h2 => (mg_up_n _ _ h0).trans ((mg_up_n _ _ h2).trans (mg_up_n _ _ h1)))
                · first | refine mg_aload_n d_Mo_draw_156 rfl rfl ?_ | refine mg_aload_nN d_Mo_draw_156 rfl rfl ?_
                  refine mg_iconst (v := 1) d_Mo_draw_157 (by decide) ?_
                  refine mg_putfield (fw_Mo_114 _) d_Mo_draw_158 (by first | assumption | exact mg_up_s _ _ _ | (rw [mg_up_n _ _ (by decide)]; first | assumption | exact mg_up_s _ _ _ | (rw [mg_up_n _ _ (by decide)]; first | assumption | exact mg_up_s _ _ _ | (rw [mg_up_n _ _ (by decide)]; first | assumption | exact mg_up_s _ _ _ | (rw [mg_up_n _ _ (by decide)]; first | assumption | exact mg_up_s _ _ _ | (rw [mg_up_n _ _ (by decide)]; first | assumption | exact mg_up_s _ _ _ | (rw [mg_up_n _ _ (by decide)]; first | assumption | exact mg_up_s _ _ _))))))) (Nat.le_of_ble_eq_true rfl) (fun _ => ⟨rfl, rfl⟩) ?_
                  refine mg_iconst (v := 0) d_Mo_draw_161 (by decide) ?_
                  refine mg_ireturn d_Mo_draw_162 rfl rfl (Nat.le_of_ble_eq_true rfl) (Nat.le_of_ble_eq_true rfl) ?_
                  rw [drawF_bad (p := (atI gv (nI cs.length) 0, x)) rfl (Or.inr (Or.inl (by show most < atI gv (nI cs.length) 0; rw [← hat]; exact Int32.not_le.mp c_153)))]
                  exact drP_bad (M' := mg_up M 1000 (moE (upd si 15 1) x s)) h (mg_up_s _ _ _) (fun k hk => mg_up_n _ _ hk)
              · have hgl : cs.length < gv.length := by
                  rw [a3, a8] at c_138
                  exact Nat.lt_of_not_le (fun q => c_138 (nI_le q (by omega)))
                obtain ⟨cc, hat⟩ : ∃ cc, cc = atI gv (nI cs.length) 0 := ⟨_, rfl⟩
                have hcn : ¬ cc < 0 := by rw [hat, atI_in g2 hgl]; exact hnn.at _
                first | refine mg_aload_n d_Mo_draw_141 rfl rfl ?_ | refine mg_aload_nN d_Mo_draw_141 rfl rfl ?_
                refine mg_getfield fl_Mo_31 d_Mo_draw_142 (by first | assumption | exact mg_up_s _ _ _ | (rw [mg_up_n _ _ (by decide)]; first | assumption | exact mg_up_s _ _ _ | (rw [mg_up_n _ _ (by decide)]; first | assumption | exact mg_up_s _ _ _ | (rw [mg_up_n _ _ (by decide)]; first | assumption | exact mg_up_s _ _ _ | (rw [mg_up_n _ _ (by decide)]; first | assumption | exact mg_up_s _ _ _ | (rw [mg_up_n _ _ (by decide)]; first | assumption | exact mg_up_s _ _ _ | (rw [mg_up_n _ _ (by decide)]; first | assumption | exact mg_up_s _ _ _))))))) rfl ?_
                first | refine mg_aload_n d_Mo_draw_145 rfl rfl ?_ | refine mg_aload_nN d_Mo_draw_145 rfl rfl ?_
                refine mg_getfield fl_Mo_108 d_Mo_draw_146 (by first | assumption | exact mg_up_s _ _ _ | (rw [mg_up_n _ _ (by decide)]; first | assumption | exact mg_up_s _ _ _ | (rw [mg_up_n _ _ (by decide)]; first | assumption | exact mg_up_s _ _ _ | (rw [mg_up_n _ _ (by decide)]; first | assumption | exact mg_up_s _ _ _ | (rw [mg_up_n _ _ (by decide)]; first | assumption | exact mg_up_s _ _ _ | (rw [mg_up_n _ _ (by decide)]; first | assumption | exact mg_up_s _ _ _ | (rw [mg_up_n _ _ (by decide)]; first | assumption | exact mg_up_s _ _ _))))))) rfl ?_
                refine mg_iaload rfl d_Mo_draw_149 (by first | assumption | exact mg_up_s _ _ _ | (rw [mg_up_n _ _ (by decide)]; first | assumption | exact mg_up_s _ _ _ | (rw [mg_up_n _ _ (by decide)]; first | assumption | exact mg_up_s _ _ _ | (rw [mg_up_n _ _ (by decide)]; first | assumption | exact mg_up_s _ _ _ | (rw [mg_up_n _ _ (by decide)]; first | assumption | exact mg_up_s _ _ _ | (rw [mg_up_n _ _ (by decide)]; first | assumption | exact mg_up_s _ _ _ | (rw [mg_up_n _ _ (by decide)]; first | assumption | exact mg_up_s _ _ _))))))) (by assumption) ?_
                refine mg_eqi (y := cc) (by rw [hat, atI_in g2 hgl, a3, nI_clampN (by omega)]; exact g3 _ hgl) ?_
                refine mg_istore_n d_Mo_draw_150 rfl (Nat.le_of_ble_eq_true rfl) rfl ?_
                refine mg_iload_n d_Mo_draw_151 rfl rfl ?_
                refine mg_iload_n d_Mo_draw_152 rfl rfl ?_
                refine mg_icmp_le (tgt := 163) d_Mo_draw_153 (by decide) (fun c_153 => ?_) (fun c_153 => ?_)
                · first | refine mg_aload_n d_Mo_draw_163 rfl rfl ?_ | refine mg_aload_nN d_Mo_draw_163 rfl rfl ?_
                  refine mg_getfield fl_Mo_34 d_Mo_draw_164 (by first | assumption | exact mg_up_s _ _ _ | (rw [mg_up_n _ _ (by decide)]; first | assumption | exact mg_up_s _ _ _ | (rw [mg_up_n _ _ (by decide)]; first | assumption | exact mg_up_s _ _ _ | (rw [mg_up_n _ _ (by decide)]; first | assumption | exact mg_up_s _ _ _ | (rw [mg_up_n _ _ (by decide)]; first | assumption | exact mg_up_s _ _ _ | (rw [mg_up_n _ _ (by decide)]; first | assumption | exact mg_up_s _ _ _ | (rw [mg_up_n _ _ (by decide)]; first | assumption | exact mg_up_s _ _ _))))))) rfl ?_
                  first | refine mg_aload_n d_Mo_draw_167 rfl rfl ?_ | refine mg_aload_nN d_Mo_draw_167 rfl rfl ?_
                  refine mg_getfield fl_Mo_108 d_Mo_draw_168 (by first | assumption | exact mg_up_s _ _ _ | (rw [mg_up_n _ _ (by decide)]; first | assumption | exact mg_up_s _ _ _ | (rw [mg_up_n _ _ (by decide)]; first | assumption | exact mg_up_s _ _ _ | (rw [mg_up_n _ _ (by decide)]; first | assumption | exact mg_up_s _ _ _ | (rw [mg_up_n _ _ (by decide)]; first | assumption | exact mg_up_s _ _ _ | (rw [mg_up_n _ _ (by decide)]; first | assumption | exact mg_up_s _ _ _ | (rw [mg_up_n _ _ (by decide)]; first | assumption | exact mg_up_s _ _ _))))))) rfl ?_
                  refine mg_iload_n d_Mo_draw_171 rfl rfl ?_
                  refine mg_iastore rfl d_Mo_draw_172 (by first | assumption | exact mg_up_s _ _ _ | (rw [mg_up_n _ _ (by decide)]; first | assumption | exact mg_up_s _ _ _ | (rw [mg_up_n _ _ (by decide)]; first | assumption | exact mg_up_s _ _ _ | (rw [mg_up_n _ _ (by decide)]; first | assumption | exact mg_up_s _ _ _ | (rw [mg_up_n _ _ (by decide)]; first | assumption | exact mg_up_s _ _ _ | (rw [mg_up_n _ _ (by decide)]; first | assumption | exact mg_up_s _ _ _ | (rw [mg_up_n _ _ (by decide)]; first | assumption | exact mg_up_s _ _ _))))))) hin ?_
                  refine mg_eqM (M' := mg_up M 1009 (iaE 60 (upd rf cs.length cc))) (by rw [a3, nI_clampN (by omega)]) ?_
                  first | refine mg_aload_n d_Mo_draw_173 rfl rfl ?_ | refine mg_aload_nN d_Mo_draw_173 rfl rfl ?_
                  refine mg_getfield fl_Mo_37 d_Mo_draw_174 (by first | assumption | exact mg_up_s _ _ _ | (rw [mg_up_n _ _ (by decide)]; first | assumption | exact mg_up_s _ _ _ | (rw [mg_up_n _ _ (by decide)]; first | assumption | exact mg_up_s _ _ _ | (rw [mg_up_n _ _ (by decide)]; first | assumption | exact mg_up_s _ _ _ | (rw [mg_up_n _ _ (by decide)]; first | assumption | exact mg_up_s _ _ _ | (rw [mg_up_n _ _ (by decide)]; first | assumption | exact mg_up_s _ _ _ | (rw [mg_up_n _ _ (by decide)]; first | assumption | exact mg_up_s _ _ _))))))) rfl ?_
                  first | refine mg_aload_n d_Mo_draw_177 rfl rfl ?_ | refine mg_aload_nN d_Mo_draw_177 rfl rfl ?_
                  refine mg_getfield fl_Mo_108 d_Mo_draw_178 (by first | assumption | exact mg_up_s _ _ _ | (rw [mg_up_n _ _ (by decide)]; first | assumption | exact mg_up_s _ _ _ | (rw [mg_up_n _ _ (by decide)]; first | assumption | exact mg_up_s _ _ _ | (rw [mg_up_n _ _ (by decide)]; first | assumption | exact mg_up_s _ _ _ | (rw [mg_up_n _ _ (by decide)]; first | assumption | exact mg_up_s _ _ _ | (rw [mg_up_n _ _ (by decide)]; first | assumption | exact mg_up_s _ _ _ | (rw [mg_up_n _ _ (by decide)]; first | assumption | exact mg_up_s _ _ _))))))) rfl ?_
                  refine mg_iload_n d_Mo_draw_181 rfl rfl ?_
                  refine mg_iastore rfl d_Mo_draw_182 (by first | assumption | exact mg_up_s _ _ _ | (rw [mg_up_n _ _ (by decide)]; first | assumption | exact mg_up_s _ _ _ | (rw [mg_up_n _ _ (by decide)]; first | assumption | exact mg_up_s _ _ _ | (rw [mg_up_n _ _ (by decide)]; first | assumption | exact mg_up_s _ _ _ | (rw [mg_up_n _ _ (by decide)]; first | assumption | exact mg_up_s _ _ _ | (rw [mg_up_n _ _ (by decide)]; first | assumption | exact mg_up_s _ _ _ | (rw [mg_up_n _ _ (by decide)]; first | assumption | exact mg_up_s _ _ _))))))) hin ?_
                  refine mg_eqM (M' := mg_up (mg_up M 1009 (iaE 60 (upd rf cs.length cc))) 1010 (iaE 60 (upd lm cs.length most))) (by rw [a3, nI_clampN (by omega)]) ?_
                  first | refine mg_aload_n d_Mo_draw_183 rfl rfl ?_ | refine mg_aload_nN d_Mo_draw_183 rfl rfl ?_
                  refine mg_dup d_Mo_draw_184 rfl ?_
                  refine mg_getfield fl_Mo_108 d_Mo_draw_185 (by first | assumption | exact mg_up_s _ _ _ | (rw [mg_up_n _ _ (by decide)]; first | assumption | exact mg_up_s _ _ _ | (rw [mg_up_n _ _ (by decide)]; first | assumption | exact mg_up_s _ _ _ | (rw [mg_up_n _ _ (by decide)]; first | assumption | exact mg_up_s _ _ _ | (rw [mg_up_n _ _ (by decide)]; first | assumption | exact mg_up_s _ _ _ | (rw [mg_up_n _ _ (by decide)]; first | assumption | exact mg_up_s _ _ _ | (rw [mg_up_n _ _ (by decide)]; first | assumption | exact mg_up_s _ _ _))))))) rfl ?_
                  refine mg_iconst (v := 1) d_Mo_draw_188 (by decide) ?_
                  refine mg_iadd d_Mo_draw_189 ?_
                  refine mg_putfield (fw_Mo_108 _) d_Mo_draw_190 (by first | assumption | exact mg_up_s _ _ _ | (rw [mg_up_n _ _ (by decide)]; first | assumption | exact mg_up_s _ _ _ | (rw [mg_up_n _ _ (by decide)]; first | assumption | exact mg_up_s _ _ _ | (rw [mg_up_n _ _ (by decide)]; first | assumption | exact mg_up_s _ _ _ | (rw [mg_up_n _ _ (by decide)]; first | assumption | exact mg_up_s _ _ _ | (rw [mg_up_n _ _ (by decide)]; first | assumption | exact mg_up_s _ _ _ | (rw [mg_up_n _ _ (by decide)]; first | assumption | exact mg_up_s _ _ _))))))) (Nat.le_of_ble_eq_true rfl) (fun _ => ⟨rfl, rfl⟩) ?_
                  refine mg_eqM (M' := mg_up (mg_up (mg_up M 1009 (iaE 60 (upd rf cs.length cc))) 1010 (iaE 60 (upd lm cs.length most))) 1000 (moE (upd si 11 (nI (cs.length + 1))) x s)) (by rw [a3, nI_1]; rfl) ?_
                  refine mg_iload_n d_Mo_draw_193 rfl rfl ?_
                  refine mg_ireturn d_Mo_draw_194 rfl rfl (Nat.le_of_ble_eq_true rfl) (Nat.le_of_ble_eq_true rfl) ?_
                  rw [drawF_ok (p := (atI gv (nI cs.length) 0, x)) rfl (by show ¬ atI gv (nI cs.length) 0 < 0; rw [← hat]; exact hcn) (by show ¬ most < atI gv (nI cs.length) 0; rw [← hat]; exact Int32.not_lt.mpr c_153) hlt]
                  simp only [← hat]
                  exact drP_ok (M' := mg_up (mg_up (mg_up M 1009 (iaE 60 (upd rf cs.length cc))) 1010 (iaE 60 (upd lm cs.length most))) 1000 (moE (upd si 11 (nI (cs.length + 1))) x s)) h hrf hlt (mg_up_s _ _ _) ((mg_up_n _ _ (by decide)).trans ((mg_up_n _ _ (by decide)).trans (mg_up_s _ _ _))) ((mg_up_n _ _ (by decide)).trans (mg_up_s _ _ _)) (fun k h0 h1 h2 => (mg_up_n _ _ h0).trans ((mg_up_n _ _ h2).trans (mg_up_n _ _ h1)))
                · first | refine mg_aload_n d_Mo_draw_156 rfl rfl ?_ | refine mg_aload_nN d_Mo_draw_156 rfl rfl ?_
                  refine mg_iconst (v := 1) d_Mo_draw_157 (by decide) ?_
                  refine mg_putfield (fw_Mo_114 _) d_Mo_draw_158 (by first | assumption | exact mg_up_s _ _ _ | (rw [mg_up_n _ _ (by decide)]; first | assumption | exact mg_up_s _ _ _ | (rw [mg_up_n _ _ (by decide)]; first | assumption | exact mg_up_s _ _ _ | (rw [mg_up_n _ _ (by decide)]; first | assumption | exact mg_up_s _ _ _ | (rw [mg_up_n _ _ (by decide)]; first | assumption | exact mg_up_s _ _ _ | (rw [mg_up_n _ _ (by decide)]; first | assumption | exact mg_up_s _ _ _ | (rw [mg_up_n _ _ (by decide)]; first | assumption | exact mg_up_s _ _ _))))))) (Nat.le_of_ble_eq_true rfl) (fun _ => ⟨rfl, rfl⟩) ?_
                  refine mg_iconst (v := 0) d_Mo_draw_161 (by decide) ?_
                  refine mg_ireturn d_Mo_draw_162 rfl rfl (Nat.le_of_ble_eq_true rfl) (Nat.le_of_ble_eq_true rfl) ?_
                  rw [drawF_bad (p := (atI gv (nI cs.length) 0, x)) rfl (Or.inr (Or.inl (by show most < atI gv (nI cs.length) 0; rw [← hat]; exact Int32.not_le.mp c_153)))]
                  exact drP_bad (M' := mg_up M 1000 (moE (upd si 15 1) x s)) h (mg_up_s _ _ _) (fun k hk => mg_up_n _ _ hk)
          · exact absurd c_82 (by rw [a2]; decide)
        · exact absurd c_64 (by rw [a2]; decide)
      · exact absurd c_37 (by rw [a2]; decide)
  · exact absurd c_5 (by rw [a2]; decide)

/-- what the sources must keep -/
def okM (md : dM) : Prop := (md.1 = 0 ∨ md.1 = 1 ∨ md.1 = 2) ∧ (md.1 ≠ 1 → nnL md.2.1) ∧ (md.1 = 1 → ¬ md.2.2 < 0 ∧ md.2.2 < 1000)
def okS (md : dM) (σ : dS) : Prop := md.1 = 0 → σ.1.length ≤ md.2.1.length
theorem c_Mo_draw {M : mg_M} {si : Nat → Int32} {s : Int64} {md : dM} {σ : dS} {most span w : Int32} (h : isRun M si σ.2.2.2.1 s md σ) (hil : σ.2.2.1 = false) (hm : okM md) (hσ : okS md σ) (hsp : span = if w = 0 then most + 1 else spanF md.2.2 most) (hsp1 : md.1 = 1 → ¬ span < 1) : mg_Ct Y_Mo_draw { frames := 0, cells := 0, slots := 0, locals := 0 } [.ref 1000, .int most, .int w] M (drP M si s md (drawF md σ most span)) := by
  obtain ⟨how, gv, z⟩ := md
  obtain ⟨cs, ns, il, x, lm⟩ := σ
  have e : il = false := hil
  subst e
  rcases hm.1 with q | q | q
  · have q2 : how = 0 := q
    subst q2
    exact c_Mo_draw0 h (hm.2.1 (show (0 : Int32) ≠ 1 by decide)) (hσ rfl)
  · have q2 : how = 1 := q
    subst q2
    exact c_Mo_draw1 h hsp (hsp1 rfl)
  · have q2 : how = 2 := q
    subst q2
    exact c_Mo_draw2 h (hm.2.1 (show (2 : Int32) ≠ 1 by decide))

