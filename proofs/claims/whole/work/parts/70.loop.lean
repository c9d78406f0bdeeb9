/-! THE LAW'S CASES AND ITS LOOP: made by a program out of the decode rows -/
theorem lp_in {L t : Nat} (hL : L ≤ 3072) (ht : 6 * t + 6 ≤ L) (c : Nat) (hc : c < 6) : vp_in (nI (6 * t) + nI c) L := by
  rw [nI_add]; exact vp_in_nI (by omega) (by omega)
theorem lp_sub {a L : Nat} (hL : L ≤ 3072) (ha : a ≤ L) (h : ¬ nI L - nI 6 < nI a) : a + 6 ≤ L := by
  rw [Int32.lt_iff_toInt_lt, Int32.toInt_sub, nI_toInt (by omega), nI_toInt (by omega), nI_toInt (by omega), Int.bmod_eq_of_le (by omega) (by omega)] at h
  omega
theorem lp_cmp {x : Int64} : lg_cmp x x = 0 := by
  unfold lg_cmp
  simp
theorem KL_La : Cond.constantLong "PropertyShrinkLaw" 22 4294967295 ∈ mg_GT := mg_in 815 (by decide +kernel) (by decide +kernel)
set_option maxHeartbeats 4000000 in
set_option maxRecDepth 100000 in
theorem law_c0 {X : mg_X} {L : Nat} {xs : Nat → Int32} {t k j : Nat} {M : mg_M} {q : stT} (hSc : mg_Sc X L xs) (hL : L ≤ 3072) (ht : 6 * t + 6 ≤ L) (hk : k ≤ 100 + 3 * t) (hj : j ≤ 20000 + 66 * t) (hP : pP M q) (hM : pM M q) (hI : pI q) (next : ∀ (M' : mg_M) (q' : stT) (k' j' : Nat), k' ≤ k + 3 → j' ≤ j + 66 → pP M' q' → pM M' q' → pI q' → mg_G X Y_La_law (mg_QL X) M' k' j' 473 [some (.ref 0), some (.ref 1), some (.ref 1000), some (.int (nI (6 * t)))] []) : mg_G X Y_La_law (mg_QL X) M k j 96 [some (.ref 0), some (.ref 1), some (.ref 1000), some (.int (nI (6 * t)))] [] := by
  obtain ⟨gs, ps, ks, wa, fo, le, row, nu, pu, s⟩ := q
  obtain ⟨a, q', ⟨r, rfl⟩, hI', ca, cb⟩ := duo_generator (wa := wa) (le := le) (nu := nu) (s := s) (kd := (xs (nI (6 * t) + nI 1).toNatClampNeg)) (a := (xs (nI (6 * t) + nI 2).toNatClampNeg)) (b := (xs (nI (6 * t) + nI 3).toNatClampNeg)) (show Inv gs ps ks fo row pu from hI)
  refine mg_aload_n d_La_law_96 rfl rfl ?_
  refine mg_aload_n d_La_law_97 rfl rfl ?_
  refine mg_iload_n d_La_law_98 rfl rfl ?_
  refine mg_iconst (v := nI 1) d_La_law_99 (by decide) ?_
  refine mg_iadd d_La_law_100 ?_
  refine mg_sld hSc d_La_law_101 (lp_in hL ht 1 (by decide)) ?_
  refine mg_aload_n d_La_law_102 rfl rfl ?_
  refine mg_iload_n d_La_law_103 rfl rfl ?_
  refine mg_iconst (v := nI 2) d_La_law_104 (by decide) ?_
  refine mg_iadd d_La_law_105 ?_
  refine mg_sld hSc d_La_law_106 (lp_in hL ht 2 (by decide)) ?_
  refine mg_aload_n d_La_law_107 rfl rfl ?_
  refine mg_iload_n d_La_law_108 rfl rfl ?_
  refine mg_iconst (v := nI 3) d_La_law_109 (by decide) ?_
  refine mg_iadd d_La_law_110 ?_
  refine mg_sld hSc d_La_law_111 (lp_in hL ht 3 (by decide)) ?_
  refine law_call1 (rm := rmP 5 1 3 101) (vl_La_13 rfl) d_La_law_112 rfl hP hM (ca M hP) rfl rfl (by rw [hSc.R]; exact ⟨Nat.le_of_ble_eq_true rfl, Nat.le_of_ble_eq_true rfl⟩) (by rw [hSc.R]; exact ⟨show k + 1 ≤ 600000 by omega, show j + 3 ≤ 7302250 by omega⟩) (fun M1 hP1 hM1 => ?_)
  refine mg_aload_n d_La_law_115 rfl rfl ?_
  refine mg_aload_n d_La_law_116 rfl rfl ?_
  refine mg_iload_n d_La_law_117 rfl rfl ?_
  refine mg_iconst (v := nI 1) d_La_law_118 (by decide) ?_
  refine mg_iadd d_La_law_119 ?_
  refine mg_sld hSc d_La_law_120 (lp_in hL ht 1 (by decide)) ?_
  refine mg_aload_n d_La_law_121 rfl rfl ?_
  refine mg_iload_n d_La_law_122 rfl rfl ?_
  refine mg_iconst (v := nI 2) d_La_law_123 (by decide) ?_
  refine mg_iadd d_La_law_124 ?_
  refine mg_sld hSc d_La_law_125 (lp_in hL ht 2 (by decide)) ?_
  refine mg_aload_n d_La_law_126 rfl rfl ?_
  refine mg_iload_n d_La_law_127 rfl rfl ?_
  refine mg_iconst (v := nI 3) d_La_law_128 (by decide) ?_
  refine mg_iadd d_La_law_129 ?_
  refine mg_sld hSc d_La_law_130 (lp_in hL ht 3 (by decide)) ?_
  refine law_call2 (rm := rmP 1 0 0 22) (vl_La_17 rfl) d_La_law_131 rfl hI' hP1 hM1 (cb M1 hM1) rfl rfl (by rw [hSc.R]; exact ⟨Nat.le_of_ble_eq_true rfl, Nat.le_of_ble_eq_true rfl⟩) (by rw [hSc.R]; exact ⟨show k + 1 + 0 ≤ 600000 by omega, show j + 3 + 0 ≤ 7302250 by omega⟩) (fun M2 hP2 hM2 => ?_)
  exact mg_icmp_eq (tgt := 473) d_La_law_134 (by decide) (fun _ => next M2 q' _ _ (show k + 1 + 0 ≤ k + 3 by omega) (show j + 3 + 0 ≤ j + 66 by omega) hP2 hM2 hI') (fun c => absurd rfl c)
set_option maxHeartbeats 4000000 in
set_option maxRecDepth 100000 in
theorem law_c1 {X : mg_X} {L : Nat} {xs : Nat → Int32} {t k j : Nat} {M : mg_M} {q : stT} (hSc : mg_Sc X L xs) (hL : L ≤ 3072) (ht : 6 * t + 6 ≤ L) (hk : k ≤ 100 + 3 * t) (hj : j ≤ 20000 + 66 * t) (hP : pP M q) (hM : pM M q) (hI : pI q) (next : ∀ (M' : mg_M) (q' : stT) (k' j' : Nat), k' ≤ k + 3 → j' ≤ j + 66 → pP M' q' → pM M' q' → pI q' → mg_G X Y_La_law (mg_QL X) M' k' j' 473 [some (.ref 0), some (.ref 1), some (.ref 1000), some (.int (nI (6 * t)))] []) : mg_G X Y_La_law (mg_QL X) M k j 139 [some (.ref 0), some (.ref 1), some (.ref 1000), some (.int (nI (6 * t)))] [] := by
  obtain ⟨gs, ps, ks, wa, fo, le, row, nu, pu, s⟩ := q
  obtain ⟨a, q', ⟨r, rfl⟩, hI', ca, cb⟩ := duo_property (wa := wa) (le := le) (nu := nu) (s := s) (kd := (xs (nI (6 * t) + nI 1).toNatClampNeg)) (k := (xs (nI (6 * t) + nI 2).toNatClampNeg)) (c := (xs (nI (6 * t) + nI 3).toNatClampNeg)) (show Inv gs ps ks fo row pu from hI)
  refine mg_aload_n d_La_law_139 rfl rfl ?_
  refine mg_aload_n d_La_law_140 rfl rfl ?_
  refine mg_iload_n d_La_law_141 rfl rfl ?_
  refine mg_iconst (v := nI 1) d_La_law_142 (by decide) ?_
  refine mg_iadd d_La_law_143 ?_
  refine mg_sld hSc d_La_law_144 (lp_in hL ht 1 (by decide)) ?_
  refine mg_aload_n d_La_law_145 rfl rfl ?_
  refine mg_iload_n d_La_law_146 rfl rfl ?_
  refine mg_iconst (v := nI 2) d_La_law_147 (by decide) ?_
  refine mg_iadd d_La_law_148 ?_
  refine mg_sld hSc d_La_law_149 (lp_in hL ht 2 (by decide)) ?_
  refine mg_aload_n d_La_law_150 rfl rfl ?_
  refine mg_iload_n d_La_law_151 rfl rfl ?_
  refine mg_iconst (v := nI 3) d_La_law_152 (by decide) ?_
  refine mg_iadd d_La_law_153 ?_
  refine mg_sld hSc d_La_law_154 (lp_in hL ht 3 (by decide)) ?_
  refine law_call1 (rm := rmP 2 1 3 35) (vl_La_18 rfl) d_La_law_155 rfl hP hM (ca M hP) rfl rfl (by rw [hSc.R]; exact ⟨Nat.le_of_ble_eq_true rfl, Nat.le_of_ble_eq_true rfl⟩) (by rw [hSc.R]; exact ⟨show k + 1 ≤ 600000 by omega, show j + 3 ≤ 7302250 by omega⟩) (fun M1 hP1 hM1 => ?_)
  refine mg_aload_n d_La_law_158 rfl rfl ?_
  refine mg_aload_n d_La_law_159 rfl rfl ?_
  refine mg_iload_n d_La_law_160 rfl rfl ?_
  refine mg_iconst (v := nI 1) d_La_law_161 (by decide) ?_
  refine mg_iadd d_La_law_162 ?_
  refine mg_sld hSc d_La_law_163 (lp_in hL ht 1 (by decide)) ?_
  refine mg_aload_n d_La_law_164 rfl rfl ?_
  refine mg_iload_n d_La_law_165 rfl rfl ?_
  refine mg_iconst (v := nI 2) d_La_law_166 (by decide) ?_
  refine mg_iadd d_La_law_167 ?_
  refine mg_sld hSc d_La_law_168 (lp_in hL ht 2 (by decide)) ?_
  refine mg_aload_n d_La_law_169 rfl rfl ?_
  refine mg_iload_n d_La_law_170 rfl rfl ?_
  refine mg_iconst (v := nI 3) d_La_law_171 (by decide) ?_
  refine mg_iadd d_La_law_172 ?_
  refine mg_sld hSc d_La_law_173 (lp_in hL ht 3 (by decide)) ?_
  refine law_call2 (rm := rmP 0 0 0 0) (vl_La_21 rfl) d_La_law_174 rfl hI' hP1 hM1 (cb M1 hM1) rfl rfl (by rw [hSc.R]; exact ⟨Nat.le_of_ble_eq_true rfl, Nat.le_of_ble_eq_true rfl⟩) (by rw [hSc.R]; exact ⟨show k + 1 + 0 ≤ 600000 by omega, show j + 3 + 0 ≤ 7302250 by omega⟩) (fun M2 hP2 hM2 => ?_)
  exact mg_icmp_eq (tgt := 473) d_La_law_177 (by decide) (fun _ => next M2 q' _ _ (show k + 1 + 0 ≤ k + 3 by omega) (show j + 3 + 0 ≤ j + 66 by omega) hP2 hM2 hI') (fun c => absurd rfl c)
set_option maxHeartbeats 4000000 in
set_option maxRecDepth 100000 in
theorem law_c2 {X : mg_X} {L : Nat} {xs : Nat → Int32} {t k j : Nat} {M : mg_M} {q : stT} (hSc : mg_Sc X L xs) (hL : L ≤ 3072) (ht : 6 * t + 6 ≤ L) (hk : k ≤ 100 + 3 * t) (hj : j ≤ 20000 + 66 * t) (hP : pP M q) (hM : pM M q) (hI : pI q) (next : ∀ (M' : mg_M) (q' : stT) (k' j' : Nat), k' ≤ k + 3 → j' ≤ j + 66 → pP M' q' → pM M' q' → pI q' → mg_G X Y_La_law (mg_QL X) M' k' j' 473 [some (.ref 0), some (.ref 1), some (.ref 1000), some (.int (nI (6 * t)))] []) : mg_G X Y_La_law (mg_QL X) M k j 182 [some (.ref 0), some (.ref 1), some (.ref 1000), some (.int (nI (6 * t)))] [] := by
  obtain ⟨gs, ps, ks, wa, fo, le, row, nu, pu, s⟩ := q
  obtain ⟨a, q', ⟨r, rfl⟩, hI', ca, cb⟩ := duo_check (wa := wa) (le := le) (nu := nu) (s := s) (gi := (xs (nI (6 * t) + nI 1).toNatClampNeg)) (pj := (xs (nI (6 * t) + nI 2).toNatClampNeg)) (sd := ((xs (nI (6 * t) + nI 3).toNatClampNeg).toInt64 <<< ((32 : Int32).toInt64 &&& 63) ||| (xs (nI (6 * t) + nI 4).toNatClampNeg).toInt64 &&& 4294967295)) (rn := (xs (nI (6 * t) + nI 5).toNatClampNeg)) (show Inv gs ps ks fo row pu from hI)
  refine mg_aload_n d_La_law_182 rfl rfl ?_
  refine mg_aload_n d_La_law_183 rfl rfl ?_
  refine mg_iload_n d_La_law_184 rfl rfl ?_
  refine mg_iconst (v := nI 1) d_La_law_185 (by decide) ?_
  refine mg_iadd d_La_law_186 ?_
  refine mg_sld hSc d_La_law_187 (lp_in hL ht 1 (by decide)) ?_
  refine mg_aload_n d_La_law_188 rfl rfl ?_
  refine mg_iload_n d_La_law_189 rfl rfl ?_
  refine mg_iconst (v := nI 2) d_La_law_190 (by decide) ?_
  refine mg_iadd d_La_law_191 ?_
  refine mg_sld hSc d_La_law_192 (lp_in hL ht 2 (by decide)) ?_
  refine mg_aload_n d_La_law_193 rfl rfl ?_
  refine mg_iload_n d_La_law_194 rfl rfl ?_
  refine mg_iconst (v := nI 3) d_La_law_195 (by decide) ?_
  refine mg_iadd d_La_law_196 ?_
  refine mg_sld hSc d_La_law_197 (lp_in hL ht 3 (by decide)) ?_
  refine mg_i2l d_La_law_198 ?_
  refine mg_bipush (v := 32) d_La_law_199 (by decide) ?_
  refine mg_lshl d_La_law_201 ?_
  refine mg_aload_n d_La_law_202 rfl rfl ?_
  refine mg_iload_n d_La_law_203 rfl rfl ?_
  refine mg_iconst (v := nI 4) d_La_law_204 (by decide) ?_
  refine mg_iadd d_La_law_205 ?_
  refine mg_sld hSc d_La_law_206 (lp_in hL ht 4 (by decide)) ?_
  refine mg_i2l d_La_law_207 ?_
  refine mg_ldc2 (v := 4294967295) d_La_law_208 KL_La ?_
  refine mg_land d_La_law_211 ?_
  refine mg_lor d_La_law_212 ?_
  refine mg_aload_n d_La_law_213 rfl rfl ?_
  refine mg_iload_n d_La_law_214 rfl rfl ?_
  refine mg_iconst (v := nI 5) d_La_law_215 (by decide) ?_
  refine mg_iadd d_La_law_216 ?_
  refine mg_sld hSc d_La_law_217 (lp_in hL ht 5 (by decide)) ?_
  refine law_call1 (rm := rmP 13 3 66 308) (vl_La_24 rfl) d_La_law_218 rfl hP hM (ca M hP) rfl rfl (by rw [hSc.R]; exact ⟨Nat.le_of_ble_eq_true rfl, Nat.le_of_ble_eq_true rfl⟩) (by rw [hSc.R]; exact ⟨show k + 3 ≤ 600000 by omega, show j + 66 ≤ 7302250 by omega⟩) (fun M1 hP1 hM1 => ?_)
  refine mg_aload_n d_La_law_221 rfl rfl ?_
  refine mg_aload_n d_La_law_222 rfl rfl ?_
  refine mg_iload_n d_La_law_223 rfl rfl ?_
  refine mg_iconst (v := nI 1) d_La_law_224 (by decide) ?_
  refine mg_iadd d_La_law_225 ?_
  refine mg_sld hSc d_La_law_226 (lp_in hL ht 1 (by decide)) ?_
  refine mg_aload_n d_La_law_227 rfl rfl ?_
  refine mg_iload_n d_La_law_228 rfl rfl ?_
  refine mg_iconst (v := nI 2) d_La_law_229 (by decide) ?_
  refine mg_iadd d_La_law_230 ?_
  refine mg_sld hSc d_La_law_231 (lp_in hL ht 2 (by decide)) ?_
  refine mg_aload_n d_La_law_232 rfl rfl ?_
  refine mg_iload_n d_La_law_233 rfl rfl ?_
  refine mg_iconst (v := nI 3) d_La_law_234 (by decide) ?_
  refine mg_iadd d_La_law_235 ?_
  refine mg_sld hSc d_La_law_236 (lp_in hL ht 3 (by decide)) ?_
  refine mg_i2l d_La_law_237 ?_
  refine mg_bipush (v := 32) d_La_law_238 (by decide) ?_
  refine mg_lshl d_La_law_240 ?_
  refine mg_aload_n d_La_law_241 rfl rfl ?_
  refine mg_iload_n d_La_law_242 rfl rfl ?_
  refine mg_iconst (v := nI 4) d_La_law_243 (by decide) ?_
  refine mg_iadd d_La_law_244 ?_
  refine mg_sld hSc d_La_law_245 (lp_in hL ht 4 (by decide)) ?_
  refine mg_i2l d_La_law_246 ?_
  refine mg_ldc2 (v := 4294967295) d_La_law_247 KL_La ?_
  refine mg_land d_La_law_250 ?_
  refine mg_lor d_La_law_251 ?_
  refine mg_aload_n d_La_law_252 rfl rfl ?_
  refine mg_iload_n d_La_law_253 rfl rfl ?_
  refine mg_iconst (v := nI 5) d_La_law_254 (by decide) ?_
  refine mg_iadd d_La_law_255 ?_
  refine mg_sld hSc d_La_law_256 (lp_in hL ht 5 (by decide)) ?_
  refine law_call2 (rm := rmP 5 0 0 118) (vl_La_28 rfl) d_La_law_257 rfl hI' hP1 hM1 (cb M1 hM1) rfl rfl (by rw [hSc.R]; exact ⟨Nat.le_of_ble_eq_true rfl, Nat.le_of_ble_eq_true rfl⟩) (by rw [hSc.R]; exact ⟨show k + 3 + 0 ≤ 600000 by omega, show j + 66 + 0 ≤ 7302250 by omega⟩) (fun M2 hP2 hM2 => ?_)
  exact mg_icmp_eq (tgt := 473) d_La_law_260 (by decide) (fun _ => next M2 q' _ _ (show k + 3 + 0 ≤ k + 3 by omega) (show j + 66 + 0 ≤ j + 66 by omega) hP2 hM2 hI') (fun c => absurd rfl c)
set_option maxHeartbeats 4000000 in
set_option maxRecDepth 100000 in
theorem law_c3 {X : mg_X} {L : Nat} {xs : Nat → Int32} {t k j : Nat} {M : mg_M} {q : stT} (hSc : mg_Sc X L xs) (hL : L ≤ 3072) (ht : 6 * t + 6 ≤ L) (hk : k ≤ 100 + 3 * t) (hj : j ≤ 20000 + 66 * t) (hP : pP M q) (hM : pM M q) (hI : pI q) (next : ∀ (M' : mg_M) (q' : stT) (k' j' : Nat), k' ≤ k + 3 → j' ≤ j + 66 → pP M' q' → pM M' q' → pI q' → mg_G X Y_La_law (mg_QL X) M' k' j' 473 [some (.ref 0), some (.ref 1), some (.ref 1000), some (.int (nI (6 * t)))] []) : mg_G X Y_La_law (mg_QL X) M k j 265 [some (.ref 0), some (.ref 1), some (.ref 1000), some (.int (nI (6 * t)))] [] := by
  obtain ⟨gs, ps, ks, wa, fo, le, row, nu, pu, s⟩ := q
  obtain ⟨a, q', ⟨r, rfl⟩, hI', ca, cb⟩ := duo_shrink (wa := wa) (le := le) (nu := nu) (s := s) (t := (xs (nI (6 * t) + nI 1).toNatClampNeg)) (show Inv gs ps ks fo row pu from hI)
  refine mg_aload_n d_La_law_265 rfl rfl ?_
  refine mg_aload_n d_La_law_266 rfl rfl ?_
  refine mg_iload_n d_La_law_267 rfl rfl ?_
  refine mg_iconst (v := nI 1) d_La_law_268 (by decide) ?_
  refine mg_iadd d_La_law_269 ?_
  refine mg_sld hSc d_La_law_270 (lp_in hL ht 1 (by decide)) ?_
  refine law_call1 (rm := rmP 12 0 0 282) (vl_La_29 rfl) d_La_law_271 rfl hP hM (ca M hP) rfl rfl (by rw [hSc.R]; exact ⟨Nat.le_of_ble_eq_true rfl, Nat.le_of_ble_eq_true rfl⟩) (by rw [hSc.R]; exact ⟨show k + 0 ≤ 600000 by omega, show j + 0 ≤ 7302250 by omega⟩) (fun M1 hP1 hM1 => ?_)
  refine mg_aload_n d_La_law_274 rfl rfl ?_
  refine mg_aload_n d_La_law_275 rfl rfl ?_
  refine mg_iload_n d_La_law_276 rfl rfl ?_
  refine mg_iconst (v := nI 1) d_La_law_277 (by decide) ?_
  refine mg_iadd d_La_law_278 ?_
  refine mg_sld hSc d_La_law_279 (lp_in hL ht 1 (by decide)) ?_
  refine law_call2 (rm := rmP 4 0 0 93) (vl_La_33 rfl) d_La_law_280 rfl hI' hP1 hM1 (cb M1 hM1) rfl rfl (by rw [hSc.R]; exact ⟨Nat.le_of_ble_eq_true rfl, Nat.le_of_ble_eq_true rfl⟩) (by rw [hSc.R]; exact ⟨show k + 0 + 0 ≤ 600000 by omega, show j + 0 + 0 ≤ 7302250 by omega⟩) (fun M2 hP2 hM2 => ?_)
  exact mg_icmp_eq (tgt := 473) d_La_law_283 (by decide) (fun _ => next M2 q' _ _ (show k + 0 + 0 ≤ k + 3 by omega) (show j + 0 + 0 ≤ j + 66 by omega) hP2 hM2 hI') (fun c => absurd rfl c)
set_option maxHeartbeats 4000000 in
set_option maxRecDepth 100000 in
theorem law_c4 {X : mg_X} {L : Nat} {xs : Nat → Int32} {t k j : Nat} {M : mg_M} {q : stT} (hSc : mg_Sc X L xs) (hL : L ≤ 3072) (ht : 6 * t + 6 ≤ L) (hk : k ≤ 100 + 3 * t) (hj : j ≤ 20000 + 66 * t) (hP : pP M q) (hM : pM M q) (hI : pI q) (next : ∀ (M' : mg_M) (q' : stT) (k' j' : Nat), k' ≤ k + 3 → j' ≤ j + 66 → pP M' q' → pM M' q' → pI q' → mg_G X Y_La_law (mg_QL X) M' k' j' 473 [some (.ref 0), some (.ref 1), some (.ref 1000), some (.int (nI (6 * t)))] []) : mg_G X Y_La_law (mg_QL X) M k j 288 [some (.ref 0), some (.ref 1), some (.ref 1000), some (.int (nI (6 * t)))] [] := by
  obtain ⟨gs, ps, ks, wa, fo, le, row, nu, pu, s⟩ := q
  obtain ⟨a, q', ⟨r, rfl⟩, hI', ca, cb⟩ := duo_least (wa := wa) (le := le) (nu := nu) (s := s)  (show Inv gs ps ks fo row pu from hI)
  refine mg_aload_n d_La_law_288 rfl rfl ?_
  refine law_call1 (rm := rmP 0 0 0 0) (vl_La_34 rfl) d_La_law_289 rfl hP hM (ca M hP) rfl rfl (by rw [hSc.R]; exact ⟨Nat.le_of_ble_eq_true rfl, Nat.le_of_ble_eq_true rfl⟩) (by rw [hSc.R]; exact ⟨show k + 0 ≤ 600000 by omega, show j + 0 ≤ 7302250 by omega⟩) (fun M1 hP1 hM1 => ?_)
  refine mg_aload_n d_La_law_292 rfl rfl ?_
  refine law_call2 (rm := rmP 0 0 0 0) (vl_La_38 rfl) d_La_law_293 rfl hI' hP1 hM1 (cb M1 hM1) rfl rfl (by rw [hSc.R]; exact ⟨Nat.le_of_ble_eq_true rfl, Nat.le_of_ble_eq_true rfl⟩) (by rw [hSc.R]; exact ⟨show k + 0 + 0 ≤ 600000 by omega, show j + 0 + 0 ≤ 7302250 by omega⟩) (fun M2 hP2 hM2 => ?_)
  exact mg_icmp_eq (tgt := 473) d_La_law_296 (by decide) (fun _ => next M2 q' _ _ (show k + 0 + 0 ≤ k + 3 by omega) (show j + 0 + 0 ≤ j + 66 by omega) hP2 hM2 hI') (fun c => absurd rfl c)
set_option maxHeartbeats 4000000 in
set_option maxRecDepth 100000 in
theorem law_c5 {X : mg_X} {L : Nat} {xs : Nat → Int32} {t k j : Nat} {M : mg_M} {q : stT} (hSc : mg_Sc X L xs) (hL : L ≤ 3072) (ht : 6 * t + 6 ≤ L) (hk : k ≤ 100 + 3 * t) (hj : j ≤ 20000 + 66 * t) (hP : pP M q) (hM : pM M q) (hI : pI q) (next : ∀ (M' : mg_M) (q' : stT) (k' j' : Nat), k' ≤ k + 3 → j' ≤ j + 66 → pP M' q' → pM M' q' → pI q' → mg_G X Y_La_law (mg_QL X) M' k' j' 473 [some (.ref 0), some (.ref 1), some (.ref 1000), some (.int (nI (6 * t)))] []) : mg_G X Y_La_law (mg_QL X) M k j 301 [some (.ref 0), some (.ref 1), some (.ref 1000), some (.int (nI (6 * t)))] [] := by
  obtain ⟨gs, ps, ks, wa, fo, le, row, nu, pu, s⟩ := q
  obtain ⟨a, q', ⟨r, rfl⟩, hI', ca, cb⟩ := duo_replay (wa := wa) (le := le) (nu := nu) (s := s) (gi := (xs (nI (6 * t) + nI 1).toNatClampNeg)) (pj := (xs (nI (6 * t) + nI 2).toNatClampNeg)) (show Inv gs ps ks fo row pu from hI)
  refine mg_aload_n d_La_law_301 rfl rfl ?_
  refine mg_aload_n d_La_law_302 rfl rfl ?_
  refine mg_iload_n d_La_law_303 rfl rfl ?_
  refine mg_iconst (v := nI 1) d_La_law_304 (by decide) ?_
  refine mg_iadd d_La_law_305 ?_
  refine mg_sld hSc d_La_law_306 (lp_in hL ht 1 (by decide)) ?_
  refine mg_aload_n d_La_law_307 rfl rfl ?_
  refine mg_iload_n d_La_law_308 rfl rfl ?_
  refine mg_iconst (v := nI 2) d_La_law_309 (by decide) ?_
  refine mg_iadd d_La_law_310 ?_
  refine mg_sld hSc d_La_law_311 (lp_in hL ht 2 (by decide)) ?_
  refine law_call1 (rm := rmP 12 0 0 282) (vl_La_39 rfl) d_La_law_312 rfl hP hM (ca M hP) rfl rfl (by rw [hSc.R]; exact ⟨Nat.le_of_ble_eq_true rfl, Nat.le_of_ble_eq_true rfl⟩) (by rw [hSc.R]; exact ⟨show k + 0 ≤ 600000 by omega, show j + 0 ≤ 7302250 by omega⟩) (fun M1 hP1 hM1 => ?_)
  refine mg_aload_n d_La_law_315 rfl rfl ?_
  refine mg_aload_n d_La_law_316 rfl rfl ?_
  refine mg_iload_n d_La_law_317 rfl rfl ?_
  refine mg_iconst (v := nI 1) d_La_law_318 (by decide) ?_
  refine mg_iadd d_La_law_319 ?_
  refine mg_sld hSc d_La_law_320 (lp_in hL ht 1 (by decide)) ?_
  refine mg_aload_n d_La_law_321 rfl rfl ?_
  refine mg_iload_n d_La_law_322 rfl rfl ?_
  refine mg_iconst (v := nI 2) d_La_law_323 (by decide) ?_
  refine mg_iadd d_La_law_324 ?_
  refine mg_sld hSc d_La_law_325 (lp_in hL ht 2 (by decide)) ?_
  refine law_call2 (rm := rmP 4 0 0 93) (vl_La_43 rfl) d_La_law_326 rfl hI' hP1 hM1 (cb M1 hM1) rfl rfl (by rw [hSc.R]; exact ⟨Nat.le_of_ble_eq_true rfl, Nat.le_of_ble_eq_true rfl⟩) (by rw [hSc.R]; exact ⟨show k + 0 + 0 ≤ 600000 by omega, show j + 0 + 0 ≤ 7302250 by omega⟩) (fun M2 hP2 hM2 => ?_)
  exact mg_icmp_eq (tgt := 473) d_La_law_329 (by decide) (fun _ => next M2 q' _ _ (show k + 0 + 0 ≤ k + 3 by omega) (show j + 0 + 0 ≤ j + 66 by omega) hP2 hM2 hI') (fun c => absurd rfl c)
set_option maxHeartbeats 4000000 in
set_option maxRecDepth 100000 in
theorem law_c6 {X : mg_X} {L : Nat} {xs : Nat → Int32} {t k j : Nat} {M : mg_M} {q : stT} (hSc : mg_Sc X L xs) (hL : L ≤ 3072) (ht : 6 * t + 6 ≤ L) (hk : k ≤ 100 + 3 * t) (hj : j ≤ 20000 + 66 * t) (hP : pP M q) (hM : pM M q) (hI : pI q) (next : ∀ (M' : mg_M) (q' : stT) (k' j' : Nat), k' ≤ k + 3 → j' ≤ j + 66 → pP M' q' → pM M' q' → pI q' → mg_G X Y_La_law (mg_QL X) M' k' j' 473 [some (.ref 0), some (.ref 1), some (.ref 1000), some (.int (nI (6 * t)))] []) : mg_G X Y_La_law (mg_QL X) M k j 334 [some (.ref 0), some (.ref 1), some (.ref 1000), some (.int (nI (6 * t)))] [] := by
  obtain ⟨gs, ps, ks, wa, fo, le, row, nu, pu, s⟩ := q
  obtain ⟨a, q', ⟨r, rfl⟩, hI', ca, cb⟩ := duo_put (wa := wa) (le := le) (nu := nu) (s := s) (i := (xs (nI (6 * t) + nI 1).toNatClampNeg)) (show Inv gs ps ks fo row pu from hI)
  refine mg_aload_n d_La_law_334 rfl rfl ?_
  refine mg_aload_n d_La_law_335 rfl rfl ?_
  refine mg_iload_n d_La_law_336 rfl rfl ?_
  refine mg_iconst (v := nI 1) d_La_law_337 (by decide) ?_
  refine mg_iadd d_La_law_338 ?_
  refine mg_sld hSc d_La_law_339 (lp_in hL ht 1 (by decide)) ?_
  refine law_call1 (rm := rmP 1 0 0 21) (vl_La_44 rfl) d_La_law_340 rfl hP hM (ca M hP) rfl rfl (by rw [hSc.R]; exact ⟨Nat.le_of_ble_eq_true rfl, Nat.le_of_ble_eq_true rfl⟩) (by rw [hSc.R]; exact ⟨show k + 0 ≤ 600000 by omega, show j + 0 ≤ 7302250 by omega⟩) (fun M1 hP1 hM1 => ?_)
  refine mg_aload_n d_La_law_343 rfl rfl ?_
  refine mg_aload_n d_La_law_344 rfl rfl ?_
  refine mg_iload_n d_La_law_345 rfl rfl ?_
  refine mg_iconst (v := nI 1) d_La_law_346 (by decide) ?_
  refine mg_iadd d_La_law_347 ?_
  refine mg_sld hSc d_La_law_348 (lp_in hL ht 1 (by decide)) ?_
  refine law_call2 (rm := rmP 0 0 0 0) (vl_La_48 rfl) d_La_law_349 rfl hI' hP1 hM1 (cb M1 hM1) rfl rfl (by rw [hSc.R]; exact ⟨Nat.le_of_ble_eq_true rfl, Nat.le_of_ble_eq_true rfl⟩) (by rw [hSc.R]; exact ⟨show k + 0 + 0 ≤ 600000 by omega, show j + 0 + 0 ≤ 7302250 by omega⟩) (fun M2 hP2 hM2 => ?_)
  exact mg_icmp_eq (tgt := 473) d_La_law_352 (by decide) (fun _ => next M2 q' _ _ (show k + 0 + 0 ≤ k + 3 by omega) (show j + 0 + 0 ≤ j + 66 by omega) hP2 hM2 hI') (fun c => absurd rfl c)
set_option maxHeartbeats 4000000 in
set_option maxRecDepth 100000 in
theorem law_c7 {X : mg_X} {L : Nat} {xs : Nat → Int32} {t k j : Nat} {M : mg_M} {q : stT} (hSc : mg_Sc X L xs) (hL : L ≤ 3072) (ht : 6 * t + 6 ≤ L) (hk : k ≤ 100 + 3 * t) (hj : j ≤ 20000 + 66 * t) (hP : pP M q) (hM : pM M q) (hI : pI q) (next : ∀ (M' : mg_M) (q' : stT) (k' j' : Nat), k' ≤ k + 3 → j' ≤ j + 66 → pP M' q' → pM M' q' → pI q' → mg_G X Y_La_law (mg_QL X) M' k' j' 473 [some (.ref 0), some (.ref 1), some (.ref 1000), some (.int (nI (6 * t)))] []) : mg_G X Y_La_law (mg_QL X) M k j 357 [some (.ref 0), some (.ref 1), some (.ref 1000), some (.int (nI (6 * t)))] [] := by
  obtain ⟨gs, ps, ks, wa, fo, le, row, nu, pu, s⟩ := q
  obtain ⟨a, q', ⟨r, rfl⟩, hI', ca, cb⟩ := duo_choice (wa := wa) (le := le) (nu := nu) (s := s) (i := (xs (nI (6 * t) + nI 1).toNatClampNeg)) (show Inv gs ps ks fo row pu from hI)
  refine mg_aload_n d_La_law_357 rfl rfl ?_
  refine mg_aload_n d_La_law_358 rfl rfl ?_
  refine mg_iload_n d_La_law_359 rfl rfl ?_
  refine mg_iconst (v := nI 1) d_La_law_360 (by decide) ?_
  refine mg_iadd d_La_law_361 ?_
  refine mg_sld hSc d_La_law_362 (lp_in hL ht 1 (by decide)) ?_
  refine law_call1 (rm := rmP 1 0 0 22) (vl_La_49 rfl) d_La_law_363 rfl hP hM (ca M hP) rfl rfl (by rw [hSc.R]; exact ⟨Nat.le_of_ble_eq_true rfl, Nat.le_of_ble_eq_true rfl⟩) (by rw [hSc.R]; exact ⟨show k + 0 ≤ 600000 by omega, show j + 0 ≤ 7302250 by omega⟩) (fun M1 hP1 hM1 => ?_)
  refine mg_aload_n d_La_law_366 rfl rfl ?_
  refine mg_aload_n d_La_law_367 rfl rfl ?_
  refine mg_iload_n d_La_law_368 rfl rfl ?_
  refine mg_iconst (v := nI 1) d_La_law_369 (by decide) ?_
  refine mg_iadd d_La_law_370 ?_
  refine mg_sld hSc d_La_law_371 (lp_in hL ht 1 (by decide)) ?_
  refine law_call2 (rm := rmP 0 0 0 0) (vl_La_52 rfl) d_La_law_372 rfl hI' hP1 hM1 (cb M1 hM1) rfl rfl (by rw [hSc.R]; exact ⟨Nat.le_of_ble_eq_true rfl, Nat.le_of_ble_eq_true rfl⟩) (by rw [hSc.R]; exact ⟨show k + 0 + 0 ≤ 600000 by omega, show j + 0 + 0 ≤ 7302250 by omega⟩) (fun M2 hP2 hM2 => ?_)
  exact mg_icmp_eq (tgt := 473) d_La_law_375 (by decide) (fun _ => next M2 q' _ _ (show k + 0 + 0 ≤ k + 3 by omega) (show j + 0 + 0 ≤ j + 66 by omega) hP2 hM2 hI') (fun c => absurd rfl c)
set_option maxHeartbeats 4000000 in
set_option maxRecDepth 100000 in
theorem law_c8 {X : mg_X} {L : Nat} {xs : Nat → Int32} {t k j : Nat} {M : mg_M} {q : stT} (hSc : mg_Sc X L xs) (hL : L ≤ 3072) (ht : 6 * t + 6 ≤ L) (hk : k ≤ 100 + 3 * t) (hj : j ≤ 20000 + 66 * t) (hP : pP M q) (hM : pM M q) (hI : pI q) (next : ∀ (M' : mg_M) (q' : stT) (k' j' : Nat), k' ≤ k + 3 → j' ≤ j + 66 → pP M' q' → pM M' q' → pI q' → mg_G X Y_La_law (mg_QL X) M' k' j' 473 [some (.ref 0), some (.ref 1), some (.ref 1000), some (.int (nI (6 * t)))] []) : mg_G X Y_La_law (mg_QL X) M k j 380 [some (.ref 0), some (.ref 1), some (.ref 1000), some (.int (nI (6 * t)))] [] := by
  obtain ⟨gs, ps, ks, wa, fo, le, row, nu, pu, s⟩ := q
  obtain ⟨a, q', ⟨r, rfl⟩, hI', ca, cb⟩ := duo_size (wa := wa) (le := le) (nu := nu) (s := s) (i := (xs (nI (6 * t) + nI 1).toNatClampNeg)) (show Inv gs ps ks fo row pu from hI)
  refine mg_aload_n d_La_law_380 rfl rfl ?_
  refine mg_aload_n d_La_law_381 rfl rfl ?_
  refine mg_iload_n d_La_law_382 rfl rfl ?_
  refine mg_iconst (v := nI 1) d_La_law_383 (by decide) ?_
  refine mg_iadd d_La_law_384 ?_
  refine mg_sld hSc d_La_law_385 (lp_in hL ht 1 (by decide)) ?_
  refine law_call1 (rm := rmP 1 0 0 20) (vl_La_53 rfl) d_La_law_386 rfl hP hM (ca M hP) rfl rfl (by rw [hSc.R]; exact ⟨Nat.le_of_ble_eq_true rfl, Nat.le_of_ble_eq_true rfl⟩) (by rw [hSc.R]; exact ⟨show k + 0 ≤ 600000 by omega, show j + 0 ≤ 7302250 by omega⟩) (fun M1 hP1 hM1 => ?_)
  refine mg_aload_n d_La_law_389 rfl rfl ?_
  refine mg_aload_n d_La_law_390 rfl rfl ?_
  refine mg_iload_n d_La_law_391 rfl rfl ?_
  refine mg_iconst (v := nI 1) d_La_law_392 (by decide) ?_
  refine mg_iadd d_La_law_393 ?_
  refine mg_sld hSc d_La_law_394 (lp_in hL ht 1 (by decide)) ?_
  refine law_call2 (rm := rmP 0 0 0 0) (vl_La_56 rfl) d_La_law_395 rfl hI' hP1 hM1 (cb M1 hM1) rfl rfl (by rw [hSc.R]; exact ⟨Nat.le_of_ble_eq_true rfl, Nat.le_of_ble_eq_true rfl⟩) (by rw [hSc.R]; exact ⟨show k + 0 + 0 ≤ 600000 by omega, show j + 0 + 0 ≤ 7302250 by omega⟩) (fun M2 hP2 hM2 => ?_)
  exact mg_icmp_eq (tgt := 473) d_La_law_398 (by decide) (fun _ => next M2 q' _ _ (show k + 0 + 0 ≤ k + 3 by omega) (show j + 0 + 0 ≤ j + 66 by omega) hP2 hM2 hI') (fun c => absurd rfl c)
set_option maxHeartbeats 4000000 in
set_option maxRecDepth 100000 in
theorem law_c9 {X : mg_X} {L : Nat} {xs : Nat → Int32} {t k j : Nat} {M : mg_M} {q : stT} (hSc : mg_Sc X L xs) (hL : L ≤ 3072) (ht : 6 * t + 6 ≤ L) (hk : k ≤ 100 + 3 * t) (hj : j ≤ 20000 + 66 * t) (hP : pP M q) (hM : pM M q) (hI : pI q) (next : ∀ (M' : mg_M) (q' : stT) (k' j' : Nat), k' ≤ k + 3 → j' ≤ j + 66 → pP M' q' → pM M' q' → pI q' → mg_G X Y_La_law (mg_QL X) M' k' j' 473 [some (.ref 0), some (.ref 1), some (.ref 1000), some (.int (nI (6 * t)))] []) : mg_G X Y_La_law (mg_QL X) M k j 403 [some (.ref 0), some (.ref 1), some (.ref 1000), some (.int (nI (6 * t)))] [] := by
  obtain ⟨gs, ps, ks, wa, fo, le, row, nu, pu, s⟩ := q
  obtain ⟨a, q', ⟨r, rfl⟩, hI', ca, cb⟩ := duo_number (wa := wa) (le := le) (nu := nu) (s := s) (i := (xs (nI (6 * t) + nI 1).toNatClampNeg)) (show Inv gs ps ks fo row pu from hI)
  refine mg_aload_n d_La_law_403 rfl rfl ?_
  refine mg_aload_n d_La_law_404 rfl rfl ?_
  refine mg_iload_n d_La_law_405 rfl rfl ?_
  refine mg_iconst (v := nI 1) d_La_law_406 (by decide) ?_
  refine mg_iadd d_La_law_407 ?_
  refine mg_sld hSc d_La_law_408 (lp_in hL ht 1 (by decide)) ?_
  refine law_call1 (rm := rmP 1 0 0 22) (vl_La_57 rfl) d_La_law_409 rfl hP hM (ca M hP) rfl rfl (by rw [hSc.R]; exact ⟨Nat.le_of_ble_eq_true rfl, Nat.le_of_ble_eq_true rfl⟩) (by rw [hSc.R]; exact ⟨show k + 0 ≤ 600000 by omega, show j + 0 ≤ 7302250 by omega⟩) (fun M1 hP1 hM1 => ?_)
  refine mg_aload_n d_La_law_412 rfl rfl ?_
  refine mg_aload_n d_La_law_413 rfl rfl ?_
  refine mg_iload_n d_La_law_414 rfl rfl ?_
  refine mg_iconst (v := nI 1) d_La_law_415 (by decide) ?_
  refine mg_iadd d_La_law_416 ?_
  refine mg_sld hSc d_La_law_417 (lp_in hL ht 1 (by decide)) ?_
  refine law_call2 (rm := rmP 0 0 0 0) (vl_La_60 rfl) d_La_law_418 rfl hI' hP1 hM1 (cb M1 hM1) rfl rfl (by rw [hSc.R]; exact ⟨Nat.le_of_ble_eq_true rfl, Nat.le_of_ble_eq_true rfl⟩) (by rw [hSc.R]; exact ⟨show k + 0 + 0 ≤ 600000 by omega, show j + 0 + 0 ≤ 7302250 by omega⟩) (fun M2 hP2 hM2 => ?_)
  exact mg_icmp_eq (tgt := 473) d_La_law_421 (by decide) (fun _ => next M2 q' _ _ (show k + 0 + 0 ≤ k + 3 by omega) (show j + 0 + 0 ≤ j + 66 by omega) hP2 hM2 hI') (fun c => absurd rfl c)
set_option maxHeartbeats 4000000 in
set_option maxRecDepth 100000 in
theorem law_c10 {X : mg_X} {L : Nat} {xs : Nat → Int32} {t k j : Nat} {M : mg_M} {q : stT} (hSc : mg_Sc X L xs) (hL : L ≤ 3072) (ht : 6 * t + 6 ≤ L) (hk : k ≤ 100 + 3 * t) (hj : j ≤ 20000 + 66 * t) (hP : pP M q) (hM : pM M q) (hI : pI q) (next : ∀ (M' : mg_M) (q' : stT) (k' j' : Nat), k' ≤ k + 3 → j' ≤ j + 66 → pP M' q' → pM M' q' → pI q' → mg_G X Y_La_law (mg_QL X) M' k' j' 473 [some (.ref 0), some (.ref 1), some (.ref 1000), some (.int (nI (6 * t)))] []) : mg_G X Y_La_law (mg_QL X) M k j 426 [some (.ref 0), some (.ref 1), some (.ref 1000), some (.int (nI (6 * t)))] [] := by
  obtain ⟨gs, ps, ks, wa, fo, le, row, nu, pu, s⟩ := q
  obtain ⟨a, q', ⟨r, rfl⟩, hI', ca, cb⟩ := duo_all (wa := wa) (le := le) (nu := nu) (s := s) (gi := (xs (nI (6 * t) + nI 1).toNatClampNeg)) (mo := (xs (nI (6 * t) + nI 2).toNatClampNeg)) (show Inv gs ps ks fo row pu from hI)
  refine mg_aload_n d_La_law_426 rfl rfl ?_
  refine mg_aload_n d_La_law_427 rfl rfl ?_
  refine mg_iload_n d_La_law_428 rfl rfl ?_
  refine mg_iconst (v := nI 1) d_La_law_429 (by decide) ?_
  refine mg_iadd d_La_law_430 ?_
  refine mg_sld hSc d_La_law_431 (lp_in hL ht 1 (by decide)) ?_
  refine mg_aload_n d_La_law_432 rfl rfl ?_
  refine mg_iload_n d_La_law_433 rfl rfl ?_
  refine mg_iconst (v := nI 2) d_La_law_434 (by decide) ?_
  refine mg_iadd d_La_law_435 ?_
  refine mg_sld hSc d_La_law_436 (lp_in hL ht 2 (by decide)) ?_
  refine law_call1 (rm := rmP 11 0 0 259) (vl_La_61 rfl) d_La_law_437 rfl hP hM (ca M hP) rfl rfl (by rw [hSc.R]; exact ⟨Nat.le_of_ble_eq_true rfl, Nat.le_of_ble_eq_true rfl⟩) (by rw [hSc.R]; exact ⟨show k + 0 ≤ 600000 by omega, show j + 0 ≤ 7302250 by omega⟩) (fun M1 hP1 hM1 => ?_)
  refine mg_aload_n d_La_law_440 rfl rfl ?_
  refine mg_aload_n d_La_law_441 rfl rfl ?_
  refine mg_iload_n d_La_law_442 rfl rfl ?_
  refine mg_iconst (v := nI 1) d_La_law_443 (by decide) ?_
  refine mg_iadd d_La_law_444 ?_
  refine mg_sld hSc d_La_law_445 (lp_in hL ht 1 (by decide)) ?_
  refine mg_aload_n d_La_law_446 rfl rfl ?_
  refine mg_iload_n d_La_law_447 rfl rfl ?_
  refine mg_iconst (v := nI 2) d_La_law_448 (by decide) ?_
  refine mg_iadd d_La_law_449 ?_
  refine mg_sld hSc d_La_law_450 (lp_in hL ht 2 (by decide)) ?_
  refine law_call2 (rm := rmP 4 0 0 93) (vl_La_64 rfl) d_La_law_451 rfl hI' hP1 hM1 (cb M1 hM1) rfl rfl (by rw [hSc.R]; exact ⟨Nat.le_of_ble_eq_true rfl, Nat.le_of_ble_eq_true rfl⟩) (by rw [hSc.R]; exact ⟨show k + 0 + 0 ≤ 600000 by omega, show j + 0 + 0 ≤ 7302250 by omega⟩) (fun M2 hP2 hM2 => ?_)
  exact mg_icmp_eq (tgt := 473) d_La_law_454 (by decide) (fun _ => next M2 q' _ _ (show k + 0 + 0 ≤ k + 3 by omega) (show j + 0 + 0 ≤ j + 66 by omega) hP2 hM2 hI') (fun c => absurd rfl c)
set_option maxHeartbeats 4000000 in
set_option maxRecDepth 100000 in
theorem law_c11 {X : mg_X} {L : Nat} {xs : Nat → Int32} {t k j : Nat} {M : mg_M} {q : stT} (hSc : mg_Sc X L xs) (hL : L ≤ 3072) (ht : 6 * t + 6 ≤ L) (hk : k ≤ 100 + 3 * t) (hj : j ≤ 20000 + 66 * t) (hP : pP M q) (hM : pM M q) (hI : pI q) (next : ∀ (M' : mg_M) (q' : stT) (k' j' : Nat), k' ≤ k + 3 → j' ≤ j + 66 → pP M' q' → pM M' q' → pI q' → mg_G X Y_La_law (mg_QL X) M' k' j' 473 [some (.ref 0), some (.ref 1), some (.ref 1000), some (.int (nI (6 * t)))] []) : mg_G X Y_La_law (mg_QL X) M k j 459 [some (.ref 0), some (.ref 1), some (.ref 1000), some (.int (nI (6 * t)))] [] := by
  obtain ⟨gs, ps, ks, wa, fo, le, row, nu, pu, s⟩ := q
  obtain ⟨a, q', ⟨r, rfl⟩, hI', ca, cb⟩ := duo_sum (wa := wa) (le := le) (nu := nu) (s := s)  (show Inv gs ps ks fo row pu from hI)
  refine mg_aload_n d_La_law_459 rfl rfl ?_
  refine law_call1 (rm := rmP 0 0 0 0) (vl_La_65 rfl) d_La_law_460 rfl hP hM (ca M hP) rfl rfl (by rw [hSc.R]; exact ⟨Nat.le_of_ble_eq_true rfl, Nat.le_of_ble_eq_true rfl⟩) (by rw [hSc.R]; exact ⟨show k + 0 ≤ 600000 by omega, show j + 0 ≤ 7302250 by omega⟩) (fun M1 hP1 hM1 => ?_)
  refine mg_aload_n d_La_law_463 rfl rfl ?_
  refine law_call2 (rm := rmP 0 0 0 0) (vl_La_69 rfl) d_La_law_464 rfl hI' hP1 hM1 (cb M1 hM1) rfl rfl (by rw [hSc.R]; exact ⟨Nat.le_of_ble_eq_true rfl, Nat.le_of_ble_eq_true rfl⟩) (by rw [hSc.R]; exact ⟨show k + 0 + 0 ≤ 600000 by omega, show j + 0 + 0 ≤ 7302250 by omega⟩) (fun M2 hP2 hM2 => ?_)
  refine mg_lcmp d_La_law_467 ?_
  exact mg_if_eq (tgt := 473) d_La_law_468 (by decide) (fun _ => next M2 q' _ _ (show k + 0 + 0 ≤ k + 3 by omega) (show j + 0 + 0 ≤ j + 66 by omega) hP2 hM2 hI') (fun c => absurd lp_cmp c)
set_option maxHeartbeats 4000000 in
set_option maxRecDepth 100000 in
theorem law_loop {X : mg_X} {L : Nat} {xs : Nat → Int32} (hSc : mg_Sc X L xs) (hL : L ≤ 3072) : ∀ (n t k j : Nat) (M : mg_M) (q : stT), L + 1 ≤ 6 * t + n → 6 * t ≤ L → k ≤ 100 + 3 * t → j ≤ 20000 + 66 * t → pP M q → pM M q → pI q → mg_G X Y_La_law (mg_QL X) M k j 18 [some (.ref 0), some (.ref 1), some (.ref 1000), some (.int (nI (6 * t)))] [] := by
  intro n
  induction n with
  | zero => intro t k j M q h1 h2; exact absurd h1 (by omega)
  | succ n ih =>
    intro t k j M q h1 h2 hk hj hP hM hI
    refine mg_iload_n d_La_law_18 rfl rfl ?_
    refine mg_aload_n d_La_law_19 rfl rfl ?_
    refine mg_slen hSc d_La_law_20 ?_
    refine mg_bipush (v := nI 6) d_La_law_21 (by decide) ?_
    refine mg_isub d_La_law_23 ?_
    refine mg_icmp_gt (tgt := 479) d_La_law_24 (by decide) (fun _ => ?_) (fun c_24 => ?_)
    · refine mg_iconst (v := 1) d_La_law_479 (by decide) ?_
      exact mg_lawret hSc d_La_law_480 (by omega) (by omega)
    · have ht : 6 * t + 6 ≤ L := lp_sub hL h2 c_24
      have next : ∀ (M' : mg_M) (q' : stT) (k' j' : Nat), k' ≤ k + 3 → j' ≤ j + 66 → pP M' q' → pM M' q' → pI q' → mg_G X Y_La_law (mg_QL X) M' k' j' 473 [some (.ref 0), some (.ref 1), some (.ref 1000), some (.int (nI (6 * t)))] [] := by
        intro M' q' k' j' a1 a2 a3 a4 a5
        refine mg_iinc (v := nI (6 * (t + 1))) d_La_law_473 rfl (by rw [show Int32.ofInt 6 = nI 6 from by decide, nI_add, show 6 * t + 6 = 6 * (t + 1) by omega]) (by decide) rfl ?_
        refine mg_goto (tgt := 18) d_La_law_476 (by decide) ?_
        exact ih (t + 1) k' j' M' q' (by omega) (by omega) (by omega) (by omega) a3 a4 a5
      refine mg_aload_n d_La_law_27 rfl rfl ?_
      refine mg_iload_n d_La_law_28 rfl rfl ?_
      refine mg_sld hSc d_La_law_29 (vp_in_nI (by omega) (by omega)) ?_
      refine mg_bipush (v := 15) d_La_law_30 (by decide) ?_
      refine mg_iand d_La_law_32 ?_
      obtain ⟨c, hc, e⟩ := pk_andE (xs (nI (6 * t)).toNatClampNeg) (m := 15) 4 (by decide)
      rw [e]
      match c, hc with
      | 0, _ => exact mg_tableIn (x := nI 0) (off := 63) (tgt := 96) d_La_law_33 (by decide) (by decide) (by decide) (by decide) (law_c0 hSc hL ht hk hj hP hM hI next)
      | 1, _ => exact mg_tableIn (x := nI 1) (off := 106) (tgt := 139) d_La_law_33 (by decide) (by decide) (by decide) (by decide) (law_c1 hSc hL ht hk hj hP hM hI next)
      | 2, _ => exact mg_tableIn (x := nI 2) (off := 149) (tgt := 182) d_La_law_33 (by decide) (by decide) (by decide) (by decide) (law_c2 hSc hL ht hk hj hP hM hI next)
      | 3, _ => exact mg_tableIn (x := nI 3) (off := 232) (tgt := 265) d_La_law_33 (by decide) (by decide) (by decide) (by decide) (law_c3 hSc hL ht hk hj hP hM hI next)
      | 4, _ => exact mg_tableIn (x := nI 4) (off := 255) (tgt := 288) d_La_law_33 (by decide) (by decide) (by decide) (by decide) (law_c4 hSc hL ht hk hj hP hM hI next)
      | 5, _ => exact mg_tableIn (x := nI 5) (off := 268) (tgt := 301) d_La_law_33 (by decide) (by decide) (by decide) (by decide) (law_c5 hSc hL ht hk hj hP hM hI next)
      | 6, _ => exact mg_tableIn (x := nI 6) (off := 301) (tgt := 334) d_La_law_33 (by decide) (by decide) (by decide) (by decide) (law_c6 hSc hL ht hk hj hP hM hI next)
      | 7, _ => exact mg_tableIn (x := nI 7) (off := 324) (tgt := 357) d_La_law_33 (by decide) (by decide) (by decide) (by decide) (law_c7 hSc hL ht hk hj hP hM hI next)
      | 8, _ => exact mg_tableIn (x := nI 8) (off := 347) (tgt := 380) d_La_law_33 (by decide) (by decide) (by decide) (by decide) (law_c8 hSc hL ht hk hj hP hM hI next)
      | 9, _ => exact mg_tableIn (x := nI 9) (off := 370) (tgt := 403) d_La_law_33 (by decide) (by decide) (by decide) (by decide) (law_c9 hSc hL ht hk hj hP hM hI next)
      | 10, _ => exact mg_tableIn (x := nI 10) (off := 393) (tgt := 426) d_La_law_33 (by decide) (by decide) (by decide) (by decide) (law_c10 hSc hL ht hk hj hP hM hI next)
      | 11, _ => exact mg_tableIn (x := nI 11) (off := 426) (tgt := 459) d_La_law_33 (by decide) (by decide) (by decide) (by decide) (law_c11 hSc hL ht hk hj hP hM hI next)
      | c + 12, hc => exact mg_tableOut (tgt := 473) d_La_law_33 (Or.inr (by rw [nI_toInt (by omega)]; omega)) (by decide) (next M q k j (by omega) (by omega) hP hM hI)
