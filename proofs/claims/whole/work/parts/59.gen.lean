/-! THE REFERENCE's generator -/
def rgA (n kd : Int32) : Bool := decide (¬ 20 ≤ n) && (decide (¬ kd < 0) && decide (¬ 6 ≤ kd))
def rgB (n kd a b : Int32) (g : Bool) : Bool := if kd = 0 then g && (isNr a && (isNr b && decide (a ≤ b))) else g && igB a n
def rgC (kd b : Int32) (g : Bool) : Bool := if kd = 1 then g && wiB b 0 9 else g
def rgD (n kd b : Int32) (g : Bool) : Bool := if kd = 2 ∨ kd = 3 then g && igB b n else g
def rgE (kd b : Int32) (g : Bool) : Bool := if kd = 4 then g && wiB b 0 1 else g
def rgF (kd b : Int32) (g : Bool) : Bool := if kd = 5 then g && isNr b else g
def rgG (n kd a b : Int32) : Bool := rgF kd b (rgE kd b (rgD n kd b (rgC kd b (rgB n kd a b (rgA n kd)))))

set_option maxHeartbeats 4000000 in
set_option maxRecDepth 100000 in
theorem sg_A {X : mg_X} {M : mg_M} {si : Nat → Int32} {x s : Int64} {Q : State → Prop} {kd a b : Int32}  (hR : mg_R X = { frames := 1, cells := 0, slots := 0, locals := 22 }) (hO : M 1000 = some (moE si x s))  (kk : mg_G X Y_Mo_generator Q M 0 0 31 [some (.ref 1000), some (.int kd), some (.int a), some (.int b), some (.int (bI (rgA (si 1) kd))), none] []) : mg_G X Y_Mo_generator Q M 0 0 5 [some (.ref 1000), some (.int kd), some (.int a), some (.int b), none, none] [] := by
  first | refine mg_aload_n d_Mo_generator_5 rfl rfl ?_ | refine mg_aload_nN d_Mo_generator_5 rfl rfl ?_
  refine mg_getfield fl_Mo_83 d_Mo_generator_6 (by first | assumption | exact mg_up_s _ _ _ | (rw [mg_up_n _ _ (by decide)]; first | assumption | exact mg_up_s _ _ _ | (rw [mg_up_n _ _ (by decide)]; first | assumption | exact mg_up_s _ _ _ | (rw [mg_up_n _ _ (by decide)]; first | assumption | exact mg_up_s _ _ _ | (rw [mg_up_n _ _ (by decide)]; first | assumption | exact mg_up_s _ _ _ | (rw [mg_up_n _ _ (by decide)]; first | assumption | exact mg_up_s _ _ _ | (rw [mg_up_n _ _ (by decide)]; first | assumption | exact mg_up_s _ _ _))))))) rfl ?_
  refine mg_bipush (v := 20) d_Mo_generator_9 (by decide) ?_
  refine mg_icmp_ge (tgt := 28) d_Mo_generator_11 (by decide) (fun c_11 => ?_) (fun c_11 => ?_)
  · have eG : (0 : Int32) = bI (rgA (si 1) kd) := by rw [rgA, decide_eq_false (fun e => e c_11)]; rfl
    refine mg_iconst (v := 0) d_Mo_generator_28 (by decide) ?_
    refine mg_eqi eG ?_
    refine mg_istore d_Mo_generator_29 (Nat.le_of_ble_eq_true rfl) rfl ?_
    exact kk
  · refine mg_iload_n d_Mo_generator_14 rfl rfl ?_
    refine mg_if_lt (tgt := 28) d_Mo_generator_15 (by decide) (fun c_15 => ?_) (fun c_15 => ?_)
    · have eG : (0 : Int32) = bI (rgA (si 1) kd) := by rw [rgA, decide_eq_false (show ¬ ¬ kd < 0 from fun e => e c_15), Bool.false_and, Bool.and_false]; rfl
      refine mg_iconst (v := 0) d_Mo_generator_28 (by decide) ?_
      refine mg_eqi eG ?_
      refine mg_istore d_Mo_generator_29 (Nat.le_of_ble_eq_true rfl) rfl ?_
      exact kk
    · refine mg_iload_n d_Mo_generator_18 rfl rfl ?_
      refine mg_bipush (v := 6) d_Mo_generator_19 (by decide) ?_
      refine mg_icmp_ge (tgt := 28) d_Mo_generator_21 (by decide) (fun c_21 => ?_) (fun c_21 => ?_)
      · have eG : (0 : Int32) = bI (rgA (si 1) kd) := by rw [rgA, decide_eq_false (show ¬ ¬ 6 ≤ kd from fun e => e c_21), Bool.and_false, Bool.and_false]; rfl
        refine mg_iconst (v := 0) d_Mo_generator_28 (by decide) ?_
        refine mg_eqi eG ?_
        refine mg_istore d_Mo_generator_29 (Nat.le_of_ble_eq_true rfl) rfl ?_
        exact kk
      · have eG : (1 : Int32) = bI (rgA (si 1) kd) := by rw [rgA, decide_eq_true c_11, decide_eq_true c_15, decide_eq_true c_21]; rfl
        refine mg_iconst (v := 1) d_Mo_generator_24 (by decide) ?_
        refine mg_goto (tgt := 29) d_Mo_generator_25 (by decide) ?_
        refine mg_eqi eG ?_
        refine mg_istore d_Mo_generator_29 (Nat.le_of_ble_eq_true rfl) rfl ?_
        exact kk

set_option maxHeartbeats 4000000 in
set_option maxRecDepth 100000 in
theorem sg_B0 {X : mg_X} {M : mg_M} {si : Nat → Int32} {x s : Int64} {Q : State → Prop} {kd a b : Int32} {g : Bool} (hR : mg_R X = { frames := 1, cells := 0, slots := 0, locals := 22 }) (hO : M 1000 = some (moE si x s)) (hk : kd = 0) (kk : mg_G X Y_Mo_generator Q M 0 0 101 [some (.ref 1000), some (.int kd), some (.int a), some (.int b), some (.int (bI (rgB (si 1) kd a b g))), none] []) : mg_G X Y_Mo_generator Q M 0 0 31 [some (.ref 1000), some (.int kd), some (.int a), some (.int b), some (.int (bI g)), none] [] := by
  refine mg_iload_n d_Mo_generator_31 rfl rfl ?_
  refine mg_if_ne (tgt := 81) d_Mo_generator_32 (by decide) (fun c_32 => ?_) (fun c_32 => ?_)
  · exact absurd hk c_32
  · refine mg_iload d_Mo_generator_35 rfl ?_
    refine mg_if_eq (tgt := 75) d_Mo_generator_37 (by decide) (fun c_37 => ?_) (fun c_37 => ?_)
    · have gv : g = false := bI_f (by first | exact c_37 | exact Decidable.not_not.mp c_37)
      have eG : (0 : Int32) = bI (rgB (si 1) kd a b g) := by rw [rgB, if_pos hk, gv]; rfl
      refine mg_iconst (v := 0) d_Mo_generator_75 (by decide) ?_
      refine mg_eqi eG ?_
      refine mg_istore d_Mo_generator_76 (Nat.le_of_ble_eq_true rfl) rfl ?_
      refine mg_goto (tgt := 101) d_Mo_generator_78 (by decide) ?_
      exact kk
    · have gv : g = true := bI_t c_37
      refine mg_iload_n d_Mo_generator_40 rfl rfl ?_
      refine mg_sipush (v := -1000) d_Mo_generator_41 (by decide) ?_
      refine mg_sipush (v := 1000) d_Mo_generator_44 (by decide) ?_
      refine mg_callS (sl_Mo_86 rfl) d_Mo_generator_47 (c_Mo_isWithin (lo := (-1000)) (hi := 1000)) rfl rfl (by rw [hR]; decide) (by rw [hR]; decide) (Nat.le_of_ble_eq_true rfl) ?_
      rintro v M1 ⟨rfl, rfl⟩
      refine mg_if_eq (tgt := 75) d_Mo_generator_50 (by decide) (fun c_50 => ?_) (fun c_50 => ?_)
      · have v1 : isNr a = false := bI_f (by first | exact c_50 | exact Decidable.not_not.mp c_50)
        have eG : (0 : Int32) = bI (rgB (si 1) kd a b g) := by rw [rgB, if_pos hk, v1, Bool.false_and, Bool.and_false]; rfl
        refine mg_iconst (v := 0) d_Mo_generator_75 (by decide) ?_
        refine mg_eqi eG ?_
        refine mg_istore d_Mo_generator_76 (Nat.le_of_ble_eq_true rfl) rfl ?_
        refine mg_goto (tgt := 101) d_Mo_generator_78 (by decide) ?_
        exact kk
      · have v1 : isNr a = true := bI_t c_50
        refine mg_iload_n d_Mo_generator_53 rfl rfl ?_
        refine mg_sipush (v := -1000) d_Mo_generator_54 (by decide) ?_
        refine mg_sipush (v := 1000) d_Mo_generator_57 (by decide) ?_
        refine mg_callS (sl_Mo_86 rfl) d_Mo_generator_60 (c_Mo_isWithin (lo := (-1000)) (hi := 1000)) rfl rfl (by rw [hR]; decide) (by rw [hR]; decide) (Nat.le_of_ble_eq_true rfl) ?_
        rintro v M1 ⟨rfl, rfl⟩
        refine mg_if_eq (tgt := 75) d_Mo_generator_63 (by decide) (fun c_63 => ?_) (fun c_63 => ?_)
        · have v2 : isNr b = false := bI_f (by first | exact c_63 | exact Decidable.not_not.mp c_63)
          have eG : (0 : Int32) = bI (rgB (si 1) kd a b g) := by rw [rgB, if_pos hk, v2, Bool.false_and, Bool.and_false, Bool.and_false]; rfl
          refine mg_iconst (v := 0) d_Mo_generator_75 (by decide) ?_
          refine mg_eqi eG ?_
          refine mg_istore d_Mo_generator_76 (Nat.le_of_ble_eq_true rfl) rfl ?_
          refine mg_goto (tgt := 101) d_Mo_generator_78 (by decide) ?_
          exact kk
        · have v2 : isNr b = true := bI_t c_63
          refine mg_iload_n d_Mo_generator_66 rfl rfl ?_
          refine mg_iload_n d_Mo_generator_67 rfl rfl ?_
          refine mg_icmp_gt (tgt := 75) d_Mo_generator_68 (by decide) (fun c_68 => ?_) (fun c_68 => ?_)
          · have eG : (0 : Int32) = bI (rgB (si 1) kd a b g) := by rw [rgB, if_pos hk, decide_eq_false (Int32.not_le.mpr c_68), Bool.and_false, Bool.and_false, Bool.and_false]; rfl
            refine mg_iconst (v := 0) d_Mo_generator_75 (by decide) ?_
            refine mg_eqi eG ?_
            refine mg_istore d_Mo_generator_76 (Nat.le_of_ble_eq_true rfl) rfl ?_
            refine mg_goto (tgt := 101) d_Mo_generator_78 (by decide) ?_
            exact kk
          · have eG : (1 : Int32) = bI (rgB (si 1) kd a b g) := by rw [rgB, if_pos hk, gv, v1, v2, decide_eq_true (Int32.not_lt.mp c_68)]; rfl
            refine mg_iconst (v := 1) d_Mo_generator_71 (by decide) ?_
            refine mg_goto (tgt := 76) d_Mo_generator_72 (by decide) ?_
            refine mg_eqi eG ?_
            refine mg_istore d_Mo_generator_76 (Nat.le_of_ble_eq_true rfl) rfl ?_
            refine mg_goto (tgt := 101) d_Mo_generator_78 (by decide) ?_
            exact kk

set_option maxHeartbeats 4000000 in
set_option maxRecDepth 100000 in
theorem sg_B1 {X : mg_X} {M : mg_M} {si : Nat → Int32} {x s : Int64} {Q : State → Prop} {kd a b : Int32} {g : Bool} (hR : mg_R X = { frames := 1, cells := 0, slots := 0, locals := 22 }) (hO : M 1000 = some (moE si x s)) (hk : ¬ kd = 0) (kk : mg_G X Y_Mo_generator Q M 0 0 101 [some (.ref 1000), some (.int kd), some (.int a), some (.int b), some (.int (bI (rgB (si 1) kd a b g))), none] []) : mg_G X Y_Mo_generator Q M 0 0 31 [some (.ref 1000), some (.int kd), some (.int a), some (.int b), some (.int (bI g)), none] [] := by
  refine mg_iload_n d_Mo_generator_31 rfl rfl ?_
  refine mg_if_ne (tgt := 81) d_Mo_generator_32 (by decide) (fun c_32 => ?_) (fun c_32 => ?_)
  · refine mg_iload d_Mo_generator_81 rfl ?_
    refine mg_if_eq (tgt := 98) d_Mo_generator_83 (by decide) (fun c_83 => ?_) (fun c_83 => ?_)
    · have gv : g = false := bI_f (by first | exact c_83 | exact Decidable.not_not.mp c_83)
      have eG : (0 : Int32) = bI (rgB (si 1) kd a b g) := by rw [rgB, if_neg hk, gv]; rfl
      refine mg_iconst (v := 0) d_Mo_generator_98 (by decide) ?_
      refine mg_eqi eG ?_
      refine mg_istore d_Mo_generator_99 (Nat.le_of_ble_eq_true rfl) rfl ?_
      exact kk
    · have gv : g = true := bI_t c_83
      first | refine mg_aload_n d_Mo_generator_86 rfl rfl ?_ | refine mg_aload_nN d_Mo_generator_86 rfl rfl ?_
      refine mg_iload_n d_Mo_generator_87 rfl rfl ?_
      refine mg_callV (vl_Mo_90 rfl) d_Mo_generator_88 (by first | assumption | exact mg_up_s _ _ _ | (rw [mg_up_n _ _ (by decide)]; first | assumption | exact mg_up_s _ _ _ | (rw [mg_up_n _ _ (by decide)]; first | assumption | exact mg_up_s _ _ _ | (rw [mg_up_n _ _ (by decide)]; first | assumption | exact mg_up_s _ _ _ | (rw [mg_up_n _ _ (by decide)]; first | assumption | exact mg_up_s _ _ _ | (rw [mg_up_n _ _ (by decide)]; first | assumption | exact mg_up_s _ _ _ | (rw [mg_up_n _ _ (by decide)]; first | assumption | exact mg_up_s _ _ _))))))) rfl rfl (c_Mo_isGenerator hO) rfl rfl (by rw [hR]; decide) (by rw [hR]; decide) (Nat.le_of_ble_eq_true rfl) ?_
      rintro v M1 ⟨rfl, rfl⟩
      refine mg_if_eq (tgt := 98) d_Mo_generator_91 (by decide) (fun c_91 => ?_) (fun c_91 => ?_)
      · have v1 : igB a (si 1) = false := bI_f (by first | exact c_91 | exact Decidable.not_not.mp c_91)
        have eG : (0 : Int32) = bI (rgB (si 1) kd a b g) := by rw [rgB, if_neg hk, v1, Bool.and_false]; rfl
        refine mg_iconst (v := 0) d_Mo_generator_98 (by decide) ?_
        refine mg_eqi eG ?_
        refine mg_istore d_Mo_generator_99 (Nat.le_of_ble_eq_true rfl) rfl ?_
        exact kk
      · have v1 : igB a (si 1) = true := bI_t c_91
        have eG : (1 : Int32) = bI (rgB (si 1) kd a b g) := by rw [rgB, if_neg hk, gv, v1]; rfl
        refine mg_iconst (v := 1) d_Mo_generator_94 (by decide) ?_
        refine mg_goto (tgt := 99) d_Mo_generator_95 (by decide) ?_
        refine mg_eqi eG ?_
        refine mg_istore d_Mo_generator_99 (Nat.le_of_ble_eq_true rfl) rfl ?_
        exact kk
  · exact absurd (by first | exact c_32 | exact Decidable.not_not.mp c_32) hk

set_option maxHeartbeats 4000000 in
set_option maxRecDepth 100000 in
theorem sg_C {X : mg_X} {M : mg_M} {si : Nat → Int32} {x s : Int64} {Q : State → Prop} {kd a b : Int32} {g : Bool} (hR : mg_R X = { frames := 1, cells := 0, slots := 0, locals := 22 }) (hO : M 1000 = some (moE si x s))  (kk : mg_G X Y_Mo_generator Q M 0 0 128 [some (.ref 1000), some (.int kd), some (.int a), some (.int b), some (.int (bI (rgC kd b g))), none] []) : mg_G X Y_Mo_generator Q M 0 0 101 [some (.ref 1000), some (.int kd), some (.int a), some (.int b), some (.int (bI g)), none] [] := by
  refine mg_iload_n d_Mo_generator_101 rfl rfl ?_
  refine mg_iconst (v := 1) d_Mo_generator_102 (by decide) ?_
  refine mg_icmp_ne (tgt := 128) d_Mo_generator_103 (by decide) (fun c_103 => ?_) (fun c_103 => ?_)
  · have e : (rgC kd b g) = g := by rw [rgC, if_neg c_103]
    rw [e] at kk
    exact kk
  · have hk : kd = 1 := (by first | exact c_103 | exact Decidable.not_not.mp c_103)
    refine mg_iload d_Mo_generator_106 rfl ?_
    refine mg_if_eq (tgt := 125) d_Mo_generator_108 (by decide) (fun c_108 => ?_) (fun c_108 => ?_)
    · have gv : g = false := bI_f (by first | exact c_108 | exact Decidable.not_not.mp c_108)
      have eG : (0 : Int32) = bI (rgC kd b g) := by rw [rgC, if_pos hk, gv]; rfl
      refine mg_iconst (v := 0) d_Mo_generator_125 (by decide) ?_
      refine mg_eqi eG ?_
      refine mg_istore d_Mo_generator_126 (Nat.le_of_ble_eq_true rfl) rfl ?_
      exact kk
    · have gv : g = true := bI_t c_108
      refine mg_iload_n d_Mo_generator_111 rfl rfl ?_
      refine mg_iconst (v := 0) d_Mo_generator_112 (by decide) ?_
      refine mg_bipush (v := 9) d_Mo_generator_113 (by decide) ?_
      refine mg_callS (sl_Mo_86 rfl) d_Mo_generator_115 (c_Mo_isWithin (lo := 0) (hi := 9)) rfl rfl (by rw [hR]; decide) (by rw [hR]; decide) (Nat.le_of_ble_eq_true rfl) ?_
      rintro v M1 ⟨rfl, rfl⟩
      refine mg_if_eq (tgt := 125) d_Mo_generator_118 (by decide) (fun c_118 => ?_) (fun c_118 => ?_)
      · have v1 : wiB b 0 9 = false := bI_f (by first | exact c_118 | exact Decidable.not_not.mp c_118)
        have eG : (0 : Int32) = bI (rgC kd b g) := by rw [rgC, if_pos hk, v1, Bool.and_false]; rfl
        refine mg_iconst (v := 0) d_Mo_generator_125 (by decide) ?_
        refine mg_eqi eG ?_
        refine mg_istore d_Mo_generator_126 (Nat.le_of_ble_eq_true rfl) rfl ?_
        exact kk
      · have v1 : wiB b 0 9 = true := bI_t c_118
        have eG : (1 : Int32) = bI (rgC kd b g) := by rw [rgC, if_pos hk, gv, v1]; rfl
        refine mg_iconst (v := 1) d_Mo_generator_121 (by decide) ?_
        refine mg_goto (tgt := 126) d_Mo_generator_122 (by decide) ?_
        refine mg_eqi eG ?_
        refine mg_istore d_Mo_generator_126 (Nat.le_of_ble_eq_true rfl) rfl ?_
        exact kk

set_option maxHeartbeats 4000000 in
set_option maxRecDepth 100000 in
theorem sg_E {X : mg_X} {M : mg_M} {si : Nat → Int32} {x s : Int64} {Q : State → Prop} {kd a b : Int32} {g : Bool} (hR : mg_R X = { frames := 1, cells := 0, slots := 0, locals := 22 }) (hO : M 1000 = some (moE si x s))  (kk : mg_G X Y_Mo_generator Q M 0 0 184 [some (.ref 1000), some (.int kd), some (.int a), some (.int b), some (.int (bI (rgE kd b g))), none] []) : mg_G X Y_Mo_generator Q M 0 0 158 [some (.ref 1000), some (.int kd), some (.int a), some (.int b), some (.int (bI g)), none] [] := by
  refine mg_iload_n d_Mo_generator_158 rfl rfl ?_
  refine mg_iconst (v := 4) d_Mo_generator_159 (by decide) ?_
  refine mg_icmp_ne (tgt := 184) d_Mo_generator_160 (by decide) (fun c_160 => ?_) (fun c_160 => ?_)
  · have e : (rgE kd b g) = g := by rw [rgE, if_neg c_160]
    rw [e] at kk
    exact kk
  · have hk : kd = 4 := (by first | exact c_160 | exact Decidable.not_not.mp c_160)
    refine mg_iload d_Mo_generator_163 rfl ?_
    refine mg_if_eq (tgt := 181) d_Mo_generator_165 (by decide) (fun c_165 => ?_) (fun c_165 => ?_)
    · have gv : g = false := bI_f (by first | exact c_165 | exact Decidable.not_not.mp c_165)
      have eG : (0 : Int32) = bI (rgE kd b g) := by rw [rgE, if_pos hk, gv]; rfl
      refine mg_iconst (v := 0) d_Mo_generator_181 (by decide) ?_
      refine mg_eqi eG ?_
      refine mg_istore d_Mo_generator_182 (Nat.le_of_ble_eq_true rfl) rfl ?_
      exact kk
    · have gv : g = true := bI_t c_165
      refine mg_iload_n d_Mo_generator_168 rfl rfl ?_
      refine mg_iconst (v := 0) d_Mo_generator_169 (by decide) ?_
      refine mg_iconst (v := 1) d_Mo_generator_170 (by decide) ?_
      refine mg_callS (sl_Mo_86 rfl) d_Mo_generator_171 (c_Mo_isWithin (lo := 0) (hi := 1)) rfl rfl (by rw [hR]; decide) (by rw [hR]; decide) (Nat.le_of_ble_eq_true rfl) ?_
      rintro v M1 ⟨rfl, rfl⟩
      refine mg_if_eq (tgt := 181) d_Mo_generator_174 (by decide) (fun c_174 => ?_) (fun c_174 => ?_)
      · have v1 : wiB b 0 1 = false := bI_f (by first | exact c_174 | exact Decidable.not_not.mp c_174)
        have eG : (0 : Int32) = bI (rgE kd b g) := by rw [rgE, if_pos hk, v1, Bool.and_false]; rfl
        refine mg_iconst (v := 0) d_Mo_generator_181 (by decide) ?_
        refine mg_eqi eG ?_
        refine mg_istore d_Mo_generator_182 (Nat.le_of_ble_eq_true rfl) rfl ?_
        exact kk
      · have v1 : wiB b 0 1 = true := bI_t c_174
        have eG : (1 : Int32) = bI (rgE kd b g) := by rw [rgE, if_pos hk, gv, v1]; rfl
        refine mg_iconst (v := 1) d_Mo_generator_177 (by decide) ?_
        refine mg_goto (tgt := 182) d_Mo_generator_178 (by decide) ?_
        refine mg_eqi eG ?_
        refine mg_istore d_Mo_generator_182 (Nat.le_of_ble_eq_true rfl) rfl ?_
        exact kk

set_option maxHeartbeats 4000000 in
set_option maxRecDepth 100000 in
theorem sg_F {X : mg_X} {M : mg_M} {si : Nat → Int32} {x s : Int64} {Q : State → Prop} {kd a b : Int32} {g : Bool} (hR : mg_R X = { frames := 1, cells := 0, slots := 0, locals := 22 }) (hO : M 1000 = some (moE si x s))  (kk : mg_G X Y_Mo_generator Q M 0 0 214 [some (.ref 1000), some (.int kd), some (.int a), some (.int b), some (.int (bI (rgF kd b g))), none] []) : mg_G X Y_Mo_generator Q M 0 0 184 [some (.ref 1000), some (.int kd), some (.int a), some (.int b), some (.int (bI g)), none] [] := by
  refine mg_iload_n d_Mo_generator_184 rfl rfl ?_
  refine mg_iconst (v := 5) d_Mo_generator_185 (by decide) ?_
  refine mg_icmp_ne (tgt := 214) d_Mo_generator_186 (by decide) (fun c_186 => ?_) (fun c_186 => ?_)
  · have e : (rgF kd b g) = g := by rw [rgF, if_neg c_186]
    rw [e] at kk
    exact kk
  · have hk : kd = 5 := (by first | exact c_186 | exact Decidable.not_not.mp c_186)
    refine mg_iload d_Mo_generator_189 rfl ?_
    refine mg_if_eq (tgt := 211) d_Mo_generator_191 (by decide) (fun c_191 => ?_) (fun c_191 => ?_)
    · have gv : g = false := bI_f (by first | exact c_191 | exact Decidable.not_not.mp c_191)
      have eG : (0 : Int32) = bI (rgF kd b g) := by rw [rgF, if_pos hk, gv]; rfl
      refine mg_iconst (v := 0) d_Mo_generator_211 (by decide) ?_
      refine mg_eqi eG ?_
      refine mg_istore d_Mo_generator_212 (Nat.le_of_ble_eq_true rfl) rfl ?_
      exact kk
    · have gv : g = true := bI_t c_191
      refine mg_iload_n d_Mo_generator_194 rfl rfl ?_
      refine mg_sipush (v := -1000) d_Mo_generator_195 (by decide) ?_
      refine mg_sipush (v := 1000) d_Mo_generator_198 (by decide) ?_
      refine mg_callS (sl_Mo_86 rfl) d_Mo_generator_201 (c_Mo_isWithin (lo := (-1000)) (hi := 1000)) rfl rfl (by rw [hR]; decide) (by rw [hR]; decide) (Nat.le_of_ble_eq_true rfl) ?_
      rintro v M1 ⟨rfl, rfl⟩
      refine mg_if_eq (tgt := 211) d_Mo_generator_204 (by decide) (fun c_204 => ?_) (fun c_204 => ?_)
      · have v1 : isNr b = false := bI_f (by first | exact c_204 | exact Decidable.not_not.mp c_204)
        have eG : (0 : Int32) = bI (rgF kd b g) := by rw [rgF, if_pos hk, v1, Bool.and_false]; rfl
        refine mg_iconst (v := 0) d_Mo_generator_211 (by decide) ?_
        refine mg_eqi eG ?_
        refine mg_istore d_Mo_generator_212 (Nat.le_of_ble_eq_true rfl) rfl ?_
        exact kk
      · have v1 : isNr b = true := bI_t c_204
        have eG : (1 : Int32) = bI (rgF kd b g) := by rw [rgF, if_pos hk, gv, v1]; rfl
        refine mg_iconst (v := 1) d_Mo_generator_207 (by decide) ?_
        refine mg_goto (tgt := 212) d_Mo_generator_208 (by decide) ?_
        refine mg_eqi eG ?_
        refine mg_istore d_Mo_generator_212 (Nat.le_of_ble_eq_true rfl) rfl ?_
        exact kk

set_option maxHeartbeats 4000000 in
set_option maxRecDepth 100000 in
theorem sg_D {X : mg_X} {M : mg_M} {si : Nat → Int32} {x s : Int64} {Q : State → Prop} {kd a b : Int32} {g : Bool} (hR : mg_R X = { frames := 1, cells := 0, slots := 0, locals := 22 }) (hO : M 1000 = some (moE si x s))  (kk : mg_G X Y_Mo_generator Q M 0 0 158 [some (.ref 1000), some (.int kd), some (.int a), some (.int b), some (.int (bI (rgD (si 1) kd b g))), none] []) : mg_G X Y_Mo_generator Q M 0 0 128 [some (.ref 1000), some (.int kd), some (.int a), some (.int b), some (.int (bI g)), none] [] := by
  refine mg_iload_n d_Mo_generator_128 rfl rfl ?_
  refine mg_iconst (v := 2) d_Mo_generator_129 (by decide) ?_
  refine mg_icmp_eq (tgt := 138) d_Mo_generator_130 (by decide) (fun c_130 => ?_) (fun c_130 => ?_)
  · have hk : kd = 2 ∨ kd = 3 := Or.inl c_130
    refine mg_iload d_Mo_generator_138 rfl ?_
    refine mg_if_eq (tgt := 155) d_Mo_generator_140 (by decide) (fun c_140 => ?_) (fun c_140 => ?_)
    · have gv : g = false := bI_f (by first | exact c_140 | exact Decidable.not_not.mp c_140)
      have eG : (0 : Int32) = bI (rgD (si 1) kd b g) := by rw [rgD, if_pos hk, gv]; rfl
      refine mg_iconst (v := 0) d_Mo_generator_155 (by decide) ?_
      refine mg_eqi eG ?_
      refine mg_istore d_Mo_generator_156 (Nat.le_of_ble_eq_true rfl) rfl ?_
      exact kk
    · have gv : g = true := bI_t c_140
      first | refine mg_aload_n d_Mo_generator_143 rfl rfl ?_ | refine mg_aload_nN d_Mo_generator_143 rfl rfl ?_
      refine mg_iload_n d_Mo_generator_144 rfl rfl ?_
      refine mg_callV (vl_Mo_90 rfl) d_Mo_generator_145 (by first | assumption | exact mg_up_s _ _ _ | (rw [mg_up_n _ _ (by decide)]; first | assumption | exact mg_up_s _ _ _ | (rw [mg_up_n _ _ (by decide)]; first | assumption | exact mg_up_s _ _ _ | (rw [mg_up_n _ _ (by decide)]; first | assumption | exact mg_up_s _ _ _ | (rw [mg_up_n _ _ (by decide)]; first | assumption | exact mg_up_s _ _ _ | (rw [mg_up_n _ _ (by decide)]; first | assumption | exact mg_up_s _ _ _ | (rw [mg_up_n _ _ (by decide)]; first | assumption | exact mg_up_s _ _ _))))))) rfl rfl (c_Mo_isGenerator hO) rfl rfl (by rw [hR]; decide) (by rw [hR]; decide) (Nat.le_of_ble_eq_true rfl) ?_
      rintro v M1 ⟨rfl, rfl⟩
      refine mg_if_eq (tgt := 155) d_Mo_generator_148 (by decide) (fun c_148 => ?_) (fun c_148 => ?_)
      · have v1 : igB b (si 1) = false := bI_f (by first | exact c_148 | exact Decidable.not_not.mp c_148)
        have eG : (0 : Int32) = bI (rgD (si 1) kd b g) := by rw [rgD, if_pos hk, v1, Bool.and_false]; rfl
        refine mg_iconst (v := 0) d_Mo_generator_155 (by decide) ?_
        refine mg_eqi eG ?_
        refine mg_istore d_Mo_generator_156 (Nat.le_of_ble_eq_true rfl) rfl ?_
        exact kk
      · have v1 : igB b (si 1) = true := bI_t c_148
        have eG : (1 : Int32) = bI (rgD (si 1) kd b g) := by rw [rgD, if_pos hk, gv, v1]; rfl
        refine mg_iconst (v := 1) d_Mo_generator_151 (by decide) ?_
        refine mg_goto (tgt := 156) d_Mo_generator_152 (by decide) ?_
        refine mg_eqi eG ?_
        refine mg_istore d_Mo_generator_156 (Nat.le_of_ble_eq_true rfl) rfl ?_
        exact kk
  · refine mg_iload_n d_Mo_generator_133 rfl rfl ?_
    refine mg_iconst (v := 3) d_Mo_generator_134 (by decide) ?_
    refine mg_icmp_ne (tgt := 158) d_Mo_generator_135 (by decide) (fun c_135 => ?_) (fun c_135 => ?_)
    · have e : (rgD (si 1) kd b g) = g := by rw [rgD, if_neg (fun e => e.elim c_130 c_135)]
      rw [e] at kk
      exact kk
    · have hk : kd = 2 ∨ kd = 3 := Or.inr (by first | exact c_135 | exact Decidable.not_not.mp c_135)
      refine mg_iload d_Mo_generator_138 rfl ?_
      refine mg_if_eq (tgt := 155) d_Mo_generator_140 (by decide) (fun c_140 => ?_) (fun c_140 => ?_)
      · have gv : g = false := bI_f (by first | exact c_140 | exact Decidable.not_not.mp c_140)
        have eG : (0 : Int32) = bI (rgD (si 1) kd b g) := by rw [rgD, if_pos hk, gv]; rfl
        refine mg_iconst (v := 0) d_Mo_generator_155 (by decide) ?_
        refine mg_eqi eG ?_
        refine mg_istore d_Mo_generator_156 (Nat.le_of_ble_eq_true rfl) rfl ?_
        exact kk
      · have gv : g = true := bI_t c_140
        first | refine mg_aload_n d_Mo_generator_143 rfl rfl ?_ | refine mg_aload_nN d_Mo_generator_143 rfl rfl ?_
        refine mg_iload_n d_Mo_generator_144 rfl rfl ?_
        refine mg_callV (vl_Mo_90 rfl) d_Mo_generator_145 (by first | assumption | exact mg_up_s _ _ _ | (rw [mg_up_n _ _ (by decide)]; first | assumption | exact mg_up_s _ _ _ | (rw [mg_up_n _ _ (by decide)]; first | assumption | exact mg_up_s _ _ _ | (rw [mg_up_n _ _ (by decide)]; first | assumption | exact mg_up_s _ _ _ | (rw [mg_up_n _ _ (by decide)]; first | assumption | exact mg_up_s _ _ _ | (rw [mg_up_n _ _ (by decide)]; first | assumption | exact mg_up_s _ _ _ | (rw [mg_up_n _ _ (by decide)]; first | assumption | exact mg_up_s _ _ _))))))) rfl rfl (c_Mo_isGenerator hO) rfl rfl (by rw [hR]; decide) (by rw [hR]; decide) (Nat.le_of_ble_eq_true rfl) ?_
        rintro v M1 ⟨rfl, rfl⟩
        refine mg_if_eq (tgt := 155) d_Mo_generator_148 (by decide) (fun c_148 => ?_) (fun c_148 => ?_)
        · have v1 : igB b (si 1) = false := bI_f (by first | exact c_148 | exact Decidable.not_not.mp c_148)
          have eG : (0 : Int32) = bI (rgD (si 1) kd b g) := by rw [rgD, if_pos hk, v1, Bool.and_false]; rfl
          refine mg_iconst (v := 0) d_Mo_generator_155 (by decide) ?_
          refine mg_eqi eG ?_
          refine mg_istore d_Mo_generator_156 (Nat.le_of_ble_eq_true rfl) rfl ?_
          exact kk
        · have v1 : igB b (si 1) = true := bI_t c_148
          have eG : (1 : Int32) = bI (rgD (si 1) kd b g) := by rw [rgD, if_pos hk, gv, v1]; rfl
          refine mg_iconst (v := 1) d_Mo_generator_151 (by decide) ?_
          refine mg_goto (tgt := 156) d_Mo_generator_152 (by decide) ?_
          refine mg_eqi eG ?_
          refine mg_istore d_Mo_generator_156 (Nat.le_of_ble_eq_true rfl) rfl ?_
          exact kk

set_option maxHeartbeats 4000000 in
set_option maxRecDepth 100000 in
theorem sg_G1 {X : mg_X} {M : mg_M} {si : Nat → Int32} {x s : Int64} {Q : State → Prop} {kd a b : Int32} {gs : List gN} {t4 : Int32} {d1 : Nat} (hO : M 1000 = some (moE si x s)) (f4 : Nat → Int32) (hf4 : M 1004 = some (iaE 20 f4)) (hge : ∀ (i : Nat) (g : gN), gs[i]? = some g → f4 i = nI g.2.2.2) (h20 : gs.length ≤ 20) (hd : (kd = 0 ∧ d1 = 0) ∨ (¬ kd = 0 ∧ ∃ ja ga, a = nI ja ∧ gs[ja]? = some ga ∧ d1 = ga.2.2.2)) (kk : mg_G X Y_Mo_generator Q M 0 0 237 [some (.ref 1000), some (.int kd), some (.int a), some (.int b), some (.int t4), some (.int (nI d1))] []) : mg_G X Y_Mo_generator Q M 0 0 221 [some (.ref 1000), some (.int kd), some (.int a), some (.int b), some (.int t4), none] [] := by
  refine mg_iload_n d_Mo_generator_221 rfl rfl ?_
  refine mg_if_ne (tgt := 229) d_Mo_generator_222 (by decide) (fun c_222 => ?_) (fun c_222 => ?_)
  · obtain ⟨-, ja, ga, rfl, hga, e0⟩ := hd.resolve_left (fun e => c_222 e.1)
    have hja : ja < 20 := Nat.lt_of_lt_of_le (List.getElem?_eq_some_iff.mp hga).1 h20
    have hin : vp_in (nI ja) 20 := vp_in_nI hja (by decide)
    have e1 : f4 (nI ja).toNatClampNeg = nI d1 := by rw [nI_clamp (by omega), hge ja ga hga, e0]
    first | refine mg_aload_n d_Mo_generator_229 rfl rfl ?_ | refine mg_aload_nN d_Mo_generator_229 rfl rfl ?_
    refine mg_getfield fl_Mo_19 d_Mo_generator_230 (by first | assumption | exact mg_up_s _ _ _ | (rw [mg_up_n _ _ (by decide)]; first | assumption | exact mg_up_s _ _ _ | (rw [mg_up_n _ _ (by decide)]; first | assumption | exact mg_up_s _ _ _ | (rw [mg_up_n _ _ (by decide)]; first | assumption | exact mg_up_s _ _ _ | (rw [mg_up_n _ _ (by decide)]; first | assumption | exact mg_up_s _ _ _ | (rw [mg_up_n _ _ (by decide)]; first | assumption | exact mg_up_s _ _ _ | (rw [mg_up_n _ _ (by decide)]; first | assumption | exact mg_up_s _ _ _))))))) rfl ?_
    refine mg_iload_n d_Mo_generator_233 rfl rfl ?_
    refine mg_iaload rfl d_Mo_generator_234 (by first | assumption | exact mg_up_s _ _ _ | (rw [mg_up_n _ _ (by decide)]; first | assumption | exact mg_up_s _ _ _ | (rw [mg_up_n _ _ (by decide)]; first | assumption | exact mg_up_s _ _ _ | (rw [mg_up_n _ _ (by decide)]; first | assumption | exact mg_up_s _ _ _ | (rw [mg_up_n _ _ (by decide)]; first | assumption | exact mg_up_s _ _ _ | (rw [mg_up_n _ _ (by decide)]; first | assumption | exact mg_up_s _ _ _ | (rw [mg_up_n _ _ (by decide)]; first | assumption | exact mg_up_s _ _ _))))))) (by assumption) ?_
    refine mg_eqi e1 ?_
    refine mg_istore d_Mo_generator_235 (Nat.le_of_ble_eq_true rfl) rfl ?_
    exact kk
  · have e1 : (0 : Int32) = nI d1 := by rw [(hd.resolve_right (fun e => e.1 (by first | exact c_222 | exact Decidable.not_not.mp c_222))).2]; rfl
    refine mg_iconst (v := 0) d_Mo_generator_225 (by decide) ?_
    refine mg_goto (tgt := 235) d_Mo_generator_226 (by decide) ?_
    refine mg_eqi e1 ?_
    refine mg_istore d_Mo_generator_235 (Nat.le_of_ble_eq_true rfl) rfl ?_
    exact kk

set_option maxHeartbeats 4000000 in
set_option maxRecDepth 100000 in
theorem sg_G2 {X : mg_X} {M : mg_M} {si : Nat → Int32} {x s : Int64} {Q : State → Prop} {kd a b : Int32} {gs : List gN} {t4 : Int32} {d1 d2 : Nat} (hO : M 1000 = some (moE si x s)) (f4 : Nat → Int32) (hf4 : M 1004 = some (iaE 20 f4)) (hge : ∀ (i : Nat) (g : gN), gs[i]? = some g → f4 i = nI g.2.2.2) (h20 : gs.length ≤ 20) (hg8 : ∀ (i : Nat) (g : gN), gs[i]? = some g → g.2.2.2 ≤ 8) (h1 : d1 ≤ 8) (hd : ((kd = 2 ∨ kd = 3) ∧ ∃ jb gb, b = nI jb ∧ gs[jb]? = some gb ∧ d2 = max d1 gb.2.2.2) ∨ (¬ (kd = 2 ∨ kd = 3) ∧ d2 = d1)) (kk : mg_G X Y_Mo_generator Q M 0 0 271 [some (.ref 1000), some (.int kd), some (.int a), some (.int b), some (.int t4), some (.int (nI d2))] []) : mg_G X Y_Mo_generator Q M 0 0 237 [some (.ref 1000), some (.int kd), some (.int a), some (.int b), some (.int t4), some (.int (nI d1))] [] := by
  refine mg_iload_n d_Mo_generator_237 rfl rfl ?_
  refine mg_iconst (v := 2) d_Mo_generator_238 (by decide) ?_
  refine mg_icmp_eq (tgt := 247) d_Mo_generator_239 (by decide) (fun c_239 => ?_) (fun c_239 => ?_)
  · obtain ⟨-, jb, gb, rfl, hgb, e0⟩ := hd.resolve_right (fun e => e.1 (Or.inl c_239))
    have hdb : gb.2.2.2 ≤ 8 := hg8 jb gb hgb
    have hjb : jb < 20 := Nat.lt_of_lt_of_le (List.getElem?_eq_some_iff.mp hgb).1 h20
    have hin : vp_in (nI jb) 20 := vp_in_nI hjb (by decide)
    have e1 : f4 (nI jb).toNatClampNeg = nI gb.2.2.2 := by rw [nI_clamp (by omega), hge jb gb hgb]
    first | refine mg_aload_n d_Mo_generator_247 rfl rfl ?_ | refine mg_aload_nN d_Mo_generator_247 rfl rfl ?_
    refine mg_getfield fl_Mo_19 d_Mo_generator_248 (by first | assumption | exact mg_up_s _ _ _ | (rw [mg_up_n _ _ (by decide)]; first | assumption | exact mg_up_s _ _ _ | (rw [mg_up_n _ _ (by decide)]; first | assumption | exact mg_up_s _ _ _ | (rw [mg_up_n _ _ (by decide)]; first | assumption | exact mg_up_s _ _ _ | (rw [mg_up_n _ _ (by decide)]; first | assumption | exact mg_up_s _ _ _ | (rw [mg_up_n _ _ (by decide)]; first | assumption | exact mg_up_s _ _ _ | (rw [mg_up_n _ _ (by decide)]; first | assumption | exact mg_up_s _ _ _))))))) rfl ?_
    refine mg_iload_n d_Mo_generator_251 rfl rfl ?_
    refine mg_iaload rfl d_Mo_generator_252 (by first | assumption | exact mg_up_s _ _ _ | (rw [mg_up_n _ _ (by decide)]; first | assumption | exact mg_up_s _ _ _ | (rw [mg_up_n _ _ (by decide)]; first | assumption | exact mg_up_s _ _ _ | (rw [mg_up_n _ _ (by decide)]; first | assumption | exact mg_up_s _ _ _ | (rw [mg_up_n _ _ (by decide)]; first | assumption | exact mg_up_s _ _ _ | (rw [mg_up_n _ _ (by decide)]; first | assumption | exact mg_up_s _ _ _ | (rw [mg_up_n _ _ (by decide)]; first | assumption | exact mg_up_s _ _ _))))))) (by assumption) ?_
    refine mg_eqi e1 ?_
    refine mg_iload d_Mo_generator_253 rfl ?_
    refine mg_icmp_le (tgt := 267) d_Mo_generator_255 (by decide) (fun c_255 => ?_) (fun c_255 => ?_)
    · have e2 : nI d1 = nI d2 := by rw [e0, Nat.max_eq_left ((nI_leI (by omega) (by omega)).mp c_255)]
      refine mg_iload d_Mo_generator_267 rfl ?_
      refine mg_eqi e2 ?_
      refine mg_istore d_Mo_generator_269 (Nat.le_of_ble_eq_true rfl) rfl ?_
      exact kk
    · have e2 : nI gb.2.2.2 = nI d2 := by rw [e0, Nat.max_eq_right (Nat.le_of_lt (Nat.lt_of_not_le (fun e => c_255 (nI_le e (by omega)))))]
      first | refine mg_aload_n d_Mo_generator_258 rfl rfl ?_ | refine mg_aload_nN d_Mo_generator_258 rfl rfl ?_
      refine mg_getfield fl_Mo_19 d_Mo_generator_259 (by first | assumption | exact mg_up_s _ _ _ | (rw [mg_up_n _ _ (by decide)]; first | assumption | exact mg_up_s _ _ _ | (rw [mg_up_n _ _ (by decide)]; first | assumption | exact mg_up_s _ _ _ | (rw [mg_up_n _ _ (by decide)]; first | assumption | exact mg_up_s _ _ _ | (rw [mg_up_n _ _ (by decide)]; first | assumption | exact mg_up_s _ _ _ | (rw [mg_up_n _ _ (by decide)]; first | assumption | exact mg_up_s _ _ _ | (rw [mg_up_n _ _ (by decide)]; first | assumption | exact mg_up_s _ _ _))))))) rfl ?_
      refine mg_iload_n d_Mo_generator_262 rfl rfl ?_
      refine mg_iaload rfl d_Mo_generator_263 (by first | assumption | exact mg_up_s _ _ _ | (rw [mg_up_n _ _ (by decide)]; first | assumption | exact mg_up_s _ _ _ | (rw [mg_up_n _ _ (by decide)]; first | assumption | exact mg_up_s _ _ _ | (rw [mg_up_n _ _ (by decide)]; first | assumption | exact mg_up_s _ _ _ | (rw [mg_up_n _ _ (by decide)]; first | assumption | exact mg_up_s _ _ _ | (rw [mg_up_n _ _ (by decide)]; first | assumption | exact mg_up_s _ _ _ | (rw [mg_up_n _ _ (by decide)]; first | assumption | exact mg_up_s _ _ _))))))) (by assumption) ?_
      refine mg_eqi e1 ?_
      refine mg_goto (tgt := 269) d_Mo_generator_264 (by decide) ?_
      refine mg_eqi e2 ?_
      refine mg_istore d_Mo_generator_269 (Nat.le_of_ble_eq_true rfl) rfl ?_
      exact kk
  · refine mg_iload_n d_Mo_generator_242 rfl rfl ?_
    refine mg_iconst (v := 3) d_Mo_generator_243 (by decide) ?_
    refine mg_icmp_ne (tgt := 267) d_Mo_generator_244 (by decide) (fun c_244 => ?_) (fun c_244 => ?_)
    · have e2 : nI d1 = nI d2 := by rw [(hd.resolve_left (fun e => e.1.elim c_239 c_244)).2]
      refine mg_iload d_Mo_generator_267 rfl ?_
      refine mg_eqi e2 ?_
      refine mg_istore d_Mo_generator_269 (Nat.le_of_ble_eq_true rfl) rfl ?_
      exact kk
    · obtain ⟨-, jb, gb, rfl, hgb, e0⟩ := hd.resolve_right (fun e => e.1 (Or.inr (by first | exact c_244 | exact Decidable.not_not.mp c_244)))
      have hdb : gb.2.2.2 ≤ 8 := hg8 jb gb hgb
      have hjb : jb < 20 := Nat.lt_of_lt_of_le (List.getElem?_eq_some_iff.mp hgb).1 h20
      have hin : vp_in (nI jb) 20 := vp_in_nI hjb (by decide)
      have e1 : f4 (nI jb).toNatClampNeg = nI gb.2.2.2 := by rw [nI_clamp (by omega), hge jb gb hgb]
      first | refine mg_aload_n d_Mo_generator_247 rfl rfl ?_ | refine mg_aload_nN d_Mo_generator_247 rfl rfl ?_
      refine mg_getfield fl_Mo_19 d_Mo_generator_248 (by first | assumption | exact mg_up_s _ _ _ | (rw [mg_up_n _ _ (by decide)]; first | assumption | exact mg_up_s _ _ _ | (rw [mg_up_n _ _ (by decide)]; first | assumption | exact mg_up_s _ _ _ | (rw [mg_up_n _ _ (by decide)]; first | assumption | exact mg_up_s _ _ _ | (rw [mg_up_n _ _ (by decide)]; first | assumption | exact mg_up_s _ _ _ | (rw [mg_up_n _ _ (by decide)]; first | assumption | exact mg_up_s _ _ _ | (rw [mg_up_n _ _ (by decide)]; first | assumption | exact mg_up_s _ _ _))))))) rfl ?_
      refine mg_iload_n d_Mo_generator_251 rfl rfl ?_
      refine mg_iaload rfl d_Mo_generator_252 (by first | assumption | exact mg_up_s _ _ _ | (rw [mg_up_n _ _ (by decide)]; first | assumption | exact mg_up_s _ _ _ | (rw [mg_up_n _ _ (by decide)]; first | assumption | exact mg_up_s _ _ _ | (rw [mg_up_n _ _ (by decide)]; first | assumption | exact mg_up_s _ _ _ | (rw [mg_up_n _ _ (by decide)]; first | assumption | exact mg_up_s _ _ _ | (rw [mg_up_n _ _ (by decide)]; first | assumption | exact mg_up_s _ _ _ | (rw [mg_up_n _ _ (by decide)]; first | assumption | exact mg_up_s _ _ _))))))) (by assumption) ?_
      refine mg_eqi e1 ?_
      refine mg_iload d_Mo_generator_253 rfl ?_
      refine mg_icmp_le (tgt := 267) d_Mo_generator_255 (by decide) (fun c_255 => ?_) (fun c_255 => ?_)
      · have e2 : nI d1 = nI d2 := by rw [e0, Nat.max_eq_left ((nI_leI (by omega) (by omega)).mp c_255)]
        refine mg_iload d_Mo_generator_267 rfl ?_
        refine mg_eqi e2 ?_
        refine mg_istore d_Mo_generator_269 (Nat.le_of_ble_eq_true rfl) rfl ?_
        exact kk
      · have e2 : nI gb.2.2.2 = nI d2 := by rw [e0, Nat.max_eq_right (Nat.le_of_lt (Nat.lt_of_not_le (fun e => c_255 (nI_le e (by omega)))))]
        first | refine mg_aload_n d_Mo_generator_258 rfl rfl ?_ | refine mg_aload_nN d_Mo_generator_258 rfl rfl ?_
        refine mg_getfield fl_Mo_19 d_Mo_generator_259 (by first | assumption | exact mg_up_s _ _ _ | (rw [mg_up_n _ _ (by decide)]; first | assumption | exact mg_up_s _ _ _ | (rw [mg_up_n _ _ (by decide)]; first | assumption | exact mg_up_s _ _ _ | (rw [mg_up_n _ _ (by decide)]; first | assumption | exact mg_up_s _ _ _ | (rw [mg_up_n _ _ (by decide)]; first | assumption | exact mg_up_s _ _ _ | (rw [mg_up_n _ _ (by decide)]; first | assumption | exact mg_up_s _ _ _ | (rw [mg_up_n _ _ (by decide)]; first | assumption | exact mg_up_s _ _ _))))))) rfl ?_
        refine mg_iload_n d_Mo_generator_262 rfl rfl ?_
        refine mg_iaload rfl d_Mo_generator_263 (by first | assumption | exact mg_up_s _ _ _ | (rw [mg_up_n _ _ (by decide)]; first | assumption | exact mg_up_s _ _ _ | (rw [mg_up_n _ _ (by decide)]; first | assumption | exact mg_up_s _ _ _ | (rw [mg_up_n _ _ (by decide)]; first | assumption | exact mg_up_s _ _ _ | (rw [mg_up_n _ _ (by decide)]; first | assumption | exact mg_up_s _ _ _ | (rw [mg_up_n _ _ (by decide)]; first | assumption | exact mg_up_s _ _ _ | (rw [mg_up_n _ _ (by decide)]; first | assumption | exact mg_up_s _ _ _))))))) (by assumption) ?_
        refine mg_eqi e1 ?_
        refine mg_goto (tgt := 269) d_Mo_generator_264 (by decide) ?_
        refine mg_eqi e2 ?_
        refine mg_istore d_Mo_generator_269 (Nat.le_of_ble_eq_true rfl) rfl ?_
        exact kk

theorem wi01 (b : Int32) : (wiB b 0 1 = true) ↔ (b = 0 ∨ b = 1) := by
  unfold wiB
  rw [Bool.and_eq_true, decide_eq_true_iff, decide_eq_true_iff]
  constructor
  · rintro ⟨h1, h2⟩
    obtain ⟨j, hj, rfl⟩ := nI_of h1
    have : ¬ 1 < j := fun e => h2 (nI_lt (a := 1) e hj)
    rcases (show j = 0 ∨ j = 1 by omega) with rfl | rfl
    · exact Or.inl rfl
    · exact Or.inr rfl
  · rintro (rfl | rfl) <;> decide
theorem wi09 (b : Int32) : (wiB b 0 9 = true) ↔ (¬ b < 0 ∧ b ≤ 9) := by
  unfold wiB
  rw [Bool.and_eq_true, decide_eq_true_iff, decide_eq_true_iff, Int32.not_lt (a := 9)]
theorem ig_iff {a : Int32} {n : Nat} (hn : n ≤ 20) : (igB a (nI n) = true) ↔ ∃ j, j < n ∧ a = nI j := by
  unfold igB
  rw [Bool.and_eq_true, decide_eq_true_iff, decide_eq_true_iff]
  constructor
  · rintro ⟨h1, h2⟩
    rcases pk_ix a (n := n) (by omega) with q | q | q
    · exact absurd q h1
    · exact absurd q h2
    · exact q
  · rintro ⟨j, hj, rfl⟩
    exact ⟨nI_pos (by omega), fun e => absurd ((nI_leI (by omega) (by omega)).mp e) (by omega)⟩
theorem ig_off {a : Int32} {n : Nat} (h : ¬ igB a (nI n) = true) : a < 0 ∨ nI n ≤ a := by
  unfold igB at h
  rw [Bool.and_eq_true, decide_eq_true_iff, decide_eq_true_iff] at h
  by_cases h1 : a < 0
  · exact Or.inl h1
  · exact Or.inr (Decidable.not_not.mp (fun e => h ⟨h1, e⟩))
/-- the class's answer when a generator is made -/
def mkR (gs : List gN) (k : Nat) (a b : Int32) (d : Nat) : Int32 × List gN := if d = 8 then (-1, gs) else (nI gs.length, gs ++ [(k, a, b, d + 1)])
theorem genS_some {gs : List gN} {kd a b : Int32} {k d : Nat} (h20 : gs.length < 20) (h : mkG gs kd a b = some (k, a, b, d + 1)) (hd : d ≤ 8) : genS gs kd a b = mkR gs k a b d := by
  unfold genS mkR
  rw [if_neg (by omega), h]
  show (if 8 < d + 1 then _ else _) = _
  by_cases e : d = 8
  · rw [if_pos (by omega), if_pos e]
  · rw [if_neg (by omega), if_neg e]
theorem genS_none {gs : List gN} {kd a b : Int32} (h : mkG gs kd a b = none) : genS gs kd a b = (-1, gs) := by
  unfold genS
  split
  · rfl
  · rw [h]
theorem mk_off {gs : List gN} {kd a b : Int32} (k0 : ¬ kd = 0) (h : a < 0 ∨ nI gs.length ≤ a) : mkG gs kd a b = none := by
  unfold mkG
  rw [if_neg k0, if_pos h]
theorem gen_no {gs : List gN} {kd a b : Int32} (h20 : gs.length ≤ 20) (h : ¬ rgG (nI gs.length) kd a b = true) : genS gs kd a b = (-1, gs) := by
  by_cases hf : 20 ≤ gs.length
  · unfold genS; rw [if_pos hf]
  have hn : ¬ (20 : Int32) ≤ nI gs.length := fun e => hf ((nI_leI (a := 20) (by decide) (by omega)).mp e)
  by_cases k0 : kd = 0
  · subst k0
    apply genS_none
    unfold mkG
    rw [if_pos rfl, if_neg]
    rintro ⟨h1, h2, h3⟩
    apply h
    simp [rgG, rgF, rgE, rgD, rgC, rgB, rgA, hn, h1, h2, h3]
  · by_cases ha : ¬ igB a (nI gs.length) = true
    · exact genS_none (mk_off k0 (ig_off ha))
    replace ha := Decidable.not_not.mp ha
    obtain ⟨ja, hja, rfl⟩ := (ig_iff h20).mp ha
    obtain ⟨ga, hga⟩ : ∃ ga, gs[ja]? = some ga := ⟨_, List.getElem?_eq_getElem hja⟩
    apply genS_none
    rw [mk_pre hja h20 hga k0]
    by_cases k1 : kd = 1
    · subst k1
      rw [if_pos rfl, if_neg]
      intro e
      apply h
      simp [rgG, rgF, rgE, rgD, rgC, rgB, rgA, hn, ha, (wi09 b).mpr e]
    rw [if_neg k1]
    by_cases k4 : kd = 4
    · subst k4
      rw [if_pos rfl, if_neg]
      intro e
      apply h
      simp [rgG, rgF, rgE, rgD, rgC, rgB, rgA, hn, ha, (wi01 b).mpr e]
    rw [if_neg k4]
    by_cases k5 : kd = 5
    · subst k5
      rw [if_pos rfl, if_neg]
      intro e
      apply h
      simp [rgG, rgF, rgE, rgD, rgC, rgB, rgA, hn, ha, e]
    rw [if_neg k5]
    by_cases hb : ¬ igB b (nI gs.length) = true
    · rw [if_pos (ig_off hb)]
    replace hb := Decidable.not_not.mp hb
    obtain ⟨jb, hjb, rfl⟩ := (ig_iff h20).mp hb
    obtain ⟨gb, hgb⟩ : ∃ gb, gs[jb]? = some gb := ⟨_, List.getElem?_eq_getElem hjb⟩
    rw [if_neg (by rintro (e | e); exact nI_pos (by omega) e; exact absurd ((nI_leI (by omega) (by omega)).mp e) (by omega)), nI_clamp (by omega), hgb]
    dsimp only
    by_cases k2 : kd = 2
    · subst k2
      exfalso
      apply h
      simp [rgG, rgF, rgE, rgD, rgC, rgB, rgA, hn, ha, hb]
    by_cases k3 : kd = 3
    · subst k3
      exfalso
      apply h
      simp [rgG, rgF, rgE, rgD, rgC, rgB, rgA, hn, ha, hb]
    rw [if_neg k2, if_neg k3]
theorem rg_parts {n kd a b : Int32} (h : rgG n kd a b = true) : rgA n kd = true ∧ (kd = 0 → isNr a = true ∧ isNr b = true ∧ a ≤ b) ∧ (¬ kd = 0 → igB a n = true) ∧ (kd = 1 → wiB b 0 9 = true) ∧ (kd = 2 ∨ kd = 3 → igB b n = true) ∧ (kd = 4 → wiB b 0 1 = true) ∧ (kd = 5 → isNr b = true) := by
  unfold rgG at h
  have hF : rgE kd b (rgD n kd b (rgC kd b (rgB n kd a b (rgA n kd)))) = true ∧ (kd = 5 → isNr b = true) := by
    unfold rgF at h
    split at h
    · rw [Bool.and_eq_true] at h; exact ⟨h.1, fun _ => h.2⟩
    · rename_i k; exact ⟨h, fun e => absurd e k⟩
  have hE : rgD n kd b (rgC kd b (rgB n kd a b (rgA n kd))) = true ∧ (kd = 4 → wiB b 0 1 = true) := by
    have h := hF.1
    unfold rgE at h
    split at h
    · rw [Bool.and_eq_true] at h; exact ⟨h.1, fun _ => h.2⟩
    · rename_i k; exact ⟨h, fun e => absurd e k⟩
  have hD : rgC kd b (rgB n kd a b (rgA n kd)) = true ∧ (kd = 2 ∨ kd = 3 → igB b n = true) := by
    have h := hE.1
    unfold rgD at h
    split at h
    · rw [Bool.and_eq_true] at h; exact ⟨h.1, fun _ => h.2⟩
    · rename_i k; exact ⟨h, fun e => absurd e k⟩
  have hC : rgB n kd a b (rgA n kd) = true ∧ (kd = 1 → wiB b 0 9 = true) := by
    have h := hD.1
    unfold rgC at h
    split at h
    · rw [Bool.and_eq_true] at h; exact ⟨h.1, fun _ => h.2⟩
    · rename_i k; exact ⟨h, fun e => absurd e k⟩
  have hB : rgA n kd = true ∧ (kd = 0 → isNr a = true ∧ isNr b = true ∧ a ≤ b) ∧ (¬ kd = 0 → igB a n = true) := by
    have h := hC.1
    unfold rgB at h
    split at h
    · rename_i k
      rw [Bool.and_eq_true, Bool.and_eq_true, Bool.and_eq_true, decide_eq_true_iff] at h
      exact ⟨h.1, fun _ => h.2, fun e => absurd k e⟩
    · rename_i k
      rw [Bool.and_eq_true] at h
      exact ⟨h.1, fun e => absurd e k, fun _ => h.2⟩
  exact ⟨hB.1, hB.2.1, hB.2.2, hC.2, hD.2, hE.2, hF.2⟩
theorem gen_yes {gs : List gN} (hw : wfG gs) {kd a b : Int32} (h : rgG (nI gs.length) kd a b = true) : gs.length < 20 ∧ ∃ k d1 d2 : Nat, kd = nI k ∧ k ≤ 5 ∧ d1 ≤ 8 ∧ d2 ≤ 8 ∧ ((kd = 0 ∧ d1 = 0) ∨ (¬ kd = 0 ∧ ∃ ja ga, a = nI ja ∧ gs[ja]? = some ga ∧ d1 = ga.2.2.2)) ∧ (((kd = 2 ∨ kd = 3) ∧ ∃ jb gb, b = nI jb ∧ gs[jb]? = some gb ∧ d2 = max d1 gb.2.2.2) ∨ (¬ (kd = 2 ∨ kd = 3) ∧ d2 = d1)) ∧ genS gs kd a b = mkR gs k a b d2 := by
  obtain ⟨hA, h0, h1, p1, p2, p4, p5⟩ := rg_parts h
  unfold rgA at hA
  rw [Bool.and_eq_true, Bool.and_eq_true, decide_eq_true_iff, decide_eq_true_iff, decide_eq_true_iff] at hA
  have h20 := hw.1
  have hf : gs.length < 20 := Nat.lt_of_not_le (fun e => hA.1 (nI_le (a := 20) e (by omega)))
  refine ⟨hf, ?_⟩
  obtain ⟨k, hk, rfl⟩ := nI_of hA.2.1
  have k6 : k < 6 := Nat.lt_of_not_le (fun e => hA.2.2 (nI_le (a := 6) e hk))
  match k, k6 with
  | 0, _ =>
    refine ⟨0, 0, 0, rfl, by decide, by decide, by decide, Or.inl ⟨rfl, rfl⟩, Or.inr ⟨by decide, rfl⟩, genS_some hf ?_ (by decide)⟩
    unfold mkG
    rw [if_pos (show nI 0 = 0 from rfl), if_pos (h0 rfl)]
  | k + 1, k6 =>
    have k0 : ¬ nI (k + 1) = 0 := nI_ne0 (by omega) (by omega)
    obtain ⟨ja, hja, rfl⟩ := (ig_iff h20).mp (h1 k0)
    obtain ⟨ga, hga⟩ : ∃ ga, gs[ja]? = some ga := ⟨_, List.getElem?_eq_getElem hja⟩
    have hda := wf_le hw hga
    have D1 : (nI (k + 1) = 0 ∧ ga.2.2.2 = 0) ∨ (¬ nI (k + 1) = 0 ∧ ∃ ja' ga', nI ja = nI ja' ∧ gs[ja']? = some ga' ∧ ga.2.2.2 = ga'.2.2.2) := Or.inr ⟨k0, ja, ga, rfl, hga, rfl⟩
    have two : (nI (k + 1) = 2 ∨ nI (k + 1) = 3) → ∃ jb gb, jb < gs.length ∧ b = nI jb ∧ gs[jb]? = some gb := fun e => by
      obtain ⟨jb, hjb, e2⟩ := (ig_iff h20).mp (p2 e)
      exact ⟨jb, _, hjb, e2, List.getElem?_eq_getElem hjb⟩
    match k, k6, k0, D1, two, p1, p2, p4, p5 with
    | 0, _, k0, D1, two, p1, p2, p4, p5 =>
      refine ⟨1, _, _, rfl, by decide, hda, hda, D1, Or.inr ⟨by decide, rfl⟩, genS_some hf ?_ hda⟩
      rw [mk_pre hja h20 hga k0, if_pos (by decide), if_pos ((wi09 b).mp (p1 rfl))]
    | 1, _, k0, D1, two, p1, p2, p4, p5 =>
      obtain ⟨jb, gb, hjb, rfl, hgb⟩ := two (Or.inl rfl)
      have hdb := wf_le hw hgb
      refine ⟨2, _, _, rfl, by decide, hda, by omega, D1, Or.inl ⟨Or.inl rfl, jb, gb, rfl, hgb, rfl⟩, genS_some hf ?_ (by omega)⟩
      rw [mk_pre hja h20 hga k0, if_neg (by decide), if_neg (by decide), if_neg (by decide), if_neg (by rintro (e | e); exact nI_pos (by omega) e; exact absurd ((nI_leI (by omega) (by omega)).mp e) (by omega)), nI_clamp (by omega), hgb]
      rfl
    | 2, _, k0, D1, two, p1, p2, p4, p5 =>
      obtain ⟨jb, gb, hjb, rfl, hgb⟩ := two (Or.inr rfl)
      have hdb := wf_le hw hgb
      refine ⟨3, _, _, rfl, by decide, hda, by omega, D1, Or.inl ⟨Or.inr rfl, jb, gb, rfl, hgb, rfl⟩, genS_some hf ?_ (by omega)⟩
      rw [mk_pre hja h20 hga k0, if_neg (by decide), if_neg (by decide), if_neg (by decide), if_neg (by rintro (e | e); exact nI_pos (by omega) e; exact absurd ((nI_leI (by omega) (by omega)).mp e) (by omega)), nI_clamp (by omega), hgb]
      rfl
    | 3, _, k0, D1, two, p1, p2, p4, p5 =>
      refine ⟨4, _, _, rfl, by decide, hda, hda, D1, Or.inr ⟨by decide, rfl⟩, genS_some hf ?_ hda⟩
      rw [mk_pre hja h20 hga k0, if_neg (by decide), if_pos (by decide), if_pos ((wi01 b).mp (p4 rfl))]
    | 4, _, k0, D1, two, p1, p2, p4, p5 =>
      refine ⟨5, _, _, rfl, by decide, hda, hda, D1, Or.inr ⟨by decide, rfl⟩, genS_some hf ?_ hda⟩
      rw [mk_pre hja h20 hga k0, if_neg (by decide), if_neg (by decide), if_pos (by decide), if_pos (p5 rfl)]
    | k + 5, k6, _, _, _, _, _, _, _ => exact absurd k6 (by omega)

set_option maxHeartbeats 4000000 in
set_option maxRecDepth 100000 in
theorem c_Mo_generator {M : mg_M} {gs : List gN} {ps : List pN} {ks : List kN} {wa : Nat} {fo : fO} {le : Bool} {row nu pu : List Int32} {s : Int64} {kd a b : Int32} (h : isMo M gs ps ks wa fo le row nu pu s) (hw : wfG gs) : mg_Ct Y_Mo_generator { frames := 1, cells := 0, slots := 0, locals := 22 } [.ref 1000, .int kd, .int a, .int b] M (fun v M' => v = some (.int (genS gs kd a b).1) ∧ isMo M' (genS gs kd a b).2 ps ks wa fo le row nu pu s ∧ sm 1000 1023 M M') := by
  obtain ⟨si, x, hO, hS, hWk, hI⟩ := id h
  obtain ⟨⟨a1, a2, a3, a4⟩, ⟨b1, ⟨ff, b2, b3, b4⟩⟩, ⟨c1, c2, c3⟩, d1, ⟨e1, ⟨tf, e2, e3, e4⟩⟩, f1, ⟨pf, f2, f3, f4⟩⟩ := id hS
  have hz := isMo.c0 (x := x) (s := s) hS hWk hI
  have d1' := d1
  refine mg_met [some (.ref 1000), some (.int kd), some (.int a), some (.int b), none, none] (by decide +kernel) rfl (Nat.le_of_ble_eq_true rfl) ?_
  intro X hR _
  first | refine mg_aload_n d_Mo_generator_0 rfl rfl ?_ | refine mg_aload_nN d_Mo_generator_0 rfl rfl ?_
  refine mg_iconst (v := 0) d_Mo_generator_1 (by decide) ?_
  refine mg_putfield (fw_Mo_80 _) d_Mo_generator_2 (by first | assumption | exact mg_up_s _ _ _ | (rw [mg_up_n _ _ (by decide)]; first | assumption | exact mg_up_s _ _ _ | (rw [mg_up_n _ _ (by decide)]; first | assumption | exact mg_up_s _ _ _ | (rw [mg_up_n _ _ (by decide)]; first | assumption | exact mg_up_s _ _ _ | (rw [mg_up_n _ _ (by decide)]; first | assumption | exact mg_up_s _ _ _ | (rw [mg_up_n _ _ (by decide)]; first | assumption | exact mg_up_s _ _ _ | (rw [mg_up_n _ _ (by decide)]; first | assumption | exact mg_up_s _ _ _))))))) (Nat.le_of_ble_eq_true rfl) (fun _ => ⟨rfl, rfl⟩) ?_
  refine mg_eqM (M' := c0M M si x s) rfl ?_
  have hO1 : (c0M M si x s) 1000 = some (moE (upd si 0 0) x s) := mg_up_s _ _ _
  have hT1 : (c0M M si x s) 1021 = some (iaE 60 tf) := (mg_up_n _ _ (by decide)).trans e2
  have hF1 : (c0M M si x s) 1016 = some (iaE 60 ff) := (mg_up_n _ _ (by decide)).trans b2
  have hP1 : (c0M M si x s) 1022 = some (iaE 60 pf) := (mg_up_n _ _ (by decide)).trans f2
  have hST : ∀ {Q : State → Prop}, mg_G X Y_Mo_generator Q (c0M M si x s) 0 0 214 [some (.ref 1000), some (.int kd), some (.int a), some (.int b), some (.int (bI (rgG ((upd si 0 0) 1) kd a b))), none] [] → mg_G X Y_Mo_generator Q (c0M M si x s) 0 0 5 [some (.ref 1000), some (.int kd), some (.int a), some (.int b), none, none] [] := fun kk => by
    refine sg_A hR hO1 ?_
    by_cases hk : kd = 0
    · exact sg_B0 hR hO1 hk (sg_C hR hO1 (sg_D hR hO1 (sg_E hR hO1 (sg_F hR hO1 kk))))
    · exact sg_B1 hR hO1 hk (sg_C hR hO1 (sg_D hR hO1 (sg_E hR hO1 (sg_F hR hO1 kk))))
  refine hST ?_
  rw [show (upd si 0 0) 1 = nI gs.length from a1]
  refine mg_iload d_Mo_generator_214 rfl ?_
  refine mg_if_ne (tgt := 221) d_Mo_generator_216 (by decide) (fun c_216 => ?_) (fun c_216 => ?_)
  · have hg1 : rgG (nI gs.length) kd a b = true := bI_t c_216
    obtain ⟨hf, k, d1, d2, hkd, hk5, hd1, hd2, H1, H2, hS2⟩ := gen_yes hw hg1
    obtain ⟨g1, g2, g3, g4, y1, y2, y3, y4, ye⟩ := id a3
    have r1 : (c0M M si x s) 1001 = some (iaE 20 g1) := (mg_up_n _ _ (by decide)).trans y1
    have r2 : (c0M M si x s) 1002 = some (iaE 20 g2) := (mg_up_n _ _ (by decide)).trans y2
    have r3 : (c0M M si x s) 1003 = some (iaE 20 g3) := (mg_up_n _ _ (by decide)).trans y3
    have r4 : (c0M M si x s) 1004 = some (iaE 20 g4) := (mg_up_n _ _ (by decide)).trans y4
    have hin : vp_in (si 1) 20 := by rw [a1]; exact vp_in_nI hf (by decide)
    rw [hS2]
    unfold mkR
    refine sg_G1 hO1 g4 r4 (fun i g hg => (ye i g hg).2.2.2) hw.1 H1 (sg_G2 hO1 g4 r4 (fun i g hg => (ye i g hg).2.2.2) hw.1 (fun i g hg => wf_le hw hg) hd1 H2 ?_)
    refine mg_iload d_Mo_generator_271 rfl ?_
    refine mg_bipush (v := 8) d_Mo_generator_273 (by decide) ?_
    refine mg_icmp_ne (tgt := 280) d_Mo_generator_275 (by decide) (fun c_275 => ?_) (fun c_275 => ?_)
    · have e8 : ¬ d2 = 8 := fun e => c_275 (by rw [e]; rfl)
      rw [if_neg e8]
      subst hkd
      first | refine mg_aload_n d_Mo_generator_280 rfl rfl ?_ | refine mg_aload_nN d_Mo_generator_280 rfl rfl ?_
      refine mg_getfield fl_Mo_7 d_Mo_generator_281 (by first | assumption | exact mg_up_s _ _ _ | (rw [mg_up_n _ _ (by decide)]; first | assumption | exact mg_up_s _ _ _ | (rw [mg_up_n _ _ (by decide)]; first | assumption | exact mg_up_s _ _ _ | (rw [mg_up_n _ _ (by decide)]; first | assumption | exact mg_up_s _ _ _ | (rw [mg_up_n _ _ (by decide)]; first | assumption | exact mg_up_s _ _ _ | (rw [mg_up_n _ _ (by decide)]; first | assumption | exact mg_up_s _ _ _ | (rw [mg_up_n _ _ (by decide)]; first | assumption | exact mg_up_s _ _ _))))))) rfl ?_
      first | refine mg_aload_n d_Mo_generator_284 rfl rfl ?_ | refine mg_aload_nN d_Mo_generator_284 rfl rfl ?_
      refine mg_getfield fl_Mo_83 d_Mo_generator_285 (by first | assumption | exact mg_up_s _ _ _ | (rw [mg_up_n _ _ (by decide)]; first | assumption | exact mg_up_s _ _ _ | (rw [mg_up_n _ _ (by decide)]; first | assumption | exact mg_up_s _ _ _ | (rw [mg_up_n _ _ (by decide)]; first | assumption | exact mg_up_s _ _ _ | (rw [mg_up_n _ _ (by decide)]; first | assumption | exact mg_up_s _ _ _ | (rw [mg_up_n _ _ (by decide)]; first | assumption | exact mg_up_s _ _ _ | (rw [mg_up_n _ _ (by decide)]; first | assumption | exact mg_up_s _ _ _))))))) rfl ?_
      refine mg_iload_n d_Mo_generator_288 rfl rfl ?_
      refine mg_iastore rfl d_Mo_generator_289 (by first | assumption | exact mg_up_s _ _ _ | (rw [mg_up_n _ _ (by decide)]; first | assumption | exact mg_up_s _ _ _ | (rw [mg_up_n _ _ (by decide)]; first | assumption | exact mg_up_s _ _ _ | (rw [mg_up_n _ _ (by decide)]; first | assumption | exact mg_up_s _ _ _ | (rw [mg_up_n _ _ (by decide)]; first | assumption | exact mg_up_s _ _ _ | (rw [mg_up_n _ _ (by decide)]; first | assumption | exact mg_up_s _ _ _ | (rw [mg_up_n _ _ (by decide)]; first | assumption | exact mg_up_s _ _ _))))))) hin ?_
      refine mg_eqM (M' := mg_up (c0M M si x s) 1001 (iaE 20 (upd g1 gs.length (nI k)))) (by rw [show (upd si 0 0) 1 = nI gs.length from a1, nI_clamp (by omega)]) ?_
      first | refine mg_aload_n d_Mo_generator_290 rfl rfl ?_ | refine mg_aload_nN d_Mo_generator_290 rfl rfl ?_
      refine mg_getfield fl_Mo_13 d_Mo_generator_291 (by first | assumption | exact mg_up_s _ _ _ | (rw [mg_up_n _ _ (by decide)]; first | assumption | exact mg_up_s _ _ _ | (rw [mg_up_n _ _ (by decide)]; first | assumption | exact mg_up_s _ _ _ | (rw [mg_up_n _ _ (by decide)]; first | assumption | exact mg_up_s _ _ _ | (rw [mg_up_n _ _ (by decide)]; first | assumption | exact mg_up_s _ _ _ | (rw [mg_up_n _ _ (by decide)]; first | assumption | exact mg_up_s _ _ _ | (rw [mg_up_n _ _ (by decide)]; first | assumption | exact mg_up_s _ _ _))))))) rfl ?_
      first | refine mg_aload_n d_Mo_generator_294 rfl rfl ?_ | refine mg_aload_nN d_Mo_generator_294 rfl rfl ?_
      refine mg_getfield fl_Mo_83 d_Mo_generator_295 (by first | assumption | exact mg_up_s _ _ _ | (rw [mg_up_n _ _ (by decide)]; first | assumption | exact mg_up_s _ _ _ | (rw [mg_up_n _ _ (by decide)]; first | assumption | exact mg_up_s _ _ _ | (rw [mg_up_n _ _ (by decide)]; first | assumption | exact mg_up_s _ _ _ | (rw [mg_up_n _ _ (by decide)]; first | assumption | exact mg_up_s _ _ _ | (rw [mg_up_n _ _ (by decide)]; first | assumption | exact mg_up_s _ _ _ | (rw [mg_up_n _ _ (by decide)]; first | assumption | exact mg_up_s _ _ _))))))) rfl ?_
      refine mg_iload_n d_Mo_generator_298 rfl rfl ?_
      refine mg_iastore rfl d_Mo_generator_299 (by first | assumption | exact mg_up_s _ _ _ | (rw [mg_up_n _ _ (by decide)]; first | assumption | exact mg_up_s _ _ _ | (rw [mg_up_n _ _ (by decide)]; first | assumption | exact mg_up_s _ _ _ | (rw [mg_up_n _ _ (by decide)]; first | assumption | exact mg_up_s _ _ _ | (rw [mg_up_n _ _ (by decide)]; first | assumption | exact mg_up_s _ _ _ | (rw [mg_up_n _ _ (by decide)]; first | assumption | exact mg_up_s _ _ _ | (rw [mg_up_n _ _ (by decide)]; first | assumption | exact mg_up_s _ _ _))))))) hin ?_
      refine mg_eqM (M' := mg_up (mg_up (c0M M si x s) 1001 (iaE 20 (upd g1 gs.length (nI k)))) 1002 (iaE 20 (upd g2 gs.length a))) (by rw [show (upd si 0 0) 1 = nI gs.length from a1, nI_clamp (by omega)]) ?_
      first | refine mg_aload_n d_Mo_generator_300 rfl rfl ?_ | refine mg_aload_nN d_Mo_generator_300 rfl rfl ?_
      refine mg_getfield fl_Mo_16 d_Mo_generator_301 (by first | assumption | exact mg_up_s _ _ _ | (rw [mg_up_n _ _ (by decide)]; first | assumption | exact mg_up_s _ _ _ | (rw [mg_up_n _ _ (by decide)]; first | assumption | exact mg_up_s _ _ _ | (rw [mg_up_n _ _ (by decide)]; first | assumption | exact mg_up_s _ _ _ | (rw [mg_up_n _ _ (by decide)]; first | assumption | exact mg_up_s _ _ _ | (rw [mg_up_n _ _ (by decide)]; first | assumption | exact mg_up_s _ _ _ | (rw [mg_up_n _ _ (by decide)]; first | assumption | exact mg_up_s _ _ _))))))) rfl ?_
      first | refine mg_aload_n d_Mo_generator_304 rfl rfl ?_ | refine mg_aload_nN d_Mo_generator_304 rfl rfl ?_
      refine mg_getfield fl_Mo_83 d_Mo_generator_305 (by first | assumption | exact mg_up_s _ _ _ | (rw [mg_up_n _ _ (by decide)]; first | assumption | exact mg_up_s _ _ _ | (rw [mg_up_n _ _ (by decide)]; first | assumption | exact mg_up_s _ _ _ | (rw [mg_up_n _ _ (by decide)]; first | assumption | exact mg_up_s _ _ _ | (rw [mg_up_n _ _ (by decide)]; first | assumption | exact mg_up_s _ _ _ | (rw [mg_up_n _ _ (by decide)]; first | assumption | exact mg_up_s _ _ _ | (rw [mg_up_n _ _ (by decide)]; first | assumption | exact mg_up_s _ _ _))))))) rfl ?_
      refine mg_iload_n d_Mo_generator_308 rfl rfl ?_
      refine mg_iastore rfl d_Mo_generator_309 (by first | assumption | exact mg_up_s _ _ _ | (rw [mg_up_n _ _ (by decide)]; first | assumption | exact mg_up_s _ _ _ | (rw [mg_up_n _ _ (by decide)]; first | assumption | exact mg_up_s _ _ _ | (rw [mg_up_n _ _ (by decide)]; first | assumption | exact mg_up_s _ _ _ | (rw [mg_up_n _ _ (by decide)]; first | assumption | exact mg_up_s _ _ _ | (rw [mg_up_n _ _ (by decide)]; first | assumption | exact mg_up_s _ _ _ | (rw [mg_up_n _ _ (by decide)]; first | assumption | exact mg_up_s _ _ _))))))) hin ?_
      refine mg_eqM (M' := mg_up (mg_up (mg_up (c0M M si x s) 1001 (iaE 20 (upd g1 gs.length (nI k)))) 1002 (iaE 20 (upd g2 gs.length a))) 1003 (iaE 20 (upd g3 gs.length b))) (by rw [show (upd si 0 0) 1 = nI gs.length from a1, nI_clamp (by omega)]) ?_
      first | refine mg_aload_n d_Mo_generator_310 rfl rfl ?_ | refine mg_aload_nN d_Mo_generator_310 rfl rfl ?_
      refine mg_getfield fl_Mo_19 d_Mo_generator_311 (by first | assumption | exact mg_up_s _ _ _ | (rw [mg_up_n _ _ (by decide)]; first | assumption | exact mg_up_s _ _ _ | (rw [mg_up_n _ _ (by decide)]; first | assumption | exact mg_up_s _ _ _ | (rw [mg_up_n _ _ (by decide)]; first | assumption | exact mg_up_s _ _ _ | (rw [mg_up_n _ _ (by decide)]; first | assumption | exact mg_up_s _ _ _ | (rw [mg_up_n _ _ (by decide)]; first | assumption | exact mg_up_s _ _ _ | (rw [mg_up_n _ _ (by decide)]; first | assumption | exact mg_up_s _ _ _))))))) rfl ?_
      first | refine mg_aload_n d_Mo_generator_314 rfl rfl ?_ | refine mg_aload_nN d_Mo_generator_314 rfl rfl ?_
      refine mg_getfield fl_Mo_83 d_Mo_generator_315 (by first | assumption | exact mg_up_s _ _ _ | (rw [mg_up_n _ _ (by decide)]; first | assumption | exact mg_up_s _ _ _ | (rw [mg_up_n _ _ (by decide)]; first | assumption | exact mg_up_s _ _ _ | (rw [mg_up_n _ _ (by decide)]; first | assumption | exact mg_up_s _ _ _ | (rw [mg_up_n _ _ (by decide)]; first | assumption | exact mg_up_s _ _ _ | (rw [mg_up_n _ _ (by decide)]; first | assumption | exact mg_up_s _ _ _ | (rw [mg_up_n _ _ (by decide)]; first | assumption | exact mg_up_s _ _ _))))))) rfl ?_
      refine mg_iload d_Mo_generator_318 rfl ?_
      refine mg_iconst (v := 1) d_Mo_generator_320 (by decide) ?_
      refine mg_iadd d_Mo_generator_321 ?_
      refine mg_eqi (nI_1 d2) ?_
      refine mg_iastore rfl d_Mo_generator_322 (by first | assumption | exact mg_up_s _ _ _ | (rw [mg_up_n _ _ (by decide)]; first | assumption | exact mg_up_s _ _ _ | (rw [mg_up_n _ _ (by decide)]; first | assumption | exact mg_up_s _ _ _ | (rw [mg_up_n _ _ (by decide)]; first | assumption | exact mg_up_s _ _ _ | (rw [mg_up_n _ _ (by decide)]; first | assumption | exact mg_up_s _ _ _ | (rw [mg_up_n _ _ (by decide)]; first | assumption | exact mg_up_s _ _ _ | (rw [mg_up_n _ _ (by decide)]; first | assumption | exact mg_up_s _ _ _))))))) hin ?_
      refine mg_eqM (M' := mg_up (mg_up (mg_up (mg_up (c0M M si x s) 1001 (iaE 20 (upd g1 gs.length (nI k)))) 1002 (iaE 20 (upd g2 gs.length a))) 1003 (iaE 20 (upd g3 gs.length b))) 1004 (iaE 20 (upd g4 gs.length (nI (d2 + 1))))) (by rw [show (upd si 0 0) 1 = nI gs.length from a1, nI_clamp (by omega)]) ?_
      first | refine mg_aload_n d_Mo_generator_323 rfl rfl ?_ | refine mg_aload_nN d_Mo_generator_323 rfl rfl ?_
      refine mg_dup d_Mo_generator_324 rfl ?_
      refine mg_getfield fl_Mo_83 d_Mo_generator_325 (by first | assumption | exact mg_up_s _ _ _ | (rw [mg_up_n _ _ (by decide)]; first | assumption | exact mg_up_s _ _ _ | (rw [mg_up_n _ _ (by decide)]; first | assumption | exact mg_up_s _ _ _ | (rw [mg_up_n _ _ (by decide)]; first | assumption | exact mg_up_s _ _ _ | (rw [mg_up_n _ _ (by decide)]; first | assumption | exact mg_up_s _ _ _ | (rw [mg_up_n _ _ (by decide)]; first | assumption | exact mg_up_s _ _ _ | (rw [mg_up_n _ _ (by decide)]; first | assumption | exact mg_up_s _ _ _))))))) rfl ?_
      refine mg_iconst (v := 1) d_Mo_generator_328 (by decide) ?_
      refine mg_iadd d_Mo_generator_329 ?_
      refine mg_eqi (y := nI (gs.length + 1)) (by rw [show (upd si 0 0) 1 = nI gs.length from a1, nI_1]) ?_
      refine mg_putfield (fw_Mo_83 _) d_Mo_generator_330 (by first | assumption | exact mg_up_s _ _ _ | (rw [mg_up_n _ _ (by decide)]; first | assumption | exact mg_up_s _ _ _ | (rw [mg_up_n _ _ (by decide)]; first | assumption | exact mg_up_s _ _ _ | (rw [mg_up_n _ _ (by decide)]; first | assumption | exact mg_up_s _ _ _ | (rw [mg_up_n _ _ (by decide)]; first | assumption | exact mg_up_s _ _ _ | (rw [mg_up_n _ _ (by decide)]; first | assumption | exact mg_up_s _ _ _ | (rw [mg_up_n _ _ (by decide)]; first | assumption | exact mg_up_s _ _ _))))))) (Nat.le_of_ble_eq_true rfl) (fun _ => ⟨rfl, rfl⟩) ?_
      refine mg_eqM (M' := mg_up (mg_up (mg_up (mg_up (mg_up (c0M M si x s) 1001 (iaE 20 (upd g1 gs.length (nI k)))) 1002 (iaE 20 (upd g2 gs.length a))) 1003 (iaE 20 (upd g3 gs.length b))) 1004 (iaE 20 (upd g4 gs.length (nI (d2 + 1))))) 1000 (moE (upd (upd si 0 0) 1 (nI (gs.length + 1))) x s)) rfl ?_
      first | refine mg_aload_n d_Mo_generator_333 rfl rfl ?_ | refine mg_aload_nN d_Mo_generator_333 rfl rfl ?_
      refine mg_getfield fl_Mo_83 d_Mo_generator_334 (by first | assumption | exact mg_up_s _ _ _ | (rw [mg_up_n _ _ (by decide)]; first | assumption | exact mg_up_s _ _ _ | (rw [mg_up_n _ _ (by decide)]; first | assumption | exact mg_up_s _ _ _ | (rw [mg_up_n _ _ (by decide)]; first | assumption | exact mg_up_s _ _ _ | (rw [mg_up_n _ _ (by decide)]; first | assumption | exact mg_up_s _ _ _ | (rw [mg_up_n _ _ (by decide)]; first | assumption | exact mg_up_s _ _ _ | (rw [mg_up_n _ _ (by decide)]; first | assumption | exact mg_up_s _ _ _))))))) rfl ?_
      refine mg_iconst (v := 1) d_Mo_generator_337 (by decide) ?_
      refine mg_isub d_Mo_generator_338 ?_
      refine mg_eqi (y := nI gs.length) (by show nI (gs.length + 1) - 1 = _; exact nI_pred _) ?_
      have U : ∀ t : Nat, t ≠ 1000 → (t < 1001 ∨ 1005 ≤ t) → (mg_up (mg_up (mg_up (mg_up (mg_up (c0M M si x s) 1001 (iaE 20 (upd g1 gs.length (nI k)))) 1002 (iaE 20 (upd g2 gs.length a))) 1003 (iaE 20 (upd g3 gs.length b))) 1004 (iaE 20 (upd g4 gs.length (nI (d2 + 1))))) 1000 (moE (upd (upd si 0 0) 1 (nI (gs.length + 1))) x s)) t = M t := fun t h1 h2 => (mg_up_n _ _ h1).trans ((mg_up_n _ _ (by omega)).trans ((mg_up_n _ _ (by omega)).trans ((mg_up_n _ _ (by omega)).trans ((mg_up_n _ _ (by omega)).trans (mg_up_n _ _ h1)))))
      refine mg_ireturn d_Mo_generator_339 rfl rfl (Nat.le_of_ble_eq_true rfl) (Nat.le_of_ble_eq_true rfl) ⟨rfl, ⟨_, x, mg_up_s _ _ _, ⟨⟨?_, a2, ?_, a4.eq (fun k _ _ => U k (by omega) (by omega))⟩, ⟨b1, ff, (U _ (by decide) (by decide)).trans b2, b3, b4⟩, ⟨c1, c2, c3.eq (fun k _ _ => U k (by omega) (by omega))⟩, d1', ⟨e1, tf, (U _ (by decide) (by decide)).trans e2, e3, e4⟩, f1, pf, (U _ (by decide) (by decide)).trans f2, f3, f4⟩, hWk.eq (fun k _ _ => U k (by omega) (by omega)), ?_⟩, fun k hk => U k (by omega) (by omega)⟩
      · rw [List.length_append]; exact pk_us
      · refine ⟨upd g1 gs.length (nI k), upd g2 gs.length a, upd g3 gs.length b, upd g4 gs.length (nI (d2 + 1)), (mg_up_n _ _ (by decide)).trans ((mg_up_n _ _ (by decide)).trans ((mg_up_n _ _ (by decide)).trans ((mg_up_n _ _ (by decide)).trans (mg_up_s _ _ _)))), (mg_up_n _ _ (by decide)).trans ((mg_up_n _ _ (by decide)).trans ((mg_up_n _ _ (by decide)).trans (mg_up_s _ _ _))), (mg_up_n _ _ (by decide)).trans ((mg_up_n _ _ (by decide)).trans (mg_up_s _ _ _)), (mg_up_n _ _ (by decide)).trans (mg_up_s _ _ _), fun t p hp => ?_⟩
        rcases Nat.lt_or_ge t gs.length with q | q
        · rw [List.getElem?_append_left q] at hp
          rw [pk_un (by omega), pk_un (by omega), pk_un (by omega), pk_un (by omega)]; exact ye t p hp
        · rw [List.getElem?_append_right q] at hp
          have hz1 : t - gs.length < 1 := (List.getElem?_eq_some_iff.mp hp).1
          have e : t = gs.length := by omega
          subst e
          rw [Nat.sub_self] at hp
          have hp2 := Option.some.inj hp
          subst hp2
          exact ⟨pk_us, pk_us, pk_us, pk_us⟩
      · obtain ⟨gv, hI, h5⟩ := hI
        exact ⟨gv, hI.eq (U _ (by decide) (by decide)), h5⟩
    · have e8 : d2 = 8 := (nI_eq (b := 8) (by omega) (by decide)).mp (by first | exact c_275 | exact Decidable.not_not.mp c_275)
      refine mg_iconst (v := -1) d_Mo_generator_278 (by decide) ?_
      rw [if_pos e8]
      exact mg_ireturn d_Mo_generator_279 rfl rfl (Nat.le_of_ble_eq_true rfl) (Nat.le_of_ble_eq_true rfl) ⟨rfl, hz⟩
  · have hg0 : rgG (nI gs.length) kd a b = false := bI_f (by first | exact c_216 | exact Decidable.not_not.mp c_216)
    refine mg_iconst (v := -1) d_Mo_generator_219 (by decide) ?_
    rw [gen_no hw.1 (by rw [hg0]; decide)]
    exact mg_ireturn d_Mo_generator_220 rfl rfl (Nat.le_of_ble_eq_true rfl) (Nat.le_of_ble_eq_true rfl) ⟨rfl, hz⟩

