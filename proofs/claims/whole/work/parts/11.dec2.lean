/-! decode rows -/
theorem d_PS_init_0 : decode prog_1_method_1_code 0 = .ok (.aload_n 0, 1) := by decide +kernel
theorem d_PS_init_1 : decode prog_1_method_1_code 1 = .ok (.invokespecial 1, 3) := by decide +kernel
theorem d_PS_init_4 : decode prog_1_method_1_code 4 = .ok (.aload_n 0, 1) := by decide +kernel
theorem d_PS_init_5 : decode prog_1_method_1_code 5 = .ok (.bipush 20, 2) := by decide +kernel
theorem d_PS_init_7 : decode prog_1_method_1_code 7 = .ok (.anewarray 9, 3) := by decide +kernel
theorem d_PS_init_10 : decode prog_1_method_1_code 10 = .ok (.putfield 11, 3) := by decide +kernel
theorem d_PS_init_13 : decode prog_1_method_1_code 13 = .ok (.aload_n 0, 1) := by decide +kernel
theorem d_PS_init_14 : decode prog_1_method_1_code 14 = .ok (.bipush 10, 2) := by decide +kernel
theorem d_PS_init_16 : decode prog_1_method_1_code 16 = .ok (.anewarray 15, 3) := by decide +kernel
theorem d_PS_init_19 : decode prog_1_method_1_code 19 = .ok (.putfield 17, 3) := by decide +kernel
theorem d_PS_init_22 : decode prog_1_method_1_code 22 = .ok (.aload_n 0, 1) := by decide +kernel
theorem d_PS_init_23 : decode prog_1_method_1_code 23 = .ok (.new 21, 3) := by decide +kernel
theorem d_PS_init_26 : decode prog_1_method_1_code 26 = .ok (.dup, 1) := by decide +kernel
theorem d_PS_init_27 : decode prog_1_method_1_code 27 = .ok (.invokespecial 23, 3) := by decide +kernel
theorem d_PS_init_30 : decode prog_1_method_1_code 30 = .ok (.putfield 24, 3) := by decide +kernel
theorem d_PS_init_33 : decode prog_1_method_1_code 33 = .ok (.aload_n 0, 1) := by decide +kernel
theorem d_PS_init_34 : decode prog_1_method_1_code 34 = .ok (.new 21, 3) := by decide +kernel
theorem d_PS_init_37 : decode prog_1_method_1_code 37 = .ok (.dup, 1) := by decide +kernel
theorem d_PS_init_38 : decode prog_1_method_1_code 38 = .ok (.invokespecial 23, 3) := by decide +kernel
theorem d_PS_init_41 : decode prog_1_method_1_code 41 = .ok (.putfield 28, 3) := by decide +kernel
theorem d_PS_init_44 : decode prog_1_method_1_code 44 = .ok (.aload_n 0, 1) := by decide +kernel
theorem d_PS_init_45 : decode prog_1_method_1_code 45 = .ok (.new 21, 3) := by decide +kernel
theorem d_PS_init_48 : decode prog_1_method_1_code 48 = .ok (.dup, 1) := by decide +kernel
theorem d_PS_init_49 : decode prog_1_method_1_code 49 = .ok (.invokespecial 23, 3) := by decide +kernel
theorem d_PS_init_52 : decode prog_1_method_1_code 52 = .ok (.putfield 31, 3) := by decide +kernel
theorem d_PS_init_55 : decode prog_1_method_1_code 55 = .ok (.aload_n 0, 1) := by decide +kernel
theorem d_PS_init_56 : decode prog_1_method_1_code 56 = .ok (.new 21, 3) := by decide +kernel
theorem d_PS_init_59 : decode prog_1_method_1_code 59 = .ok (.dup, 1) := by decide +kernel
theorem d_PS_init_60 : decode prog_1_method_1_code 60 = .ok (.invokespecial 23, 3) := by decide +kernel
theorem d_PS_init_63 : decode prog_1_method_1_code 63 = .ok (.putfield 34, 3) := by decide +kernel
theorem d_PS_init_66 : decode prog_1_method_1_code 66 = .ok (.aload_n 0, 1) := by decide +kernel
theorem d_PS_init_67 : decode prog_1_method_1_code 67 = .ok (.new 37, 3) := by decide +kernel
theorem d_PS_init_70 : decode prog_1_method_1_code 70 = .ok (.dup, 1) := by decide +kernel
theorem d_PS_init_71 : decode prog_1_method_1_code 71 = .ok (.invokespecial 39, 3) := by decide +kernel
theorem d_PS_init_74 : decode prog_1_method_1_code 74 = .ok (.putfield 40, 3) := by decide +kernel
theorem d_PS_init_77 : decode prog_1_method_1_code 77 = .ok (.return_, 1) := by decide +kernel
theorem d_PS_generator_0 : decode prog_1_method_2_code 0 = .ok (.aload_n 0, 1) := by decide +kernel
theorem d_PS_generator_1 : decode prog_1_method_2_code 1 = .ok (.getfield 44, 3) := by decide +kernel
theorem d_PS_generator_4 : decode prog_1_method_2_code 4 = .ok (.bipush 20, 2) := by decide +kernel
theorem d_PS_generator_6 : decode prog_1_method_2_code 6 = .ok (.if_icmp .lt 5, 3) := by decide +kernel
theorem d_PS_generator_9 : decode prog_1_method_2_code 9 = .ok (.iconst (-1), 1) := by decide +kernel
theorem d_PS_generator_10 : decode prog_1_method_2_code 10 = .ok (.ireturn, 1) := by decide +kernel
theorem d_PS_generator_11 : decode prog_1_method_2_code 11 = .ok (.aload_n 0, 1) := by decide +kernel
theorem d_PS_generator_12 : decode prog_1_method_2_code 12 = .ok (.iload_n 1, 1) := by decide +kernel
theorem d_PS_generator_13 : decode prog_1_method_2_code 13 = .ok (.iload_n 2, 1) := by decide +kernel
theorem d_PS_generator_14 : decode prog_1_method_2_code 14 = .ok (.iload_n 3, 1) := by decide +kernel
theorem d_PS_generator_15 : decode prog_1_method_2_code 15 = .ok (.invokevirtual 48, 3) := by decide +kernel
theorem d_PS_generator_18 : decode prog_1_method_2_code 18 = .ok (.astore 4, 2) := by decide +kernel
theorem d_PS_generator_20 : decode prog_1_method_2_code 20 = .ok (.aload 4, 2) := by decide +kernel
theorem d_PS_generator_22 : decode prog_1_method_2_code 22 = .ok (.ifnull 13, 3) := by decide +kernel
theorem d_PS_generator_25 : decode prog_1_method_2_code 25 = .ok (.aload 4, 2) := by decide +kernel
theorem d_PS_generator_27 : decode prog_1_method_2_code 27 = .ok (.getfield 52, 3) := by decide +kernel
theorem d_PS_generator_30 : decode prog_1_method_2_code 30 = .ok (.bipush 8, 2) := by decide +kernel
theorem d_PS_generator_32 : decode prog_1_method_2_code 32 = .ok (.if_icmp .le 5, 3) := by decide +kernel
theorem d_PS_generator_35 : decode prog_1_method_2_code 35 = .ok (.iconst (-1), 1) := by decide +kernel
theorem d_PS_generator_36 : decode prog_1_method_2_code 36 = .ok (.ireturn, 1) := by decide +kernel
theorem d_PS_generator_37 : decode prog_1_method_2_code 37 = .ok (.aload_n 0, 1) := by decide +kernel
theorem d_PS_generator_38 : decode prog_1_method_2_code 38 = .ok (.getfield 11, 3) := by decide +kernel
theorem d_PS_generator_41 : decode prog_1_method_2_code 41 = .ok (.aload_n 0, 1) := by decide +kernel
theorem d_PS_generator_42 : decode prog_1_method_2_code 42 = .ok (.getfield 44, 3) := by decide +kernel
theorem d_PS_generator_45 : decode prog_1_method_2_code 45 = .ok (.aload 4, 2) := by decide +kernel
theorem d_PS_generator_47 : decode prog_1_method_2_code 47 = .ok (.aastore, 1) := by decide +kernel
theorem d_PS_generator_48 : decode prog_1_method_2_code 48 = .ok (.aload_n 0, 1) := by decide +kernel
theorem d_PS_generator_49 : decode prog_1_method_2_code 49 = .ok (.dup, 1) := by decide +kernel
theorem d_PS_generator_50 : decode prog_1_method_2_code 50 = .ok (.getfield 44, 3) := by decide +kernel
theorem d_PS_generator_53 : decode prog_1_method_2_code 53 = .ok (.iconst 1, 1) := by decide +kernel
theorem d_PS_generator_54 : decode prog_1_method_2_code 54 = .ok (.iadd, 1) := by decide +kernel
theorem d_PS_generator_55 : decode prog_1_method_2_code 55 = .ok (.putfield 44, 3) := by decide +kernel
theorem d_PS_generator_58 : decode prog_1_method_2_code 58 = .ok (.aload_n 0, 1) := by decide +kernel
theorem d_PS_generator_59 : decode prog_1_method_2_code 59 = .ok (.getfield 44, 3) := by decide +kernel
theorem d_PS_generator_62 : decode prog_1_method_2_code 62 = .ok (.iconst 1, 1) := by decide +kernel
theorem d_PS_generator_63 : decode prog_1_method_2_code 63 = .ok (.isub, 1) := by decide +kernel
theorem d_PS_generator_64 : decode prog_1_method_2_code 64 = .ok (.ireturn, 1) := by decide +kernel
theorem d_PS_makeGenerator_0 : decode prog_1_method_16_code 0 = .ok (.iload_n 1, 1) := by decide +kernel
theorem d_PS_makeGenerator_1 : decode prog_1_method_16_code 1 = .ok (.ifCond .ne 36, 3) := by decide +kernel
theorem d_PS_makeGenerator_4 : decode prog_1_method_16_code 4 = .ok (.iload_n 2, 1) := by decide +kernel
theorem d_PS_makeGenerator_5 : decode prog_1_method_16_code 5 = .ok (.invokestatic 159, 3) := by decide +kernel
theorem d_PS_makeGenerator_8 : decode prog_1_method_16_code 8 = .ok (.ifCond .eq 27, 3) := by decide +kernel
theorem d_PS_makeGenerator_11 : decode prog_1_method_16_code 11 = .ok (.iload_n 3, 1) := by decide +kernel
theorem d_PS_makeGenerator_12 : decode prog_1_method_16_code 12 = .ok (.invokestatic 159, 3) := by decide +kernel
theorem d_PS_makeGenerator_15 : decode prog_1_method_16_code 15 = .ok (.ifCond .eq 20, 3) := by decide +kernel
theorem d_PS_makeGenerator_18 : decode prog_1_method_16_code 18 = .ok (.iload_n 2, 1) := by decide +kernel
theorem d_PS_makeGenerator_19 : decode prog_1_method_16_code 19 = .ok (.iload_n 3, 1) := by decide +kernel
theorem d_PS_makeGenerator_20 : decode prog_1_method_16_code 20 = .ok (.if_icmp .gt 15, 3) := by decide +kernel
theorem d_PS_makeGenerator_23 : decode prog_1_method_16_code 23 = .ok (.new 162, 3) := by decide +kernel
theorem d_PS_makeGenerator_26 : decode prog_1_method_16_code 26 = .ok (.dup, 1) := by decide +kernel
theorem d_PS_makeGenerator_27 : decode prog_1_method_16_code 27 = .ok (.iload_n 2, 1) := by decide +kernel
theorem d_PS_makeGenerator_28 : decode prog_1_method_16_code 28 = .ok (.iload_n 3, 1) := by decide +kernel
theorem d_PS_makeGenerator_29 : decode prog_1_method_16_code 29 = .ok (.invokespecial 164, 3) := by decide +kernel
theorem d_PS_makeGenerator_32 : decode prog_1_method_16_code 32 = .ok (.goto 4, 3) := by decide +kernel
theorem d_PS_makeGenerator_35 : decode prog_1_method_16_code 35 = .ok (.aconst_null, 1) := by decide +kernel
theorem d_PS_makeGenerator_36 : decode prog_1_method_16_code 36 = .ok (.areturn, 1) := by decide +kernel
theorem d_PS_makeGenerator_37 : decode prog_1_method_16_code 37 = .ok (.aload_n 0, 1) := by decide +kernel
theorem d_PS_makeGenerator_38 : decode prog_1_method_16_code 38 = .ok (.iload_n 2, 1) := by decide +kernel
theorem d_PS_makeGenerator_39 : decode prog_1_method_16_code 39 = .ok (.invokevirtual 61, 3) := by decide +kernel
theorem d_PS_makeGenerator_42 : decode prog_1_method_16_code 42 = .ok (.astore 4, 2) := by decide +kernel
theorem d_PS_makeGenerator_44 : decode prog_1_method_16_code 44 = .ok (.aload 4, 2) := by decide +kernel
theorem d_PS_makeGenerator_46 : decode prog_1_method_16_code 46 = .ok (.ifnonnull 5, 3) := by decide +kernel
theorem d_PS_makeGenerator_49 : decode prog_1_method_16_code 49 = .ok (.aconst_null, 1) := by decide +kernel
theorem d_PS_makeGenerator_50 : decode prog_1_method_16_code 50 = .ok (.areturn, 1) := by decide +kernel
theorem d_PS_makeGenerator_51 : decode prog_1_method_16_code 51 = .ok (.iload_n 1, 1) := by decide +kernel
theorem d_PS_makeGenerator_52 : decode prog_1_method_16_code 52 = .ok (.tableswitch 107 1 5 #[36, 107, 107, 61, 85], 36) := by decide +kernel
theorem d_PS_makeGenerator_88 : decode prog_1_method_16_code 88 = .ok (.iload_n 3, 1) := by decide +kernel
theorem d_PS_makeGenerator_89 : decode prog_1_method_16_code 89 = .ok (.ifCond .lt 22, 3) := by decide +kernel
theorem d_PS_makeGenerator_92 : decode prog_1_method_16_code 92 = .ok (.iload_n 3, 1) := by decide +kernel
theorem d_PS_makeGenerator_93 : decode prog_1_method_16_code 93 = .ok (.bipush 9, 2) := by decide +kernel
theorem d_PS_makeGenerator_95 : decode prog_1_method_16_code 95 = .ok (.if_icmp .gt 16, 3) := by decide +kernel
theorem d_PS_makeGenerator_98 : decode prog_1_method_16_code 98 = .ok (.new 167, 3) := by decide +kernel
theorem d_PS_makeGenerator_101 : decode prog_1_method_16_code 101 = .ok (.dup, 1) := by decide +kernel
theorem d_PS_makeGenerator_102 : decode prog_1_method_16_code 102 = .ok (.aload 4, 2) := by decide +kernel
theorem d_PS_makeGenerator_104 : decode prog_1_method_16_code 104 = .ok (.iload_n 3, 1) := by decide +kernel
theorem d_PS_makeGenerator_105 : decode prog_1_method_16_code 105 = .ok (.invokespecial 169, 3) := by decide +kernel
theorem d_PS_makeGenerator_108 : decode prog_1_method_16_code 108 = .ok (.goto 4, 3) := by decide +kernel
theorem d_PS_makeGenerator_111 : decode prog_1_method_16_code 111 = .ok (.aconst_null, 1) := by decide +kernel
theorem d_PS_makeGenerator_112 : decode prog_1_method_16_code 112 = .ok (.areturn, 1) := by decide +kernel
theorem d_PS_makeGenerator_113 : decode prog_1_method_16_code 113 = .ok (.iload_n 3, 1) := by decide +kernel
theorem d_PS_makeGenerator_114 : decode prog_1_method_16_code 114 = .ok (.ifCond .eq 8, 3) := by decide +kernel
theorem d_PS_makeGenerator_117 : decode prog_1_method_16_code 117 = .ok (.iload_n 3, 1) := by decide +kernel
theorem d_PS_makeGenerator_118 : decode prog_1_method_16_code 118 = .ok (.iconst 1, 1) := by decide +kernel
theorem d_PS_makeGenerator_119 : decode prog_1_method_16_code 119 = .ok (.if_icmp .ne 16, 3) := by decide +kernel
theorem d_PS_makeGenerator_122 : decode prog_1_method_16_code 122 = .ok (.new 172, 3) := by decide +kernel
theorem d_PS_makeGenerator_125 : decode prog_1_method_16_code 125 = .ok (.dup, 1) := by decide +kernel
theorem d_PS_makeGenerator_126 : decode prog_1_method_16_code 126 = .ok (.aload 4, 2) := by decide +kernel
theorem d_PS_makeGenerator_128 : decode prog_1_method_16_code 128 = .ok (.iload_n 3, 1) := by decide +kernel
theorem d_PS_makeGenerator_129 : decode prog_1_method_16_code 129 = .ok (.invokespecial 174, 3) := by decide +kernel
theorem d_PS_makeGenerator_132 : decode prog_1_method_16_code 132 = .ok (.goto 4, 3) := by decide +kernel
theorem d_PS_makeGenerator_135 : decode prog_1_method_16_code 135 = .ok (.aconst_null, 1) := by decide +kernel
theorem d_PS_makeGenerator_136 : decode prog_1_method_16_code 136 = .ok (.areturn, 1) := by decide +kernel
theorem d_PS_makeGenerator_137 : decode prog_1_method_16_code 137 = .ok (.iload_n 3, 1) := by decide +kernel
theorem d_PS_makeGenerator_138 : decode prog_1_method_16_code 138 = .ok (.invokestatic 159, 3) := by decide +kernel
theorem d_PS_makeGenerator_141 : decode prog_1_method_16_code 141 = .ok (.ifCond .eq 16, 3) := by decide +kernel
theorem d_PS_makeGenerator_144 : decode prog_1_method_16_code 144 = .ok (.new 175, 3) := by decide +kernel
theorem d_PS_makeGenerator_147 : decode prog_1_method_16_code 147 = .ok (.dup, 1) := by decide +kernel
theorem d_PS_makeGenerator_148 : decode prog_1_method_16_code 148 = .ok (.aload 4, 2) := by decide +kernel
theorem d_PS_makeGenerator_150 : decode prog_1_method_16_code 150 = .ok (.iload_n 3, 1) := by decide +kernel
theorem d_PS_makeGenerator_151 : decode prog_1_method_16_code 151 = .ok (.invokespecial 177, 3) := by decide +kernel
theorem d_PS_makeGenerator_154 : decode prog_1_method_16_code 154 = .ok (.goto 4, 3) := by decide +kernel
theorem d_PS_makeGenerator_157 : decode prog_1_method_16_code 157 = .ok (.aconst_null, 1) := by decide +kernel
theorem d_PS_makeGenerator_158 : decode prog_1_method_16_code 158 = .ok (.areturn, 1) := by decide +kernel
theorem d_PS_makeGenerator_159 : decode prog_1_method_16_code 159 = .ok (.iload_n 1, 1) := by decide +kernel
theorem d_PS_makeGenerator_160 : decode prog_1_method_16_code 160 = .ok (.aload 4, 2) := by decide +kernel
theorem d_PS_makeGenerator_162 : decode prog_1_method_16_code 162 = .ok (.aload_n 0, 1) := by decide +kernel
theorem d_PS_makeGenerator_163 : decode prog_1_method_16_code 163 = .ok (.iload_n 3, 1) := by decide +kernel
theorem d_PS_makeGenerator_164 : decode prog_1_method_16_code 164 = .ok (.invokevirtual 61, 3) := by decide +kernel
theorem d_PS_makeGenerator_167 : decode prog_1_method_16_code 167 = .ok (.invokestatic 178, 3) := by decide +kernel
theorem d_PS_makeGenerator_170 : decode prog_1_method_16_code 170 = .ok (.areturn, 1) := by decide +kernel
theorem d_PS_isNear_0 : decode prog_1_method_18_code 0 = .ok (.iload_n 0, 1) := by decide +kernel
theorem d_PS_isNear_1 : decode prog_1_method_18_code 1 = .ok (.sipush (-1000), 3) := by decide +kernel
theorem d_PS_isNear_4 : decode prog_1_method_18_code 4 = .ok (.if_icmp .lt 14, 3) := by decide +kernel
theorem d_PS_isNear_7 : decode prog_1_method_18_code 7 = .ok (.iload_n 0, 1) := by decide +kernel
theorem d_PS_isNear_8 : decode prog_1_method_18_code 8 = .ok (.sipush 1000, 3) := by decide +kernel
theorem d_PS_isNear_11 : decode prog_1_method_18_code 11 = .ok (.if_icmp .gt 7, 3) := by decide +kernel
theorem d_PS_isNear_14 : decode prog_1_method_18_code 14 = .ok (.iconst 1, 1) := by decide +kernel
theorem d_PS_isNear_15 : decode prog_1_method_18_code 15 = .ok (.goto 4, 3) := by decide +kernel
theorem d_PS_isNear_18 : decode prog_1_method_18_code 18 = .ok (.iconst 0, 1) := by decide +kernel
theorem d_PS_isNear_19 : decode prog_1_method_18_code 19 = .ok (.ireturn, 1) := by decide +kernel
theorem d_PS_generatorAt_0 : decode prog_1_method_14_code 0 = .ok (.iload_n 1, 1) := by decide +kernel
theorem d_PS_generatorAt_1 : decode prog_1_method_14_code 1 = .ok (.ifCond .lt 29, 3) := by decide +kernel
theorem d_PS_generatorAt_4 : decode prog_1_method_14_code 4 = .ok (.iload_n 1, 1) := by decide +kernel
theorem d_PS_generatorAt_5 : decode prog_1_method_14_code 5 = .ok (.aload_n 0, 1) := by decide +kernel
theorem d_PS_generatorAt_6 : decode prog_1_method_14_code 6 = .ok (.getfield 44, 3) := by decide +kernel
theorem d_PS_generatorAt_9 : decode prog_1_method_14_code 9 = .ok (.if_icmp .ge 21, 3) := by decide +kernel
theorem d_PS_generatorAt_12 : decode prog_1_method_14_code 12 = .ok (.iload_n 1, 1) := by decide +kernel
theorem d_PS_generatorAt_13 : decode prog_1_method_14_code 13 = .ok (.aload_n 0, 1) := by decide +kernel
theorem d_PS_generatorAt_14 : decode prog_1_method_14_code 14 = .ok (.getfield 11, 3) := by decide +kernel
theorem d_PS_generatorAt_17 : decode prog_1_method_14_code 17 = .ok (.arraylength, 1) := by decide +kernel
theorem d_PS_generatorAt_18 : decode prog_1_method_14_code 18 = .ok (.if_icmp .ge 12, 3) := by decide +kernel
theorem d_PS_generatorAt_21 : decode prog_1_method_14_code 21 = .ok (.aload_n 0, 1) := by decide +kernel
theorem d_PS_generatorAt_22 : decode prog_1_method_14_code 22 = .ok (.getfield 11, 3) := by decide +kernel
theorem d_PS_generatorAt_25 : decode prog_1_method_14_code 25 = .ok (.iload_n 1, 1) := by decide +kernel
theorem d_PS_generatorAt_26 : decode prog_1_method_14_code 26 = .ok (.aaload, 1) := by decide +kernel
theorem d_PS_generatorAt_27 : decode prog_1_method_14_code 27 = .ok (.goto 4, 3) := by decide +kernel
theorem d_PS_generatorAt_30 : decode prog_1_method_14_code 30 = .ok (.aconst_null, 1) := by decide +kernel
theorem d_PS_generatorAt_31 : decode prog_1_method_14_code 31 = .ok (.areturn, 1) := by decide +kernel
theorem d_PS_makeOfTwo_0 : decode prog_1_method_17_code 0 = .ok (.aload_n 1, 1) := by decide +kernel
theorem d_PS_makeOfTwo_1 : decode prog_1_method_17_code 1 = .ok (.ifnull 7, 3) := by decide +kernel
theorem d_PS_makeOfTwo_4 : decode prog_1_method_17_code 4 = .ok (.aload_n 2, 1) := by decide +kernel
theorem d_PS_makeOfTwo_5 : decode prog_1_method_17_code 5 = .ok (.ifnonnull 5, 3) := by decide +kernel
theorem d_PS_makeOfTwo_8 : decode prog_1_method_17_code 8 = .ok (.aconst_null, 1) := by decide +kernel
theorem d_PS_makeOfTwo_9 : decode prog_1_method_17_code 9 = .ok (.areturn, 1) := by decide +kernel
theorem d_PS_makeOfTwo_10 : decode prog_1_method_17_code 10 = .ok (.iload_n 0, 1) := by decide +kernel
theorem d_PS_makeOfTwo_11 : decode prog_1_method_17_code 11 = .ok (.lookupswitch 45 #[(2, 25), (3, 35)], 25) := by decide +kernel
theorem d_PS_makeOfTwo_36 : decode prog_1_method_17_code 36 = .ok (.new 182, 3) := by decide +kernel
theorem d_PS_makeOfTwo_39 : decode prog_1_method_17_code 39 = .ok (.dup, 1) := by decide +kernel
theorem d_PS_makeOfTwo_40 : decode prog_1_method_17_code 40 = .ok (.aload_n 1, 1) := by decide +kernel
theorem d_PS_makeOfTwo_41 : decode prog_1_method_17_code 41 = .ok (.aload_n 2, 1) := by decide +kernel
theorem d_PS_makeOfTwo_42 : decode prog_1_method_17_code 42 = .ok (.invokespecial 184, 3) := by decide +kernel
theorem d_PS_makeOfTwo_45 : decode prog_1_method_17_code 45 = .ok (.areturn, 1) := by decide +kernel
theorem d_PS_makeOfTwo_46 : decode prog_1_method_17_code 46 = .ok (.new 187, 3) := by decide +kernel
theorem d_PS_makeOfTwo_49 : decode prog_1_method_17_code 49 = .ok (.dup, 1) := by decide +kernel
theorem d_PS_makeOfTwo_50 : decode prog_1_method_17_code 50 = .ok (.aload_n 1, 1) := by decide +kernel
theorem d_PS_makeOfTwo_51 : decode prog_1_method_17_code 51 = .ok (.aload_n 2, 1) := by decide +kernel
theorem d_PS_makeOfTwo_52 : decode prog_1_method_17_code 52 = .ok (.invokespecial 189, 3) := by decide +kernel
theorem d_PS_makeOfTwo_55 : decode prog_1_method_17_code 55 = .ok (.areturn, 1) := by decide +kernel
theorem d_PS_makeOfTwo_56 : decode prog_1_method_17_code 56 = .ok (.aconst_null, 1) := by decide +kernel
theorem d_PS_makeOfTwo_57 : decode prog_1_method_17_code 57 = .ok (.areturn, 1) := by decide +kernel
theorem d_PS_property_0 : decode prog_1_method_3_code 0 = .ok (.aload_n 0, 1) := by decide +kernel
theorem d_PS_property_1 : decode prog_1_method_3_code 1 = .ok (.getfield 55, 3) := by decide +kernel
theorem d_PS_property_4 : decode prog_1_method_3_code 4 = .ok (.bipush 10, 2) := by decide +kernel
theorem d_PS_property_6 : decode prog_1_method_3_code 6 = .ok (.if_icmp .ge 12, 3) := by decide +kernel
theorem d_PS_property_9 : decode prog_1_method_3_code 9 = .ok (.iload_n 1, 1) := by decide +kernel
theorem d_PS_property_10 : decode prog_1_method_3_code 10 = .ok (.ifCond .lt 8, 3) := by decide +kernel
theorem d_PS_property_13 : decode prog_1_method_3_code 13 = .ok (.iload_n 1, 1) := by decide +kernel
theorem d_PS_property_14 : decode prog_1_method_3_code 14 = .ok (.iconst 4, 1) := by decide +kernel
theorem d_PS_property_15 : decode prog_1_method_3_code 15 = .ok (.if_icmp .le 5, 3) := by decide +kernel
theorem d_PS_property_18 : decode prog_1_method_3_code 18 = .ok (.iconst (-1), 1) := by decide +kernel
theorem d_PS_property_19 : decode prog_1_method_3_code 19 = .ok (.ireturn, 1) := by decide +kernel
theorem d_PS_property_20 : decode prog_1_method_3_code 20 = .ok (.iload_n 3, 1) := by decide +kernel
theorem d_PS_property_21 : decode prog_1_method_3_code 21 = .ok (.ifCond .lt 9, 3) := by decide +kernel
theorem d_PS_property_24 : decode prog_1_method_3_code 24 = .ok (.iload_n 3, 1) := by decide +kernel
theorem d_PS_property_25 : decode prog_1_method_3_code 25 = .ok (.bipush 10, 2) := by decide +kernel
theorem d_PS_property_27 : decode prog_1_method_3_code 27 = .ok (.if_icmp .le 5, 3) := by decide +kernel
theorem d_PS_property_30 : decode prog_1_method_3_code 30 = .ok (.iconst (-1), 1) := by decide +kernel
theorem d_PS_property_31 : decode prog_1_method_3_code 31 = .ok (.ireturn, 1) := by decide +kernel
theorem d_PS_property_32 : decode prog_1_method_3_code 32 = .ok (.aload_n 0, 1) := by decide +kernel
theorem d_PS_property_33 : decode prog_1_method_3_code 33 = .ok (.getfield 17, 3) := by decide +kernel
theorem d_PS_property_36 : decode prog_1_method_3_code 36 = .ok (.aload_n 0, 1) := by decide +kernel
theorem d_PS_property_37 : decode prog_1_method_3_code 37 = .ok (.getfield 55, 3) := by decide +kernel
theorem d_PS_property_40 : decode prog_1_method_3_code 40 = .ok (.new 15, 3) := by decide +kernel
theorem d_PS_property_43 : decode prog_1_method_3_code 43 = .ok (.dup, 1) := by decide +kernel
theorem d_PS_property_44 : decode prog_1_method_3_code 44 = .ok (.iload_n 1, 1) := by decide +kernel
theorem d_PS_property_45 : decode prog_1_method_3_code 45 = .ok (.iload_n 2, 1) := by decide +kernel
theorem d_PS_property_46 : decode prog_1_method_3_code 46 = .ok (.iload_n 3, 1) := by decide +kernel
theorem d_PS_property_47 : decode prog_1_method_3_code 47 = .ok (.invokespecial 58, 3) := by decide +kernel
theorem d_PS_property_50 : decode prog_1_method_3_code 50 = .ok (.aastore, 1) := by decide +kernel
theorem d_PS_property_51 : decode prog_1_method_3_code 51 = .ok (.aload_n 0, 1) := by decide +kernel
theorem d_PS_property_52 : decode prog_1_method_3_code 52 = .ok (.dup, 1) := by decide +kernel
theorem d_PS_property_53 : decode prog_1_method_3_code 53 = .ok (.getfield 55, 3) := by decide +kernel
theorem d_PS_property_56 : decode prog_1_method_3_code 56 = .ok (.iconst 1, 1) := by decide +kernel
theorem d_PS_property_57 : decode prog_1_method_3_code 57 = .ok (.iadd, 1) := by decide +kernel
theorem d_PS_property_58 : decode prog_1_method_3_code 58 = .ok (.putfield 55, 3) := by decide +kernel
theorem d_PS_property_61 : decode prog_1_method_3_code 61 = .ok (.aload_n 0, 1) := by decide +kernel
theorem d_PS_property_62 : decode prog_1_method_3_code 62 = .ok (.getfield 55, 3) := by decide +kernel
theorem d_PS_property_65 : decode prog_1_method_3_code 65 = .ok (.iconst 1, 1) := by decide +kernel
theorem d_PS_property_66 : decode prog_1_method_3_code 66 = .ok (.isub, 1) := by decide +kernel
theorem d_PS_property_67 : decode prog_1_method_3_code 67 = .ok (.ireturn, 1) := by decide +kernel
theorem d_PS_check_0 : decode prog_1_method_4_code 0 = .ok (.aload_n 0, 1) := by decide +kernel
theorem d_PS_check_1 : decode prog_1_method_4_code 1 = .ok (.iload_n 1, 1) := by decide +kernel
theorem d_PS_check_2 : decode prog_1_method_4_code 2 = .ok (.invokevirtual 61, 3) := by decide +kernel
theorem d_PS_check_5 : decode prog_1_method_4_code 5 = .ok (.astore 6, 2) := by decide +kernel
theorem d_PS_check_7 : decode prog_1_method_4_code 7 = .ok (.aload_n 0, 1) := by decide +kernel
theorem d_PS_check_8 : decode prog_1_method_4_code 8 = .ok (.iload_n 2, 1) := by decide +kernel
theorem d_PS_check_9 : decode prog_1_method_4_code 9 = .ok (.invokevirtual 65, 3) := by decide +kernel
theorem d_PS_check_12 : decode prog_1_method_4_code 12 = .ok (.astore 7, 2) := by decide +kernel
theorem d_PS_check_14 : decode prog_1_method_4_code 14 = .ok (.aload 6, 2) := by decide +kernel
theorem d_PS_check_16 : decode prog_1_method_4_code 16 = .ok (.ifnull 21, 3) := by decide +kernel
theorem d_PS_check_19 : decode prog_1_method_4_code 19 = .ok (.aload 7, 2) := by decide +kernel
theorem d_PS_check_21 : decode prog_1_method_4_code 21 = .ok (.ifnull 16, 3) := by decide +kernel
theorem d_PS_check_24 : decode prog_1_method_4_code 24 = .ok (.iload 5, 2) := by decide +kernel
theorem d_PS_check_26 : decode prog_1_method_4_code 26 = .ok (.iconst 1, 1) := by decide +kernel
theorem d_PS_check_27 : decode prog_1_method_4_code 27 = .ok (.if_icmp .lt 10, 3) := by decide +kernel
theorem d_PS_check_30 : decode prog_1_method_4_code 30 = .ok (.iload 5, 2) := by decide +kernel
theorem d_PS_check_32 : decode prog_1_method_4_code 32 = .ok (.bipush 60, 2) := by decide +kernel
theorem d_PS_check_34 : decode prog_1_method_4_code 34 = .ok (.if_icmp .le 6, 3) := by decide +kernel
theorem d_PS_check_37 : decode prog_1_method_4_code 37 = .ok (.bipush (-3), 2) := by decide +kernel
theorem d_PS_check_39 : decode prog_1_method_4_code 39 = .ok (.ireturn, 1) := by decide +kernel
theorem d_PS_check_40 : decode prog_1_method_4_code 40 = .ok (.aload_n 0, 1) := by decide +kernel
theorem d_PS_check_41 : decode prog_1_method_4_code 41 = .ok (.iconst 0, 1) := by decide +kernel
theorem d_PS_check_42 : decode prog_1_method_4_code 42 = .ok (.putfield 69, 3) := by decide +kernel
theorem d_PS_check_45 : decode prog_1_method_4_code 45 = .ok (.aload_n 0, 1) := by decide +kernel
theorem d_PS_check_46 : decode prog_1_method_4_code 46 = .ok (.iload_n 1, 1) := by decide +kernel
theorem d_PS_check_47 : decode prog_1_method_4_code 47 = .ok (.iload_n 2, 1) := by decide +kernel
theorem d_PS_check_48 : decode prog_1_method_4_code 48 = .ok (.invokevirtual 72, 3) := by decide +kernel
theorem d_PS_check_51 : decode prog_1_method_4_code 51 = .ok (.ifCond .eq 5, 3) := by decide +kernel
theorem d_PS_check_54 : decode prog_1_method_4_code 54 = .ok (.iconst (-1), 1) := by decide +kernel
theorem d_PS_check_55 : decode prog_1_method_4_code 55 = .ok (.ireturn, 1) := by decide +kernel
theorem d_PS_check_56 : decode prog_1_method_4_code 56 = .ok (.aload_n 0, 1) := by decide +kernel
theorem d_PS_check_57 : decode prog_1_method_4_code 57 = .ok (.aload 6, 2) := by decide +kernel
theorem d_PS_check_59 : decode prog_1_method_4_code 59 = .ok (.aload 7, 2) := by decide +kernel
theorem d_PS_check_61 : decode prog_1_method_4_code 61 = .ok (.lload_n 3, 1) := by decide +kernel
theorem d_PS_check_62 : decode prog_1_method_4_code 62 = .ok (.iload 5, 2) := by decide +kernel
theorem d_PS_check_64 : decode prog_1_method_4_code 64 = .ok (.invokevirtual 76, 3) := by decide +kernel
theorem d_PS_check_67 : decode prog_1_method_4_code 67 = .ok (.istore 8, 2) := by decide +kernel
theorem d_PS_check_69 : decode prog_1_method_4_code 69 = .ok (.iload 8, 2) := by decide +kernel
theorem d_PS_check_71 : decode prog_1_method_4_code 71 = .ok (.iconst (-1), 1) := by decide +kernel
theorem d_PS_check_72 : decode prog_1_method_4_code 72 = .ok (.if_icmp .ne 34, 3) := by decide +kernel
theorem d_PS_check_75 : decode prog_1_method_4_code 75 = .ok (.aload_n 0, 1) := by decide +kernel
theorem d_PS_check_76 : decode prog_1_method_4_code 76 = .ok (.new 80, 3) := by decide +kernel
theorem d_PS_check_79 : decode prog_1_method_4_code 79 = .ok (.dup, 1) := by decide +kernel
theorem d_PS_check_80 : decode prog_1_method_4_code 80 = .ok (.iload_n 1, 1) := by decide +kernel
theorem d_PS_check_81 : decode prog_1_method_4_code 81 = .ok (.iload_n 2, 1) := by decide +kernel
theorem d_PS_check_82 : decode prog_1_method_4_code 82 = .ok (.aload_n 0, 1) := by decide +kernel
theorem d_PS_check_83 : decode prog_1_method_4_code 83 = .ok (.getfield 24, 3) := by decide +kernel
theorem d_PS_check_86 : decode prog_1_method_4_code 86 = .ok (.aload_n 0, 1) := by decide +kernel
theorem d_PS_check_87 : decode prog_1_method_4_code 87 = .ok (.getfield 82, 3) := by decide +kernel
theorem d_PS_check_90 : decode prog_1_method_4_code 90 = .ok (.invokespecial 86, 3) := by decide +kernel
theorem d_PS_check_93 : decode prog_1_method_4_code 93 = .ok (.putfield 82, 3) := by decide +kernel
theorem d_PS_check_96 : decode prog_1_method_4_code 96 = .ok (.aload_n 0, 1) := by decide +kernel
theorem d_PS_check_97 : decode prog_1_method_4_code 97 = .ok (.dup, 1) := by decide +kernel
theorem d_PS_check_98 : decode prog_1_method_4_code 98 = .ok (.getfield 89, 3) := by decide +kernel
theorem d_PS_check_101 : decode prog_1_method_4_code 101 = .ok (.iconst 1, 1) := by decide +kernel
theorem d_PS_check_102 : decode prog_1_method_4_code 102 = .ok (.iadd, 1) := by decide +kernel
theorem d_PS_check_103 : decode prog_1_method_4_code 103 = .ok (.putfield 89, 3) := by decide +kernel
theorem d_PS_check_106 : decode prog_1_method_4_code 106 = .ok (.iload 8, 2) := by decide +kernel
theorem d_PS_check_108 : decode prog_1_method_4_code 108 = .ok (.ireturn, 1) := by decide +kernel
theorem d_PS_propertyAt_0 : decode prog_1_method_15_code 0 = .ok (.iload_n 1, 1) := by decide +kernel
theorem d_PS_propertyAt_1 : decode prog_1_method_15_code 1 = .ok (.ifCond .lt 29, 3) := by decide +kernel
theorem d_PS_propertyAt_4 : decode prog_1_method_15_code 4 = .ok (.iload_n 1, 1) := by decide +kernel
theorem d_PS_propertyAt_5 : decode prog_1_method_15_code 5 = .ok (.aload_n 0, 1) := by decide +kernel
theorem d_PS_propertyAt_6 : decode prog_1_method_15_code 6 = .ok (.getfield 55, 3) := by decide +kernel
theorem d_PS_propertyAt_9 : decode prog_1_method_15_code 9 = .ok (.if_icmp .ge 21, 3) := by decide +kernel
theorem d_PS_propertyAt_12 : decode prog_1_method_15_code 12 = .ok (.iload_n 1, 1) := by decide +kernel
theorem d_PS_propertyAt_13 : decode prog_1_method_15_code 13 = .ok (.aload_n 0, 1) := by decide +kernel
theorem d_PS_propertyAt_14 : decode prog_1_method_15_code 14 = .ok (.getfield 17, 3) := by decide +kernel
theorem d_PS_propertyAt_17 : decode prog_1_method_15_code 17 = .ok (.arraylength, 1) := by decide +kernel
theorem d_PS_propertyAt_18 : decode prog_1_method_15_code 18 = .ok (.if_icmp .ge 12, 3) := by decide +kernel
theorem d_PS_propertyAt_21 : decode prog_1_method_15_code 21 = .ok (.aload_n 0, 1) := by decide +kernel
theorem d_PS_propertyAt_22 : decode prog_1_method_15_code 22 = .ok (.getfield 17, 3) := by decide +kernel
theorem d_PS_propertyAt_25 : decode prog_1_method_15_code 25 = .ok (.iload_n 1, 1) := by decide +kernel
theorem d_PS_propertyAt_26 : decode prog_1_method_15_code 26 = .ok (.aaload, 1) := by decide +kernel
theorem d_PS_propertyAt_27 : decode prog_1_method_15_code 27 = .ok (.goto 4, 3) := by decide +kernel
theorem d_PS_propertyAt_30 : decode prog_1_method_15_code 30 = .ok (.aconst_null, 1) := by decide +kernel
theorem d_PS_propertyAt_31 : decode prog_1_method_15_code 31 = .ok (.areturn, 1) := by decide +kernel
theorem d_PS_findAmongKept_0 : decode prog_1_method_22_code 0 = .ok (.aload_n 0, 1) := by decide +kernel
theorem d_PS_findAmongKept_1 : decode prog_1_method_22_code 1 = .ok (.iload_n 1, 1) := by decide +kernel
theorem d_PS_findAmongKept_2 : decode prog_1_method_22_code 2 = .ok (.invokevirtual 61, 3) := by decide +kernel
theorem d_PS_findAmongKept_5 : decode prog_1_method_22_code 5 = .ok (.astore_n 3, 1) := by decide +kernel
theorem d_PS_findAmongKept_6 : decode prog_1_method_22_code 6 = .ok (.aload_n 0, 1) := by decide +kernel
theorem d_PS_findAmongKept_7 : decode prog_1_method_22_code 7 = .ok (.iload_n 2, 1) := by decide +kernel
theorem d_PS_findAmongKept_8 : decode prog_1_method_22_code 8 = .ok (.invokevirtual 65, 3) := by decide +kernel
theorem d_PS_findAmongKept_11 : decode prog_1_method_22_code 11 = .ok (.astore 4, 2) := by decide +kernel
theorem d_PS_findAmongKept_13 : decode prog_1_method_22_code 13 = .ok (.aload_n 3, 1) := by decide +kernel
theorem d_PS_findAmongKept_14 : decode prog_1_method_22_code 14 = .ok (.ifnull 8, 3) := by decide +kernel
theorem d_PS_findAmongKept_17 : decode prog_1_method_22_code 17 = .ok (.aload 4, 2) := by decide +kernel
theorem d_PS_findAmongKept_19 : decode prog_1_method_22_code 19 = .ok (.ifnonnull 5, 3) := by decide +kernel
theorem d_PS_findAmongKept_22 : decode prog_1_method_22_code 22 = .ok (.iconst 0, 1) := by decide +kernel
theorem d_PS_findAmongKept_23 : decode prog_1_method_22_code 23 = .ok (.ireturn, 1) := by decide +kernel
theorem d_PS_findAmongKept_24 : decode prog_1_method_22_code 24 = .ok (.aload_n 0, 1) := by decide +kernel
theorem d_PS_findAmongKept_25 : decode prog_1_method_22_code 25 = .ok (.getfield 82, 3) := by decide +kernel
theorem d_PS_findAmongKept_28 : decode prog_1_method_22_code 28 = .ok (.astore 5, 2) := by decide +kernel
theorem d_PS_findAmongKept_30 : decode prog_1_method_22_code 30 = .ok (.aload 5, 2) := by decide +kernel
theorem d_PS_findAmongKept_32 : decode prog_1_method_22_code 32 = .ok (.ifnull 64, 3) := by decide +kernel
theorem d_PS_findAmongKept_35 : decode prog_1_method_22_code 35 = .ok (.aload 5, 2) := by decide +kernel
theorem d_PS_findAmongKept_37 : decode prog_1_method_22_code 37 = .ok (.getfield 201, 3) := by decide +kernel
theorem d_PS_findAmongKept_40 : decode prog_1_method_22_code 40 = .ok (.iload_n 1, 1) := by decide +kernel
theorem d_PS_findAmongKept_41 : decode prog_1_method_22_code 41 = .ok (.if_icmp .ne 45, 3) := by decide +kernel
theorem d_PS_findAmongKept_44 : decode prog_1_method_22_code 44 = .ok (.aload 5, 2) := by decide +kernel
theorem d_PS_findAmongKept_46 : decode prog_1_method_22_code 46 = .ok (.getfield 204, 3) := by decide +kernel
theorem d_PS_findAmongKept_49 : decode prog_1_method_22_code 49 = .ok (.iload_n 2, 1) := by decide +kernel
theorem d_PS_findAmongKept_50 : decode prog_1_method_22_code 50 = .ok (.if_icmp .ne 36, 3) := by decide +kernel
theorem d_PS_findAmongKept_53 : decode prog_1_method_22_code 53 = .ok (.aload_n 0, 1) := by decide +kernel
theorem d_PS_findAmongKept_54 : decode prog_1_method_22_code 54 = .ok (.aload_n 3, 1) := by decide +kernel
theorem d_PS_findAmongKept_55 : decode prog_1_method_22_code 55 = .ok (.aload 4, 2) := by decide +kernel
theorem d_PS_findAmongKept_57 : decode prog_1_method_22_code 57 = .ok (.aload 5, 2) := by decide +kernel
theorem d_PS_findAmongKept_59 : decode prog_1_method_22_code 59 = .ok (.getfield 207, 3) := by decide +kernel
theorem d_PS_findAmongKept_62 : decode prog_1_method_22_code 62 = .ok (.invokevirtual 100, 3) := by decide +kernel
theorem d_PS_findAmongKept_65 : decode prog_1_method_22_code 65 = .ok (.istore 6, 2) := by decide +kernel
theorem d_PS_findAmongKept_67 : decode prog_1_method_22_code 67 = .ok (.iload 6, 2) := by decide +kernel
theorem d_PS_findAmongKept_69 : decode prog_1_method_22_code 69 = .ok (.invokestatic 210, 3) := by decide +kernel
theorem d_PS_findAmongKept_72 : decode prog_1_method_22_code 72 = .ok (.ifCond .eq 14, 3) := by decide +kernel
theorem d_PS_findAmongKept_75 : decode prog_1_method_22_code 75 = .ok (.aload_n 0, 1) := by decide +kernel
theorem d_PS_findAmongKept_76 : decode prog_1_method_22_code 76 = .ok (.aload_n 3, 1) := by decide +kernel
theorem d_PS_findAmongKept_77 : decode prog_1_method_22_code 77 = .ok (.aload 4, 2) := by decide +kernel
theorem d_PS_findAmongKept_79 : decode prog_1_method_22_code 79 = .ok (.iload 6, 2) := by decide +kernel
theorem d_PS_findAmongKept_81 : decode prog_1_method_22_code 81 = .ok (.invokevirtual 213, 3) := by decide +kernel
theorem d_PS_findAmongKept_84 : decode prog_1_method_22_code 84 = .ok (.iconst 1, 1) := by decide +kernel
theorem d_PS_findAmongKept_85 : decode prog_1_method_22_code 85 = .ok (.ireturn, 1) := by decide +kernel
theorem d_PS_findAmongKept_86 : decode prog_1_method_22_code 86 = .ok (.aload 5, 2) := by decide +kernel
theorem d_PS_findAmongKept_88 : decode prog_1_method_22_code 88 = .ok (.getfield 217, 3) := by decide +kernel
theorem d_PS_findAmongKept_91 : decode prog_1_method_22_code 91 = .ok (.astore 5, 2) := by decide +kernel
theorem d_PS_findAmongKept_93 : decode prog_1_method_22_code 93 = .ok (.goto (-63), 3) := by decide +kernel
theorem d_PS_findAmongKept_96 : decode prog_1_method_22_code 96 = .ok (.iconst 0, 1) := by decide +kernel
theorem d_PS_findAmongKept_97 : decode prog_1_method_22_code 97 = .ok (.ireturn, 1) := by decide +kernel
theorem d_PS_replayRow_0 : decode prog_1_method_19_code 0 = .ok (.aload_n 0, 1) := by decide +kernel
theorem d_PS_replayRow_1 : decode prog_1_method_19_code 1 = .ok (.getfield 40, 3) := by decide +kernel
theorem d_PS_replayRow_4 : decode prog_1_method_19_code 4 = .ok (.aload_n 3, 1) := by decide +kernel
theorem d_PS_replayRow_5 : decode prog_1_method_19_code 5 = .ok (.invokevirtual 190, 3) := by decide +kernel
theorem d_PS_replayRow_8 : decode prog_1_method_19_code 8 = .ok (.aload_n 1, 1) := by decide +kernel
theorem d_PS_replayRow_9 : decode prog_1_method_19_code 9 = .ok (.aload_n 0, 1) := by decide +kernel
theorem d_PS_replayRow_10 : decode prog_1_method_19_code 10 = .ok (.getfield 40, 3) := by decide +kernel
theorem d_PS_replayRow_13 : decode prog_1_method_19_code 13 = .ok (.invokevirtual 145, 3) := by decide +kernel
theorem d_PS_replayRow_16 : decode prog_1_method_19_code 16 = .ok (.aload_n 0, 1) := by decide +kernel
theorem d_PS_replayRow_17 : decode prog_1_method_19_code 17 = .ok (.aload_n 2, 1) := by decide +kernel
theorem d_PS_replayRow_18 : decode prog_1_method_19_code 18 = .ok (.invokevirtual 193, 3) := by decide +kernel
theorem d_PS_replayRow_21 : decode prog_1_method_19_code 21 = .ok (.ireturn, 1) := by decide +kernel
theorem d_PS_verdictOfDraws_0 : decode prog_1_method_20_code 0 = .ok (.aload_n 0, 1) := by decide +kernel
theorem d_PS_verdictOfDraws_1 : decode prog_1_method_20_code 1 = .ok (.getfield 40, 3) := by decide +kernel
theorem d_PS_verdictOfDraws_4 : decode prog_1_method_20_code 4 = .ok (.getfield 149, 3) := by decide +kernel
theorem d_PS_verdictOfDraws_7 : decode prog_1_method_20_code 7 = .ok (.ifCond .eq 7, 3) := by decide +kernel
theorem d_PS_verdictOfDraws_10 : decode prog_1_method_20_code 10 = .ok (.iconst 4, 1) := by decide +kernel
theorem d_PS_verdictOfDraws_11 : decode prog_1_method_20_code 11 = .ok (.goto 14, 3) := by decide +kernel
theorem d_PS_verdictOfDraws_14 : decode prog_1_method_20_code 14 = .ok (.aload_n 1, 1) := by decide +kernel
theorem d_PS_verdictOfDraws_15 : decode prog_1_method_20_code 15 = .ok (.aload_n 0, 1) := by decide +kernel
theorem d_PS_verdictOfDraws_16 : decode prog_1_method_20_code 16 = .ok (.getfield 40, 3) := by decide +kernel
theorem d_PS_verdictOfDraws_19 : decode prog_1_method_20_code 19 = .ok (.getfield 122, 3) := by decide +kernel
theorem d_PS_verdictOfDraws_22 : decode prog_1_method_20_code 22 = .ok (.invokevirtual 197, 3) := by decide +kernel
theorem d_PS_verdictOfDraws_25 : decode prog_1_method_20_code 25 = .ok (.ireturn, 1) := by decide +kernel
theorem d_PS_isBad_0 : decode prog_1_method_21_code 0 = .ok (.iload_n 0, 1) := by decide +kernel
theorem d_PS_isBad_1 : decode prog_1_method_21_code 1 = .ok (.iconst 1, 1) := by decide +kernel
theorem d_PS_isBad_2 : decode prog_1_method_21_code 2 = .ok (.if_icmp .eq 8, 3) := by decide +kernel
theorem d_PS_isBad_5 : decode prog_1_method_21_code 5 = .ok (.iload_n 0, 1) := by decide +kernel
theorem d_PS_isBad_6 : decode prog_1_method_21_code 6 = .ok (.iconst 2, 1) := by decide +kernel
theorem d_PS_isBad_7 : decode prog_1_method_21_code 7 = .ok (.if_icmp .ne 7, 3) := by decide +kernel
theorem d_PS_isBad_10 : decode prog_1_method_21_code 10 = .ok (.iconst 1, 1) := by decide +kernel
theorem d_PS_isBad_11 : decode prog_1_method_21_code 11 = .ok (.goto 4, 3) := by decide +kernel
theorem d_PS_isBad_14 : decode prog_1_method_21_code 14 = .ok (.iconst 0, 1) := by decide +kernel
theorem d_PS_isBad_15 : decode prog_1_method_21_code 15 = .ok (.ireturn, 1) := by decide +kernel
theorem d_PS_takeFound_0 : decode prog_1_method_24_code 0 = .ok (.aload_n 0, 1) := by decide +kernel
theorem d_PS_takeFound_1 : decode prog_1_method_24_code 1 = .ok (.aload_n 1, 1) := by decide +kernel
theorem d_PS_takeFound_2 : decode prog_1_method_24_code 2 = .ok (.putfield 92, 3) := by decide +kernel
theorem d_PS_takeFound_5 : decode prog_1_method_24_code 5 = .ok (.aload_n 0, 1) := by decide +kernel
theorem d_PS_takeFound_6 : decode prog_1_method_24_code 6 = .ok (.aload_n 2, 1) := by decide +kernel
theorem d_PS_takeFound_7 : decode prog_1_method_24_code 7 = .ok (.putfield 96, 3) := by decide +kernel
theorem d_PS_takeFound_10 : decode prog_1_method_24_code 10 = .ok (.aload_n 0, 1) := by decide +kernel
theorem d_PS_takeFound_11 : decode prog_1_method_24_code 11 = .ok (.iload_n 3, 1) := by decide +kernel
theorem d_PS_takeFound_12 : decode prog_1_method_24_code 12 = .ok (.putfield 115, 3) := by decide +kernel
theorem d_PS_takeFound_15 : decode prog_1_method_24_code 15 = .ok (.aload_n 0, 1) := by decide +kernel
theorem d_PS_takeFound_16 : decode prog_1_method_24_code 16 = .ok (.iconst 0, 1) := by decide +kernel
theorem d_PS_takeFound_17 : decode prog_1_method_24_code 17 = .ok (.putfield 111, 3) := by decide +kernel
theorem d_PS_takeFound_20 : decode prog_1_method_24_code 20 = .ok (.aload_n 0, 1) := by decide +kernel
theorem d_PS_takeFound_21 : decode prog_1_method_24_code 21 = .ok (.invokevirtual 104, 3) := by decide +kernel
theorem d_PS_takeFound_24 : decode prog_1_method_24_code 24 = .ok (.return_, 1) := by decide +kernel
theorem d_PS_takeRow_0 : decode prog_1_method_25_code 0 = .ok (.aload_n 0, 1) := by decide +kernel
theorem d_PS_takeRow_1 : decode prog_1_method_25_code 1 = .ok (.getfield 24, 3) := by decide +kernel
theorem d_PS_takeRow_4 : decode prog_1_method_25_code 4 = .ok (.aload_n 0, 1) := by decide +kernel
theorem d_PS_takeRow_5 : decode prog_1_method_25_code 5 = .ok (.getfield 40, 3) := by decide +kernel
theorem d_PS_takeRow_8 : decode prog_1_method_25_code 8 = .ok (.getfield 227, 3) := by decide +kernel
theorem d_PS_takeRow_11 : decode prog_1_method_25_code 11 = .ok (.invokevirtual 123, 3) := by decide +kernel
theorem d_PS_takeRow_14 : decode prog_1_method_25_code 14 = .ok (.aload_n 0, 1) := by decide +kernel
theorem d_PS_takeRow_15 : decode prog_1_method_25_code 15 = .ok (.getfield 28, 3) := by decide +kernel
theorem d_PS_takeRow_18 : decode prog_1_method_25_code 18 = .ok (.aload_n 0, 1) := by decide +kernel
theorem d_PS_takeRow_19 : decode prog_1_method_25_code 19 = .ok (.getfield 40, 3) := by decide +kernel
theorem d_PS_takeRow_22 : decode prog_1_method_25_code 22 = .ok (.getfield 122, 3) := by decide +kernel
theorem d_PS_takeRow_25 : decode prog_1_method_25_code 25 = .ok (.invokevirtual 123, 3) := by decide +kernel
theorem d_PS_takeRow_28 : decode prog_1_method_25_code 28 = .ok (.return_, 1) := by decide +kernel
theorem d_PS_findBySeed_0 : decode prog_1_method_23_code 0 = .ok (.iconst 0, 1) := by decide +kernel
theorem d_PS_findBySeed_1 : decode prog_1_method_23_code 1 = .ok (.istore 6, 2) := by decide +kernel
theorem d_PS_findBySeed_3 : decode prog_1_method_23_code 3 = .ok (.aload_n 0, 1) := by decide +kernel
theorem d_PS_findBySeed_4 : decode prog_1_method_23_code 4 = .ok (.getfield 40, 3) := by decide +kernel
theorem d_PS_findBySeed_7 : decode prog_1_method_23_code 7 = .ok (.lload_n 3, 1) := by decide +kernel
theorem d_PS_findBySeed_8 : decode prog_1_method_23_code 8 = .ok (.invokevirtual 220, 3) := by decide +kernel
theorem d_PS_findBySeed_11 : decode prog_1_method_23_code 11 = .ok (.iconst 0, 1) := by decide +kernel
theorem d_PS_findBySeed_12 : decode prog_1_method_23_code 12 = .ok (.istore 7, 2) := by decide +kernel
theorem d_PS_findBySeed_14 : decode prog_1_method_23_code 14 = .ok (.iload 6, 2) := by decide +kernel
theorem d_PS_findBySeed_16 : decode prog_1_method_23_code 16 = .ok (.iload 5, 2) := by decide +kernel
theorem d_PS_findBySeed_18 : decode prog_1_method_23_code 18 = .ok (.if_icmp .ge 91, 3) := by decide +kernel
theorem d_PS_findBySeed_21 : decode prog_1_method_23_code 21 = .ok (.iload 7, 2) := by decide +kernel
theorem d_PS_findBySeed_23 : decode prog_1_method_23_code 23 = .ok (.bipush 120, 2) := by decide +kernel
theorem d_PS_findBySeed_25 : decode prog_1_method_23_code 25 = .ok (.if_icmp .gt 84, 3) := by decide +kernel
theorem d_PS_findBySeed_28 : decode prog_1_method_23_code 28 = .ok (.aload_n 0, 1) := by decide +kernel
theorem d_PS_findBySeed_29 : decode prog_1_method_23_code 29 = .ok (.getfield 40, 3) := by decide +kernel
theorem d_PS_findBySeed_32 : decode prog_1_method_23_code 32 = .ok (.iload 7, 2) := by decide +kernel
theorem d_PS_findBySeed_34 : decode prog_1_method_23_code 34 = .ok (.invokevirtual 224, 3) := by decide +kernel
theorem d_PS_findBySeed_37 : decode prog_1_method_23_code 37 = .ok (.aload_n 1, 1) := by decide +kernel
theorem d_PS_findBySeed_38 : decode prog_1_method_23_code 38 = .ok (.aload_n 0, 1) := by decide +kernel
theorem d_PS_findBySeed_39 : decode prog_1_method_23_code 39 = .ok (.getfield 40, 3) := by decide +kernel
theorem d_PS_findBySeed_42 : decode prog_1_method_23_code 42 = .ok (.invokevirtual 145, 3) := by decide +kernel
theorem d_PS_findBySeed_45 : decode prog_1_method_23_code 45 = .ok (.aload_n 0, 1) := by decide +kernel
theorem d_PS_findBySeed_46 : decode prog_1_method_23_code 46 = .ok (.aload_n 2, 1) := by decide +kernel
theorem d_PS_findBySeed_47 : decode prog_1_method_23_code 47 = .ok (.invokevirtual 193, 3) := by decide +kernel
theorem d_PS_findBySeed_50 : decode prog_1_method_23_code 50 = .ok (.istore 8, 2) := by decide +kernel
theorem d_PS_findBySeed_52 : decode prog_1_method_23_code 52 = .ok (.iload 8, 2) := by decide +kernel
theorem d_PS_findBySeed_54 : decode prog_1_method_23_code 54 = .ok (.invokestatic 210, 3) := by decide +kernel
theorem d_PS_findBySeed_57 : decode prog_1_method_23_code 57 = .ok (.ifCond .eq 13, 3) := by decide +kernel
theorem d_PS_findBySeed_60 : decode prog_1_method_23_code 60 = .ok (.aload_n 0, 1) := by decide +kernel
theorem d_PS_findBySeed_61 : decode prog_1_method_23_code 61 = .ok (.aload_n 1, 1) := by decide +kernel
theorem d_PS_findBySeed_62 : decode prog_1_method_23_code 62 = .ok (.aload_n 2, 1) := by decide +kernel
theorem d_PS_findBySeed_63 : decode prog_1_method_23_code 63 = .ok (.iload 8, 2) := by decide +kernel
theorem d_PS_findBySeed_65 : decode prog_1_method_23_code 65 = .ok (.invokevirtual 213, 3) := by decide +kernel
theorem d_PS_findBySeed_68 : decode prog_1_method_23_code 68 = .ok (.iconst (-1), 1) := by decide +kernel
theorem d_PS_findBySeed_69 : decode prog_1_method_23_code 69 = .ok (.ireturn, 1) := by decide +kernel
theorem d_PS_findBySeed_70 : decode prog_1_method_23_code 70 = .ok (.iload 8, 2) := by decide +kernel
theorem d_PS_findBySeed_72 : decode prog_1_method_23_code 72 = .ok (.ifCond .ne 9, 3) := by decide +kernel
theorem d_PS_findBySeed_75 : decode prog_1_method_23_code 75 = .ok (.iinc 6 1, 3) := by decide +kernel
theorem d_PS_findBySeed_78 : decode prog_1_method_23_code 78 = .ok (.goto 13, 3) := by decide +kernel
theorem d_PS_findBySeed_81 : decode prog_1_method_23_code 81 = .ok (.aload_n 0, 1) := by decide +kernel
theorem d_PS_findBySeed_82 : decode prog_1_method_23_code 82 = .ok (.dup, 1) := by decide +kernel
theorem d_PS_findBySeed_83 : decode prog_1_method_23_code 83 = .ok (.getfield 69, 3) := by decide +kernel
theorem d_PS_findBySeed_86 : decode prog_1_method_23_code 86 = .ok (.iconst 1, 1) := by decide +kernel
theorem d_PS_findBySeed_87 : decode prog_1_method_23_code 87 = .ok (.iadd, 1) := by decide +kernel
theorem d_PS_findBySeed_88 : decode prog_1_method_23_code 88 = .ok (.putfield 69, 3) := by decide +kernel
theorem d_PS_findBySeed_91 : decode prog_1_method_23_code 91 = .ok (.aload_n 0, 1) := by decide +kernel
theorem d_PS_findBySeed_92 : decode prog_1_method_23_code 92 = .ok (.getfield 69, 3) := by decide +kernel
theorem d_PS_findBySeed_95 : decode prog_1_method_23_code 95 = .ok (.iload 5, 2) := by decide +kernel
theorem d_PS_findBySeed_97 : decode prog_1_method_23_code 97 = .ok (.if_icmp .le 6, 3) := by decide +kernel
theorem d_PS_findBySeed_100 : decode prog_1_method_23_code 100 = .ok (.bipush (-2), 2) := by decide +kernel
theorem d_PS_findBySeed_102 : decode prog_1_method_23_code 102 = .ok (.ireturn, 1) := by decide +kernel
theorem d_PS_findBySeed_103 : decode prog_1_method_23_code 103 = .ok (.iinc 7 1, 3) := by decide +kernel
theorem d_PS_findBySeed_106 : decode prog_1_method_23_code 106 = .ok (.goto (-92), 3) := by decide +kernel
theorem d_PS_findBySeed_109 : decode prog_1_method_23_code 109 = .ok (.iload 5, 2) := by decide +kernel
theorem d_PS_findBySeed_111 : decode prog_1_method_23_code 111 = .ok (.ireturn, 1) := by decide +kernel
theorem d_PS_shrink_0 : decode prog_1_method_5_code 0 = .ok (.aload_n 0, 1) := by decide +kernel
theorem d_PS_shrink_1 : decode prog_1_method_5_code 1 = .ok (.getfield 92, 3) := by decide +kernel
theorem d_PS_shrink_4 : decode prog_1_method_5_code 4 = .ok (.astore_n 2, 1) := by decide +kernel
theorem d_PS_shrink_5 : decode prog_1_method_5_code 5 = .ok (.aload_n 0, 1) := by decide +kernel
theorem d_PS_shrink_6 : decode prog_1_method_5_code 6 = .ok (.getfield 96, 3) := by decide +kernel
theorem d_PS_shrink_9 : decode prog_1_method_5_code 9 = .ok (.astore_n 3, 1) := by decide +kernel
theorem d_PS_shrink_10 : decode prog_1_method_5_code 10 = .ok (.aload_n 2, 1) := by decide +kernel
theorem d_PS_shrink_11 : decode prog_1_method_5_code 11 = .ok (.ifnull 18, 3) := by decide +kernel
theorem d_PS_shrink_14 : decode prog_1_method_5_code 14 = .ok (.aload_n 3, 1) := by decide +kernel
theorem d_PS_shrink_15 : decode prog_1_method_5_code 15 = .ok (.ifnull 14, 3) := by decide +kernel
theorem d_PS_shrink_18 : decode prog_1_method_5_code 18 = .ok (.iload_n 1, 1) := by decide +kernel
theorem d_PS_shrink_19 : decode prog_1_method_5_code 19 = .ok (.ifCond .lt 10, 3) := by decide +kernel
theorem d_PS_shrink_22 : decode prog_1_method_5_code 22 = .ok (.iload_n 1, 1) := by decide +kernel
theorem d_PS_shrink_23 : decode prog_1_method_5_code 23 = .ok (.sipush 400, 3) := by decide +kernel
theorem d_PS_shrink_26 : decode prog_1_method_5_code 26 = .ok (.if_icmp .le 5, 3) := by decide +kernel
theorem d_PS_shrink_29 : decode prog_1_method_5_code 29 = .ok (.iconst (-1), 1) := by decide +kernel
theorem d_PS_shrink_30 : decode prog_1_method_5_code 30 = .ok (.ireturn, 1) := by decide +kernel
theorem d_PS_shrink_31 : decode prog_1_method_5_code 31 = .ok (.aload_n 0, 1) := by decide +kernel
theorem d_PS_shrink_32 : decode prog_1_method_5_code 32 = .ok (.aload_n 2, 1) := by decide +kernel
theorem d_PS_shrink_33 : decode prog_1_method_5_code 33 = .ok (.aload_n 3, 1) := by decide +kernel
theorem d_PS_shrink_34 : decode prog_1_method_5_code 34 = .ok (.aload_n 0, 1) := by decide +kernel
theorem d_PS_shrink_35 : decode prog_1_method_5_code 35 = .ok (.getfield 24, 3) := by decide +kernel
theorem d_PS_shrink_38 : decode prog_1_method_5_code 38 = .ok (.invokevirtual 100, 3) := by decide +kernel
theorem d_PS_shrink_41 : decode prog_1_method_5_code 41 = .ok (.pop, 1) := by decide +kernel
theorem d_PS_shrink_42 : decode prog_1_method_5_code 42 = .ok (.aload_n 0, 1) := by decide +kernel
theorem d_PS_shrink_43 : decode prog_1_method_5_code 43 = .ok (.invokevirtual 104, 3) := by decide +kernel
theorem d_PS_shrink_46 : decode prog_1_method_5_code 46 = .ok (.iconst 0, 1) := by decide +kernel
theorem d_PS_shrink_47 : decode prog_1_method_5_code 47 = .ok (.istore 4, 2) := by decide +kernel
theorem d_PS_shrink_49 : decode prog_1_method_5_code 49 = .ok (.iconst 0, 1) := by decide +kernel
theorem d_PS_shrink_50 : decode prog_1_method_5_code 50 = .ok (.istore 5, 2) := by decide +kernel
theorem d_PS_shrink_52 : decode prog_1_method_5_code 52 = .ok (.iconst 0, 1) := by decide +kernel
theorem d_PS_shrink_53 : decode prog_1_method_5_code 53 = .ok (.istore 6, 2) := by decide +kernel
theorem d_PS_shrink_55 : decode prog_1_method_5_code 55 = .ok (.iload 6, 2) := by decide +kernel
theorem d_PS_shrink_57 : decode prog_1_method_5_code 57 = .ok (.iload_n 1, 1) := by decide +kernel
theorem d_PS_shrink_58 : decode prog_1_method_5_code 58 = .ok (.if_icmp .ge 56, 3) := by decide +kernel
theorem d_PS_shrink_61 : decode prog_1_method_5_code 61 = .ok (.aload_n 0, 1) := by decide +kernel
theorem d_PS_shrink_62 : decode prog_1_method_5_code 62 = .ok (.iload 5, 2) := by decide +kernel
theorem d_PS_shrink_64 : decode prog_1_method_5_code 64 = .ok (.invokevirtual 107, 3) := by decide +kernel
theorem d_PS_shrink_67 : decode prog_1_method_5_code 67 = .ok (.ifCond .ne 11, 3) := by decide +kernel
theorem d_PS_shrink_70 : decode prog_1_method_5_code 70 = .ok (.aload_n 0, 1) := by decide +kernel
theorem d_PS_shrink_71 : decode prog_1_method_5_code 71 = .ok (.iconst 1, 1) := by decide +kernel
theorem d_PS_shrink_72 : decode prog_1_method_5_code 72 = .ok (.putfield 111, 3) := by decide +kernel
theorem d_PS_shrink_75 : decode prog_1_method_5_code 75 = .ok (.iload 4, 2) := by decide +kernel
theorem d_PS_shrink_77 : decode prog_1_method_5_code 77 = .ok (.ireturn, 1) := by decide +kernel
theorem d_PS_shrink_78 : decode prog_1_method_5_code 78 = .ok (.iinc 5 1, 3) := by decide +kernel
theorem d_PS_shrink_81 : decode prog_1_method_5_code 81 = .ok (.aload_n 0, 1) := by decide +kernel
theorem d_PS_shrink_82 : decode prog_1_method_5_code 82 = .ok (.aload_n 2, 1) := by decide +kernel
theorem d_PS_shrink_83 : decode prog_1_method_5_code 83 = .ok (.aload_n 3, 1) := by decide +kernel
theorem d_PS_shrink_84 : decode prog_1_method_5_code 84 = .ok (.aload_n 0, 1) := by decide +kernel
theorem d_PS_shrink_85 : decode prog_1_method_5_code 85 = .ok (.getfield 34, 3) := by decide +kernel
theorem d_PS_shrink_88 : decode prog_1_method_5_code 88 = .ok (.invokevirtual 100, 3) := by decide +kernel
theorem d_PS_shrink_91 : decode prog_1_method_5_code 91 = .ok (.aload_n 0, 1) := by decide +kernel
theorem d_PS_shrink_92 : decode prog_1_method_5_code 92 = .ok (.getfield 115, 3) := by decide +kernel
theorem d_PS_shrink_95 : decode prog_1_method_5_code 95 = .ok (.if_icmp .ne 13, 3) := by decide +kernel
theorem d_PS_shrink_98 : decode prog_1_method_5_code 98 = .ok (.aload_n 0, 1) := by decide +kernel
theorem d_PS_shrink_99 : decode prog_1_method_5_code 99 = .ok (.invokevirtual 104, 3) := by decide +kernel
theorem d_PS_shrink_102 : decode prog_1_method_5_code 102 = .ok (.iinc 4 1, 3) := by decide +kernel
theorem d_PS_shrink_105 : decode prog_1_method_5_code 105 = .ok (.iconst 0, 1) := by decide +kernel
theorem d_PS_shrink_106 : decode prog_1_method_5_code 106 = .ok (.istore 5, 2) := by decide +kernel
theorem d_PS_shrink_108 : decode prog_1_method_5_code 108 = .ok (.iinc 6 1, 3) := by decide +kernel
theorem d_PS_shrink_111 : decode prog_1_method_5_code 111 = .ok (.goto (-56), 3) := by decide +kernel
theorem d_PS_shrink_114 : decode prog_1_method_5_code 114 = .ok (.iload 4, 2) := by decide +kernel
theorem d_PS_shrink_116 : decode prog_1_method_5_code 116 = .ok (.ireturn, 1) := by decide +kernel
theorem d_PS_makeStep_0 : decode prog_1_method_26_code 0 = .ok (.aload_n 0, 1) := by decide +kernel
theorem d_PS_makeStep_1 : decode prog_1_method_26_code 1 = .ok (.iload_n 1, 1) := by decide +kernel
theorem d_PS_makeStep_2 : decode prog_1_method_26_code 2 = .ok (.invokevirtual 228, 3) := by decide +kernel
theorem d_PS_makeStep_5 : decode prog_1_method_26_code 5 = .ok (.istore_n 2, 1) := by decide +kernel
theorem d_PS_makeStep_6 : decode prog_1_method_26_code 6 = .ok (.iload_n 2, 1) := by decide +kernel
theorem d_PS_makeStep_7 : decode prog_1_method_26_code 7 = .ok (.iconst (-1), 1) := by decide +kernel
theorem d_PS_makeStep_8 : decode prog_1_method_26_code 8 = .ok (.if_icmp .eq 9, 3) := by decide +kernel
theorem d_PS_makeStep_11 : decode prog_1_method_26_code 11 = .ok (.aload_n 0, 1) := by decide +kernel
theorem d_PS_makeStep_12 : decode prog_1_method_26_code 12 = .ok (.iload_n 2, 1) := by decide +kernel
theorem d_PS_makeStep_13 : decode prog_1_method_26_code 13 = .ok (.invokevirtual 232, 3) := by decide +kernel
theorem d_PS_makeStep_16 : decode prog_1_method_26_code 16 = .ok (.istore_n 2, 1) := by decide +kernel
theorem d_PS_makeStep_17 : decode prog_1_method_26_code 17 = .ok (.iload_n 2, 1) := by decide +kernel
theorem d_PS_makeStep_18 : decode prog_1_method_26_code 18 = .ok (.iconst (-1), 1) := by decide +kernel
theorem d_PS_makeStep_19 : decode prog_1_method_26_code 19 = .ok (.if_icmp .eq 9, 3) := by decide +kernel
theorem d_PS_makeStep_22 : decode prog_1_method_26_code 22 = .ok (.aload_n 0, 1) := by decide +kernel
theorem d_PS_makeStep_23 : decode prog_1_method_26_code 23 = .ok (.iload_n 2, 1) := by decide +kernel
theorem d_PS_makeStep_24 : decode prog_1_method_26_code 24 = .ok (.invokevirtual 235, 3) := by decide +kernel
theorem d_PS_makeStep_27 : decode prog_1_method_26_code 27 = .ok (.istore_n 2, 1) := by decide +kernel
theorem d_PS_makeStep_28 : decode prog_1_method_26_code 28 = .ok (.iload_n 2, 1) := by decide +kernel
theorem d_PS_makeStep_29 : decode prog_1_method_26_code 29 = .ok (.iconst (-1), 1) := by decide +kernel
theorem d_PS_makeStep_30 : decode prog_1_method_26_code 30 = .ok (.if_icmp .ne 7, 3) := by decide +kernel
theorem d_PS_makeStep_33 : decode prog_1_method_26_code 33 = .ok (.iconst 1, 1) := by decide +kernel
theorem d_PS_makeStep_34 : decode prog_1_method_26_code 34 = .ok (.goto 4, 3) := by decide +kernel
theorem d_PS_makeStep_37 : decode prog_1_method_26_code 37 = .ok (.iconst 0, 1) := by decide +kernel
theorem d_PS_makeStep_38 : decode prog_1_method_26_code 38 = .ok (.ireturn, 1) := by decide +kernel
theorem d_PS_makeDrop_0 : decode prog_1_method_27_code 0 = .ok (.iload_n 1, 1) := by decide +kernel
theorem d_PS_makeDrop_1 : decode prog_1_method_27_code 1 = .ok (.istore_n 2, 1) := by decide +kernel
theorem d_PS_makeDrop_2 : decode prog_1_method_27_code 2 = .ok (.bipush 8, 2) := by decide +kernel
theorem d_PS_makeDrop_4 : decode prog_1_method_27_code 4 = .ok (.istore_n 3, 1) := by decide +kernel
theorem d_PS_makeDrop_5 : decode prog_1_method_27_code 5 = .ok (.iload_n 3, 1) := by decide +kernel
theorem d_PS_makeDrop_6 : decode prog_1_method_27_code 6 = .ok (.iconst 1, 1) := by decide +kernel
theorem d_PS_makeDrop_7 : decode prog_1_method_27_code 7 = .ok (.if_icmp .lt 53, 3) := by decide +kernel
theorem d_PS_makeDrop_10 : decode prog_1_method_27_code 10 = .ok (.iconst 0, 1) := by decide +kernel
theorem d_PS_makeDrop_11 : decode prog_1_method_27_code 11 = .ok (.aload_n 0, 1) := by decide +kernel
theorem d_PS_makeDrop_12 : decode prog_1_method_27_code 12 = .ok (.getfield 24, 3) := by decide +kernel
theorem d_PS_makeDrop_15 : decode prog_1_method_27_code 15 = .ok (.invokevirtual 134, 3) := by decide +kernel
theorem d_PS_makeDrop_18 : decode prog_1_method_27_code 18 = .ok (.iload_n 3, 1) := by decide +kernel
theorem d_PS_makeDrop_19 : decode prog_1_method_27_code 19 = .ok (.isub, 1) := by decide +kernel
theorem d_PS_makeDrop_20 : decode prog_1_method_27_code 20 = .ok (.iconst 1, 1) := by decide +kernel
theorem d_PS_makeDrop_21 : decode prog_1_method_27_code 21 = .ok (.iadd, 1) := by decide +kernel
theorem d_PS_makeDrop_22 : decode prog_1_method_27_code 22 = .ok (.invokestatic 238, 3) := by decide +kernel
theorem d_PS_makeDrop_25 : decode prog_1_method_27_code 25 = .ok (.istore 4, 2) := by decide +kernel
theorem d_PS_makeDrop_27 : decode prog_1_method_27_code 27 = .ok (.iload_n 2, 1) := by decide +kernel
theorem d_PS_makeDrop_28 : decode prog_1_method_27_code 28 = .ok (.iload 4, 2) := by decide +kernel
theorem d_PS_makeDrop_30 : decode prog_1_method_27_code 30 = .ok (.if_icmp .ge 18, 3) := by decide +kernel
theorem d_PS_makeDrop_33 : decode prog_1_method_27_code 33 = .ok (.aload_n 0, 1) := by decide +kernel
theorem d_PS_makeDrop_34 : decode prog_1_method_27_code 34 = .ok (.getfield 34, 3) := by decide +kernel
theorem d_PS_makeDrop_37 : decode prog_1_method_27_code 37 = .ok (.aload_n 0, 1) := by decide +kernel
theorem d_PS_makeDrop_38 : decode prog_1_method_27_code 38 = .ok (.getfield 24, 3) := by decide +kernel
theorem d_PS_makeDrop_41 : decode prog_1_method_27_code 41 = .ok (.iload_n 2, 1) := by decide +kernel
theorem d_PS_makeDrop_42 : decode prog_1_method_27_code 42 = .ok (.iload_n 3, 1) := by decide +kernel
theorem d_PS_makeDrop_43 : decode prog_1_method_27_code 43 = .ok (.invokevirtual 243, 3) := by decide +kernel
theorem d_PS_makeDrop_46 : decode prog_1_method_27_code 46 = .ok (.iconst (-1), 1) := by decide +kernel
theorem d_PS_makeDrop_47 : decode prog_1_method_27_code 47 = .ok (.ireturn, 1) := by decide +kernel
theorem d_PS_makeDrop_48 : decode prog_1_method_27_code 48 = .ok (.iload_n 2, 1) := by decide +kernel
theorem d_PS_makeDrop_49 : decode prog_1_method_27_code 49 = .ok (.iload 4, 2) := by decide +kernel
theorem d_PS_makeDrop_51 : decode prog_1_method_27_code 51 = .ok (.isub, 1) := by decide +kernel
theorem d_PS_makeDrop_52 : decode prog_1_method_27_code 52 = .ok (.istore_n 2, 1) := by decide +kernel
theorem d_PS_makeDrop_53 : decode prog_1_method_27_code 53 = .ok (.iload_n 3, 1) := by decide +kernel
theorem d_PS_makeDrop_54 : decode prog_1_method_27_code 54 = .ok (.iconst 2, 1) := by decide +kernel
theorem d_PS_makeDrop_55 : decode prog_1_method_27_code 55 = .ok (.idiv, 1) := by decide +kernel
theorem d_PS_makeDrop_56 : decode prog_1_method_27_code 56 = .ok (.istore_n 3, 1) := by decide +kernel
theorem d_PS_makeDrop_57 : decode prog_1_method_27_code 57 = .ok (.goto (-52), 3) := by decide +kernel
theorem d_PS_makeDrop_60 : decode prog_1_method_27_code 60 = .ok (.iload_n 2, 1) := by decide +kernel
theorem d_PS_makeDrop_61 : decode prog_1_method_27_code 61 = .ok (.ireturn, 1) := by decide +kernel
theorem d_PS_makeLowering_0 : decode prog_1_method_28_code 0 = .ok (.iload_n 1, 1) := by decide +kernel
theorem d_PS_makeLowering_1 : decode prog_1_method_28_code 1 = .ok (.istore_n 2, 1) := by decide +kernel
theorem d_PS_makeLowering_2 : decode prog_1_method_28_code 2 = .ok (.iconst 0, 1) := by decide +kernel
theorem d_PS_makeLowering_3 : decode prog_1_method_28_code 3 = .ok (.istore_n 3, 1) := by decide +kernel
theorem d_PS_makeLowering_4 : decode prog_1_method_28_code 4 = .ok (.iload_n 3, 1) := by decide +kernel
theorem d_PS_makeLowering_5 : decode prog_1_method_28_code 5 = .ok (.aload_n 0, 1) := by decide +kernel
theorem d_PS_makeLowering_6 : decode prog_1_method_28_code 6 = .ok (.getfield 24, 3) := by decide +kernel
theorem d_PS_makeLowering_9 : decode prog_1_method_28_code 9 = .ok (.invokevirtual 134, 3) := by decide +kernel
theorem d_PS_makeLowering_12 : decode prog_1_method_28_code 12 = .ok (.if_icmp .ge 66, 3) := by decide +kernel
theorem d_PS_makeLowering_15 : decode prog_1_method_28_code 15 = .ok (.aload_n 0, 1) := by decide +kernel
theorem d_PS_makeLowering_16 : decode prog_1_method_28_code 16 = .ok (.getfield 24, 3) := by decide +kernel
theorem d_PS_makeLowering_19 : decode prog_1_method_28_code 19 = .ok (.iload_n 3, 1) := by decide +kernel
theorem d_PS_makeLowering_20 : decode prog_1_method_28_code 20 = .ok (.iconst 0, 1) := by decide +kernel
theorem d_PS_makeLowering_21 : decode prog_1_method_28_code 21 = .ok (.invokevirtual 130, 3) := by decide +kernel
theorem d_PS_makeLowering_24 : decode prog_1_method_28_code 24 = .ok (.istore 4, 2) := by decide +kernel
theorem d_PS_makeLowering_26 : decode prog_1_method_28_code 26 = .ok (.iload 4, 2) := by decide +kernel
theorem d_PS_makeLowering_28 : decode prog_1_method_28_code 28 = .ok (.iconst 3, 1) := by decide +kernel
theorem d_PS_makeLowering_29 : decode prog_1_method_28_code 29 = .ok (.invokestatic 247, 3) := by decide +kernel
theorem d_PS_makeLowering_32 : decode prog_1_method_28_code 32 = .ok (.istore 5, 2) := by decide +kernel
theorem d_PS_makeLowering_34 : decode prog_1_method_28_code 34 = .ok (.iload_n 2, 1) := by decide +kernel
theorem d_PS_makeLowering_35 : decode prog_1_method_28_code 35 = .ok (.iload 5, 2) := by decide +kernel
theorem d_PS_makeLowering_37 : decode prog_1_method_28_code 37 = .ok (.if_icmp .ge 30, 3) := by decide +kernel
theorem d_PS_makeLowering_40 : decode prog_1_method_28_code 40 = .ok (.aload_n 0, 1) := by decide +kernel
theorem d_PS_makeLowering_41 : decode prog_1_method_28_code 41 = .ok (.getfield 34, 3) := by decide +kernel
theorem d_PS_makeLowering_44 : decode prog_1_method_28_code 44 = .ok (.aload_n 0, 1) := by decide +kernel
theorem d_PS_makeLowering_45 : decode prog_1_method_28_code 45 = .ok (.getfield 24, 3) := by decide +kernel
theorem d_PS_makeLowering_48 : decode prog_1_method_28_code 48 = .ok (.invokevirtual 123, 3) := by decide +kernel
theorem d_PS_makeLowering_51 : decode prog_1_method_28_code 51 = .ok (.aload_n 0, 1) := by decide +kernel
theorem d_PS_makeLowering_52 : decode prog_1_method_28_code 52 = .ok (.getfield 34, 3) := by decide +kernel
theorem d_PS_makeLowering_55 : decode prog_1_method_28_code 55 = .ok (.iload_n 3, 1) := by decide +kernel
theorem d_PS_makeLowering_56 : decode prog_1_method_28_code 56 = .ok (.iload 4, 2) := by decide +kernel
theorem d_PS_makeLowering_58 : decode prog_1_method_28_code 58 = .ok (.iload_n 2, 1) := by decide +kernel
theorem d_PS_makeLowering_59 : decode prog_1_method_28_code 59 = .ok (.invokestatic 250, 3) := by decide +kernel
theorem d_PS_makeLowering_62 : decode prog_1_method_28_code 62 = .ok (.invokevirtual 253, 3) := by decide +kernel
theorem d_PS_makeLowering_65 : decode prog_1_method_28_code 65 = .ok (.iconst (-1), 1) := by decide +kernel
theorem d_PS_makeLowering_66 : decode prog_1_method_28_code 66 = .ok (.ireturn, 1) := by decide +kernel
theorem d_PS_makeLowering_67 : decode prog_1_method_28_code 67 = .ok (.iload_n 2, 1) := by decide +kernel
theorem d_PS_makeLowering_68 : decode prog_1_method_28_code 68 = .ok (.iload 5, 2) := by decide +kernel
theorem d_PS_makeLowering_70 : decode prog_1_method_28_code 70 = .ok (.isub, 1) := by decide +kernel
theorem d_PS_makeLowering_71 : decode prog_1_method_28_code 71 = .ok (.istore_n 2, 1) := by decide +kernel
theorem d_PS_makeLowering_72 : decode prog_1_method_28_code 72 = .ok (.iinc 3 1, 3) := by decide +kernel
theorem d_PS_makeLowering_75 : decode prog_1_method_28_code 75 = .ok (.goto (-71), 3) := by decide +kernel
theorem d_PS_makeLowering_78 : decode prog_1_method_28_code 78 = .ok (.iload_n 2, 1) := by decide +kernel
theorem d_PS_makeLowering_79 : decode prog_1_method_28_code 79 = .ok (.ireturn, 1) := by decide +kernel
theorem d_PS_lowered_0 : decode prog_1_method_29_code 0 = .ok (.iload_n 1, 1) := by decide +kernel
theorem d_PS_lowered_1 : decode prog_1_method_29_code 1 = .ok (.lookupswitch 33 #[(0, 27), (1, 29)], 27) := by decide +kernel
theorem d_PS_lowered_28 : decode prog_1_method_29_code 28 = .ok (.iconst 0, 1) := by decide +kernel
theorem d_PS_lowered_29 : decode prog_1_method_29_code 29 = .ok (.ireturn, 1) := by decide +kernel
theorem d_PS_lowered_30 : decode prog_1_method_29_code 30 = .ok (.iload_n 0, 1) := by decide +kernel
theorem d_PS_lowered_31 : decode prog_1_method_29_code 31 = .ok (.iconst 2, 1) := by decide +kernel
theorem d_PS_lowered_32 : decode prog_1_method_29_code 32 = .ok (.idiv, 1) := by decide +kernel
theorem d_PS_lowered_33 : decode prog_1_method_29_code 33 = .ok (.ireturn, 1) := by decide +kernel
theorem d_PS_lowered_34 : decode prog_1_method_29_code 34 = .ok (.iload_n 0, 1) := by decide +kernel
theorem d_PS_lowered_35 : decode prog_1_method_29_code 35 = .ok (.iconst 1, 1) := by decide +kernel
theorem d_PS_lowered_36 : decode prog_1_method_29_code 36 = .ok (.isub, 1) := by decide +kernel
theorem d_PS_lowered_37 : decode prog_1_method_29_code 37 = .ok (.ireturn, 1) := by decide +kernel
theorem d_PS_makeSwap_0 : decode prog_1_method_30_code 0 = .ok (.iload_n 1, 1) := by decide +kernel
theorem d_PS_makeSwap_1 : decode prog_1_method_30_code 1 = .ok (.istore_n 2, 1) := by decide +kernel
theorem d_PS_makeSwap_2 : decode prog_1_method_30_code 2 = .ok (.iconst 0, 1) := by decide +kernel
theorem d_PS_makeSwap_3 : decode prog_1_method_30_code 3 = .ok (.istore_n 3, 1) := by decide +kernel
theorem d_PS_makeSwap_4 : decode prog_1_method_30_code 4 = .ok (.iload_n 3, 1) := by decide +kernel
theorem d_PS_makeSwap_5 : decode prog_1_method_30_code 5 = .ok (.iconst 1, 1) := by decide +kernel
theorem d_PS_makeSwap_6 : decode prog_1_method_30_code 6 = .ok (.iadd, 1) := by decide +kernel
theorem d_PS_makeSwap_7 : decode prog_1_method_30_code 7 = .ok (.aload_n 0, 1) := by decide +kernel
theorem d_PS_makeSwap_8 : decode prog_1_method_30_code 8 = .ok (.getfield 24, 3) := by decide +kernel
theorem d_PS_makeSwap_11 : decode prog_1_method_30_code 11 = .ok (.invokevirtual 134, 3) := by decide +kernel
theorem d_PS_makeSwap_14 : decode prog_1_method_30_code 14 = .ok (.if_icmp .ge 82, 3) := by decide +kernel
theorem d_PS_makeSwap_17 : decode prog_1_method_30_code 17 = .ok (.aload_n 0, 1) := by decide +kernel
theorem d_PS_makeSwap_18 : decode prog_1_method_30_code 18 = .ok (.getfield 24, 3) := by decide +kernel
theorem d_PS_makeSwap_21 : decode prog_1_method_30_code 21 = .ok (.iload_n 3, 1) := by decide +kernel
theorem d_PS_makeSwap_22 : decode prog_1_method_30_code 22 = .ok (.iconst 0, 1) := by decide +kernel
theorem d_PS_makeSwap_23 : decode prog_1_method_30_code 23 = .ok (.invokevirtual 130, 3) := by decide +kernel
theorem d_PS_makeSwap_26 : decode prog_1_method_30_code 26 = .ok (.istore 4, 2) := by decide +kernel
theorem d_PS_makeSwap_28 : decode prog_1_method_30_code 28 = .ok (.aload_n 0, 1) := by decide +kernel
theorem d_PS_makeSwap_29 : decode prog_1_method_30_code 29 = .ok (.getfield 24, 3) := by decide +kernel
theorem d_PS_makeSwap_32 : decode prog_1_method_30_code 32 = .ok (.iload_n 3, 1) := by decide +kernel
theorem d_PS_makeSwap_33 : decode prog_1_method_30_code 33 = .ok (.iconst 1, 1) := by decide +kernel
theorem d_PS_makeSwap_34 : decode prog_1_method_30_code 34 = .ok (.iadd, 1) := by decide +kernel
theorem d_PS_makeSwap_35 : decode prog_1_method_30_code 35 = .ok (.iconst 0, 1) := by decide +kernel
theorem d_PS_makeSwap_36 : decode prog_1_method_30_code 36 = .ok (.invokevirtual 130, 3) := by decide +kernel
theorem d_PS_makeSwap_39 : decode prog_1_method_30_code 39 = .ok (.istore 5, 2) := by decide +kernel
theorem d_PS_makeSwap_41 : decode prog_1_method_30_code 41 = .ok (.iload 4, 2) := by decide +kernel
theorem d_PS_makeSwap_43 : decode prog_1_method_30_code 43 = .ok (.iload 5, 2) := by decide +kernel
theorem d_PS_makeSwap_45 : decode prog_1_method_30_code 45 = .ok (.if_icmp .le 45, 3) := by decide +kernel
theorem d_PS_makeSwap_48 : decode prog_1_method_30_code 48 = .ok (.iload_n 2, 1) := by decide +kernel
theorem d_PS_makeSwap_49 : decode prog_1_method_30_code 49 = .ok (.ifCond .ne 38, 3) := by decide +kernel
theorem d_PS_makeSwap_52 : decode prog_1_method_30_code 52 = .ok (.aload_n 0, 1) := by decide +kernel
theorem d_PS_makeSwap_53 : decode prog_1_method_30_code 53 = .ok (.getfield 34, 3) := by decide +kernel
theorem d_PS_makeSwap_56 : decode prog_1_method_30_code 56 = .ok (.aload_n 0, 1) := by decide +kernel
theorem d_PS_makeSwap_57 : decode prog_1_method_30_code 57 = .ok (.getfield 24, 3) := by decide +kernel
theorem d_PS_makeSwap_60 : decode prog_1_method_30_code 60 = .ok (.invokevirtual 123, 3) := by decide +kernel
theorem d_PS_makeSwap_63 : decode prog_1_method_30_code 63 = .ok (.aload_n 0, 1) := by decide +kernel
theorem d_PS_makeSwap_64 : decode prog_1_method_30_code 64 = .ok (.getfield 34, 3) := by decide +kernel
theorem d_PS_makeSwap_67 : decode prog_1_method_30_code 67 = .ok (.iload_n 3, 1) := by decide +kernel
theorem d_PS_makeSwap_68 : decode prog_1_method_30_code 68 = .ok (.iload 5, 2) := by decide +kernel
theorem d_PS_makeSwap_70 : decode prog_1_method_30_code 70 = .ok (.invokevirtual 253, 3) := by decide +kernel
theorem d_PS_makeSwap_73 : decode prog_1_method_30_code 73 = .ok (.aload_n 0, 1) := by decide +kernel
theorem d_PS_makeSwap_74 : decode prog_1_method_30_code 74 = .ok (.getfield 34, 3) := by decide +kernel
theorem d_PS_makeSwap_77 : decode prog_1_method_30_code 77 = .ok (.iload_n 3, 1) := by decide +kernel
theorem d_PS_makeSwap_78 : decode prog_1_method_30_code 78 = .ok (.iconst 1, 1) := by decide +kernel
theorem d_PS_makeSwap_79 : decode prog_1_method_30_code 79 = .ok (.iadd, 1) := by decide +kernel
theorem d_PS_makeSwap_80 : decode prog_1_method_30_code 80 = .ok (.iload 4, 2) := by decide +kernel
theorem d_PS_makeSwap_82 : decode prog_1_method_30_code 82 = .ok (.invokevirtual 253, 3) := by decide +kernel
theorem d_PS_makeSwap_85 : decode prog_1_method_30_code 85 = .ok (.iconst (-1), 1) := by decide +kernel
theorem d_PS_makeSwap_86 : decode prog_1_method_30_code 86 = .ok (.ireturn, 1) := by decide +kernel
theorem d_PS_makeSwap_87 : decode prog_1_method_30_code 87 = .ok (.iinc 2 (-1), 3) := by decide +kernel
theorem d_PS_makeSwap_90 : decode prog_1_method_30_code 90 = .ok (.iinc 3 1, 3) := by decide +kernel
theorem d_PS_makeSwap_93 : decode prog_1_method_30_code 93 = .ok (.goto (-89), 3) := by decide +kernel
theorem d_PS_makeSwap_96 : decode prog_1_method_30_code 96 = .ok (.iload_n 2, 1) := by decide +kernel
theorem d_PS_makeSwap_97 : decode prog_1_method_30_code 97 = .ok (.ireturn, 1) := by decide +kernel
theorem d_PS_least_0 : decode prog_1_method_6_code 0 = .ok (.aload_n 0, 1) := by decide +kernel
theorem d_PS_least_1 : decode prog_1_method_6_code 1 = .ok (.getfield 111, 3) := by decide +kernel
theorem d_PS_least_4 : decode prog_1_method_6_code 4 = .ok (.ireturn, 1) := by decide +kernel
theorem d_PS_replay_0 : decode prog_1_method_7_code 0 = .ok (.aload_n 0, 1) := by decide +kernel
theorem d_PS_replay_1 : decode prog_1_method_7_code 1 = .ok (.iload_n 1, 1) := by decide +kernel
theorem d_PS_replay_2 : decode prog_1_method_7_code 2 = .ok (.invokevirtual 61, 3) := by decide +kernel
theorem d_PS_replay_5 : decode prog_1_method_7_code 5 = .ok (.astore_n 3, 1) := by decide +kernel
theorem d_PS_replay_6 : decode prog_1_method_7_code 6 = .ok (.aload_n 0, 1) := by decide +kernel
theorem d_PS_replay_7 : decode prog_1_method_7_code 7 = .ok (.iload_n 2, 1) := by decide +kernel
theorem d_PS_replay_8 : decode prog_1_method_7_code 8 = .ok (.invokevirtual 65, 3) := by decide +kernel
theorem d_PS_replay_11 : decode prog_1_method_7_code 11 = .ok (.astore 4, 2) := by decide +kernel
theorem d_PS_replay_13 : decode prog_1_method_7_code 13 = .ok (.aload_n 3, 1) := by decide +kernel
theorem d_PS_replay_14 : decode prog_1_method_7_code 14 = .ok (.ifnull 8, 3) := by decide +kernel
theorem d_PS_replay_17 : decode prog_1_method_7_code 17 = .ok (.aload 4, 2) := by decide +kernel
theorem d_PS_replay_19 : decode prog_1_method_7_code 19 = .ok (.ifnonnull 5, 3) := by decide +kernel
theorem d_PS_replay_22 : decode prog_1_method_7_code 22 = .ok (.iconst (-1), 1) := by decide +kernel
theorem d_PS_replay_23 : decode prog_1_method_7_code 23 = .ok (.ireturn, 1) := by decide +kernel
theorem d_PS_replay_24 : decode prog_1_method_7_code 24 = .ok (.aload_n 0, 1) := by decide +kernel
theorem d_PS_replay_25 : decode prog_1_method_7_code 25 = .ok (.aload_n 3, 1) := by decide +kernel
theorem d_PS_replay_26 : decode prog_1_method_7_code 26 = .ok (.aload 4, 2) := by decide +kernel
theorem d_PS_replay_28 : decode prog_1_method_7_code 28 = .ok (.aload_n 0, 1) := by decide +kernel
theorem d_PS_replay_29 : decode prog_1_method_7_code 29 = .ok (.getfield 31, 3) := by decide +kernel
theorem d_PS_replay_32 : decode prog_1_method_7_code 32 = .ok (.invokevirtual 100, 3) := by decide +kernel
theorem d_PS_replay_35 : decode prog_1_method_7_code 35 = .ok (.istore 5, 2) := by decide +kernel
theorem d_PS_replay_37 : decode prog_1_method_7_code 37 = .ok (.aload_n 0, 1) := by decide +kernel
theorem d_PS_replay_38 : decode prog_1_method_7_code 38 = .ok (.getfield 31, 3) := by decide +kernel
theorem d_PS_replay_41 : decode prog_1_method_7_code 41 = .ok (.iconst 0, 1) := by decide +kernel
theorem d_PS_replay_42 : decode prog_1_method_7_code 42 = .ok (.invokevirtual 118, 3) := by decide +kernel
theorem d_PS_replay_45 : decode prog_1_method_7_code 45 = .ok (.aload_n 0, 1) := by decide +kernel
theorem d_PS_replay_46 : decode prog_1_method_7_code 46 = .ok (.getfield 28, 3) := by decide +kernel
theorem d_PS_replay_49 : decode prog_1_method_7_code 49 = .ok (.aload_n 0, 1) := by decide +kernel
theorem d_PS_replay_50 : decode prog_1_method_7_code 50 = .ok (.getfield 40, 3) := by decide +kernel
theorem d_PS_replay_53 : decode prog_1_method_7_code 53 = .ok (.getfield 122, 3) := by decide +kernel
theorem d_PS_replay_56 : decode prog_1_method_7_code 56 = .ok (.invokevirtual 123, 3) := by decide +kernel
theorem d_PS_replay_59 : decode prog_1_method_7_code 59 = .ok (.iload 5, 2) := by decide +kernel
theorem d_PS_replay_61 : decode prog_1_method_7_code 61 = .ok (.iconst 4, 1) := by decide +kernel
theorem d_PS_replay_62 : decode prog_1_method_7_code 62 = .ok (.if_icmp .ne 11, 3) := by decide +kernel
theorem d_PS_replay_65 : decode prog_1_method_7_code 65 = .ok (.aload_n 0, 1) := by decide +kernel
theorem d_PS_replay_66 : decode prog_1_method_7_code 66 = .ok (.getfield 28, 3) := by decide +kernel
theorem d_PS_replay_69 : decode prog_1_method_7_code 69 = .ok (.iconst 0, 1) := by decide +kernel
theorem d_PS_replay_70 : decode prog_1_method_7_code 70 = .ok (.invokevirtual 118, 3) := by decide +kernel
theorem d_PS_replay_73 : decode prog_1_method_7_code 73 = .ok (.iload 5, 2) := by decide +kernel
theorem d_PS_replay_75 : decode prog_1_method_7_code 75 = .ok (.ireturn, 1) := by decide +kernel
theorem d_PS_put_0 : decode prog_1_method_8_code 0 = .ok (.iload_n 1, 1) := by decide +kernel
theorem d_PS_put_1 : decode prog_1_method_8_code 1 = .ok (.ifCond .lt 18, 3) := by decide +kernel
theorem d_PS_put_4 : decode prog_1_method_8_code 4 = .ok (.aload_n 0, 1) := by decide +kernel
theorem d_PS_put_5 : decode prog_1_method_8_code 5 = .ok (.getfield 31, 3) := by decide +kernel
theorem d_PS_put_8 : decode prog_1_method_8_code 8 = .ok (.iload_n 1, 1) := by decide +kernel
theorem d_PS_put_9 : decode prog_1_method_8_code 9 = .ok (.invokevirtual 127, 3) := by decide +kernel
theorem d_PS_put_12 : decode prog_1_method_8_code 12 = .ok (.ifCond .eq 7, 3) := by decide +kernel
theorem d_PS_put_15 : decode prog_1_method_8_code 15 = .ok (.iconst 1, 1) := by decide +kernel
theorem d_PS_put_16 : decode prog_1_method_8_code 16 = .ok (.goto 4, 3) := by decide +kernel
theorem d_PS_put_19 : decode prog_1_method_8_code 19 = .ok (.iconst 0, 1) := by decide +kernel
theorem d_PS_put_20 : decode prog_1_method_8_code 20 = .ok (.ireturn, 1) := by decide +kernel
theorem d_PS_choice_0 : decode prog_1_method_9_code 0 = .ok (.aload_n 0, 1) := by decide +kernel
theorem d_PS_choice_1 : decode prog_1_method_9_code 1 = .ok (.getfield 24, 3) := by decide +kernel
theorem d_PS_choice_4 : decode prog_1_method_9_code 4 = .ok (.iload_n 1, 1) := by decide +kernel
theorem d_PS_choice_5 : decode prog_1_method_9_code 5 = .ok (.iconst (-1), 1) := by decide +kernel
theorem d_PS_choice_6 : decode prog_1_method_9_code 6 = .ok (.invokevirtual 130, 3) := by decide +kernel
theorem d_PS_choice_9 : decode prog_1_method_9_code 9 = .ok (.ireturn, 1) := by decide +kernel
theorem d_PS_size_0 : decode prog_1_method_10_code 0 = .ok (.iload_n 1, 1) := by decide +kernel
theorem d_PS_size_1 : decode prog_1_method_10_code 1 = .ok (.tableswitch 57 0 3 #[31, 39, 47, 52], 31) := by decide +kernel
theorem d_PS_size_32 : decode prog_1_method_10_code 32 = .ok (.aload_n 0, 1) := by decide +kernel
theorem d_PS_size_33 : decode prog_1_method_10_code 33 = .ok (.getfield 24, 3) := by decide +kernel
theorem d_PS_size_36 : decode prog_1_method_10_code 36 = .ok (.invokevirtual 134, 3) := by decide +kernel
theorem d_PS_size_39 : decode prog_1_method_10_code 39 = .ok (.ireturn, 1) := by decide +kernel
theorem d_PS_size_40 : decode prog_1_method_10_code 40 = .ok (.aload_n 0, 1) := by decide +kernel
theorem d_PS_size_41 : decode prog_1_method_10_code 41 = .ok (.getfield 28, 3) := by decide +kernel
theorem d_PS_size_44 : decode prog_1_method_10_code 44 = .ok (.invokevirtual 134, 3) := by decide +kernel
theorem d_PS_size_47 : decode prog_1_method_10_code 47 = .ok (.ireturn, 1) := by decide +kernel
theorem d_PS_size_48 : decode prog_1_method_10_code 48 = .ok (.aload_n 0, 1) := by decide +kernel
theorem d_PS_size_49 : decode prog_1_method_10_code 49 = .ok (.getfield 89, 3) := by decide +kernel
theorem d_PS_size_52 : decode prog_1_method_10_code 52 = .ok (.ireturn, 1) := by decide +kernel
theorem d_PS_size_53 : decode prog_1_method_10_code 53 = .ok (.aload_n 0, 1) := by decide +kernel
theorem d_PS_size_54 : decode prog_1_method_10_code 54 = .ok (.getfield 69, 3) := by decide +kernel
theorem d_PS_size_57 : decode prog_1_method_10_code 57 = .ok (.ireturn, 1) := by decide +kernel
theorem d_PS_size_58 : decode prog_1_method_10_code 58 = .ok (.iconst (-1), 1) := by decide +kernel
theorem d_PS_size_59 : decode prog_1_method_10_code 59 = .ok (.ireturn, 1) := by decide +kernel
theorem d_PS_number_0 : decode prog_1_method_11_code 0 = .ok (.aload_n 0, 1) := by decide +kernel
theorem d_PS_number_1 : decode prog_1_method_11_code 1 = .ok (.getfield 28, 3) := by decide +kernel
theorem d_PS_number_4 : decode prog_1_method_11_code 4 = .ok (.iload_n 1, 1) := by decide +kernel
theorem d_PS_number_5 : decode prog_1_method_11_code 5 = .ok (.iconst 0, 1) := by decide +kernel
theorem d_PS_number_6 : decode prog_1_method_11_code 6 = .ok (.invokevirtual 130, 3) := by decide +kernel
theorem d_PS_number_9 : decode prog_1_method_11_code 9 = .ok (.ireturn, 1) := by decide +kernel
theorem d_PS_all_0 : decode prog_1_method_12_code 0 = .ok (.aload_n 0, 1) := by decide +kernel
theorem d_PS_all_1 : decode prog_1_method_12_code 1 = .ok (.iload_n 1, 1) := by decide +kernel
theorem d_PS_all_2 : decode prog_1_method_12_code 2 = .ok (.invokevirtual 61, 3) := by decide +kernel
theorem d_PS_all_5 : decode prog_1_method_12_code 5 = .ok (.astore_n 3, 1) := by decide +kernel
theorem d_PS_all_6 : decode prog_1_method_12_code 6 = .ok (.aload_n 3, 1) := by decide +kernel
theorem d_PS_all_7 : decode prog_1_method_12_code 7 = .ok (.ifnull 15, 3) := by decide +kernel
theorem d_PS_all_10 : decode prog_1_method_12_code 10 = .ok (.iload_n 2, 1) := by decide +kernel
theorem d_PS_all_11 : decode prog_1_method_12_code 11 = .ok (.iconst 1, 1) := by decide +kernel
theorem d_PS_all_12 : decode prog_1_method_12_code 12 = .ok (.if_icmp .lt 10, 3) := by decide +kernel
theorem d_PS_all_15 : decode prog_1_method_12_code 15 = .ok (.iload_n 2, 1) := by decide +kernel
theorem d_PS_all_16 : decode prog_1_method_12_code 16 = .ok (.sipush 200, 3) := by decide +kernel
theorem d_PS_all_19 : decode prog_1_method_12_code 19 = .ok (.if_icmp .le 5, 3) := by decide +kernel
theorem d_PS_all_22 : decode prog_1_method_12_code 22 = .ok (.iconst (-1), 1) := by decide +kernel
theorem d_PS_all_23 : decode prog_1_method_12_code 23 = .ok (.ireturn, 1) := by decide +kernel
theorem d_PS_all_24 : decode prog_1_method_12_code 24 = .ok (.aload_n 0, 1) := by decide +kernel
theorem d_PS_all_25 : decode prog_1_method_12_code 25 = .ok (.lconst 0, 1) := by decide +kernel
theorem d_PS_all_26 : decode prog_1_method_12_code 26 = .ok (.putfield 138, 3) := by decide +kernel
theorem d_PS_all_29 : decode prog_1_method_12_code 29 = .ok (.iconst 0, 1) := by decide +kernel
theorem d_PS_all_30 : decode prog_1_method_12_code 30 = .ok (.istore 4, 2) := by decide +kernel
theorem d_PS_all_32 : decode prog_1_method_12_code 32 = .ok (.iconst 1, 1) := by decide +kernel
theorem d_PS_all_33 : decode prog_1_method_12_code 33 = .ok (.istore 5, 2) := by decide +kernel
theorem d_PS_all_35 : decode prog_1_method_12_code 35 = .ok (.aload_n 0, 1) := by decide +kernel
theorem d_PS_all_36 : decode prog_1_method_12_code 36 = .ok (.getfield 40, 3) := by decide +kernel
theorem d_PS_all_39 : decode prog_1_method_12_code 39 = .ok (.invokevirtual 142, 3) := by decide +kernel
theorem d_PS_all_42 : decode prog_1_method_12_code 42 = .ok (.iconst 0, 1) := by decide +kernel
theorem d_PS_all_43 : decode prog_1_method_12_code 43 = .ok (.istore 6, 2) := by decide +kernel
theorem d_PS_all_45 : decode prog_1_method_12_code 45 = .ok (.iload 6, 2) := by decide +kernel
theorem d_PS_all_47 : decode prog_1_method_12_code 47 = .ok (.sipush 2000, 3) := by decide +kernel
theorem d_PS_all_50 : decode prog_1_method_12_code 50 = .ok (.if_icmp .ge 61, 3) := by decide +kernel
theorem d_PS_all_53 : decode prog_1_method_12_code 53 = .ok (.iload 4, 2) := by decide +kernel
theorem d_PS_all_55 : decode prog_1_method_12_code 55 = .ok (.iload_n 2, 1) := by decide +kernel
theorem d_PS_all_56 : decode prog_1_method_12_code 56 = .ok (.if_icmp .ge 55, 3) := by decide +kernel
theorem d_PS_all_59 : decode prog_1_method_12_code 59 = .ok (.iload 5, 2) := by decide +kernel
theorem d_PS_all_61 : decode prog_1_method_12_code 61 = .ok (.ifCond .eq 50, 3) := by decide +kernel
theorem d_PS_all_64 : decode prog_1_method_12_code 64 = .ok (.aload_n 3, 1) := by decide +kernel
theorem d_PS_all_65 : decode prog_1_method_12_code 65 = .ok (.aload_n 0, 1) := by decide +kernel
theorem d_PS_all_66 : decode prog_1_method_12_code 66 = .ok (.getfield 40, 3) := by decide +kernel
theorem d_PS_all_69 : decode prog_1_method_12_code 69 = .ok (.invokevirtual 145, 3) := by decide +kernel
theorem d_PS_all_72 : decode prog_1_method_12_code 72 = .ok (.aload_n 0, 1) := by decide +kernel
theorem d_PS_all_73 : decode prog_1_method_12_code 73 = .ok (.getfield 40, 3) := by decide +kernel
theorem d_PS_all_76 : decode prog_1_method_12_code 76 = .ok (.getfield 149, 3) := by decide +kernel
theorem d_PS_all_79 : decode prog_1_method_12_code 79 = .ok (.ifCond .ne 17, 3) := by decide +kernel
theorem d_PS_all_82 : decode prog_1_method_12_code 82 = .ok (.iinc 4 1, 3) := by decide +kernel
theorem d_PS_all_85 : decode prog_1_method_12_code 85 = .ok (.aload_n 0, 1) := by decide +kernel
theorem d_PS_all_86 : decode prog_1_method_12_code 86 = .ok (.aload_n 0, 1) := by decide +kernel
theorem d_PS_all_87 : decode prog_1_method_12_code 87 = .ok (.getfield 40, 3) := by decide +kernel
theorem d_PS_all_90 : decode prog_1_method_12_code 90 = .ok (.getfield 122, 3) := by decide +kernel
theorem d_PS_all_93 : decode prog_1_method_12_code 93 = .ok (.invokevirtual 152, 3) := by decide +kernel
theorem d_PS_all_96 : decode prog_1_method_12_code 96 = .ok (.aload_n 0, 1) := by decide +kernel
theorem d_PS_all_97 : decode prog_1_method_12_code 97 = .ok (.getfield 40, 3) := by decide +kernel
theorem d_PS_all_100 : decode prog_1_method_12_code 100 = .ok (.invokevirtual 155, 3) := by decide +kernel
theorem d_PS_all_103 : decode prog_1_method_12_code 103 = .ok (.istore 5, 2) := by decide +kernel
theorem d_PS_all_105 : decode prog_1_method_12_code 105 = .ok (.iinc 6 1, 3) := by decide +kernel
theorem d_PS_all_108 : decode prog_1_method_12_code 108 = .ok (.goto (-63), 3) := by decide +kernel
theorem d_PS_all_111 : decode prog_1_method_12_code 111 = .ok (.iload 4, 2) := by decide +kernel
theorem d_PS_all_113 : decode prog_1_method_12_code 113 = .ok (.ireturn, 1) := by decide +kernel
theorem d_PS_addToRowsSum_0 : decode prog_1_method_31_code 0 = .ok (.iconst 0, 1) := by decide +kernel
theorem d_PS_addToRowsSum_1 : decode prog_1_method_31_code 1 = .ok (.istore_n 2, 1) := by decide +kernel
theorem d_PS_addToRowsSum_2 : decode prog_1_method_31_code 2 = .ok (.iload_n 2, 1) := by decide +kernel
theorem d_PS_addToRowsSum_3 : decode prog_1_method_31_code 3 = .ok (.aload_n 1, 1) := by decide +kernel
theorem d_PS_addToRowsSum_4 : decode prog_1_method_31_code 4 = .ok (.invokevirtual 134, 3) := by decide +kernel
theorem d_PS_addToRowsSum_7 : decode prog_1_method_31_code 7 = .ok (.if_icmp .ge 29, 3) := by decide +kernel
theorem d_PS_addToRowsSum_10 : decode prog_1_method_31_code 10 = .ok (.aload_n 0, 1) := by decide +kernel
theorem d_PS_addToRowsSum_11 : decode prog_1_method_31_code 11 = .ok (.ldc2_w 256, 3) := by decide +kernel
theorem d_PS_addToRowsSum_14 : decode prog_1_method_31_code 14 = .ok (.aload_n 0, 1) := by decide +kernel
theorem d_PS_addToRowsSum_15 : decode prog_1_method_31_code 15 = .ok (.getfield 138, 3) := by decide +kernel
theorem d_PS_addToRowsSum_18 : decode prog_1_method_31_code 18 = .ok (.lmul, 1) := by decide +kernel
theorem d_PS_addToRowsSum_19 : decode prog_1_method_31_code 19 = .ok (.aload_n 1, 1) := by decide +kernel
theorem d_PS_addToRowsSum_20 : decode prog_1_method_31_code 20 = .ok (.iload_n 2, 1) := by decide +kernel
theorem d_PS_addToRowsSum_21 : decode prog_1_method_31_code 21 = .ok (.iconst 0, 1) := by decide +kernel
theorem d_PS_addToRowsSum_22 : decode prog_1_method_31_code 22 = .ok (.invokevirtual 130, 3) := by decide +kernel
theorem d_PS_addToRowsSum_25 : decode prog_1_method_31_code 25 = .ok (.i2l, 1) := by decide +kernel
theorem d_PS_addToRowsSum_26 : decode prog_1_method_31_code 26 = .ok (.ladd, 1) := by decide +kernel
theorem d_PS_addToRowsSum_27 : decode prog_1_method_31_code 27 = .ok (.putfield 138, 3) := by decide +kernel
theorem d_PS_addToRowsSum_30 : decode prog_1_method_31_code 30 = .ok (.iinc 2 1, 3) := by decide +kernel
theorem d_PS_addToRowsSum_33 : decode prog_1_method_31_code 33 = .ok (.goto (-31), 3) := by decide +kernel
theorem d_PS_addToRowsSum_36 : decode prog_1_method_31_code 36 = .ok (.aload_n 0, 1) := by decide +kernel
theorem d_PS_addToRowsSum_37 : decode prog_1_method_31_code 37 = .ok (.ldc2_w 256, 3) := by decide +kernel
theorem d_PS_addToRowsSum_40 : decode prog_1_method_31_code 40 = .ok (.aload_n 0, 1) := by decide +kernel
theorem d_PS_addToRowsSum_41 : decode prog_1_method_31_code 41 = .ok (.getfield 138, 3) := by decide +kernel
theorem d_PS_addToRowsSum_44 : decode prog_1_method_31_code 44 = .ok (.lmul, 1) := by decide +kernel
theorem d_PS_addToRowsSum_45 : decode prog_1_method_31_code 45 = .ok (.ldc2_w 258, 3) := by decide +kernel
theorem d_PS_addToRowsSum_48 : decode prog_1_method_31_code 48 = .ok (.ladd, 1) := by decide +kernel
theorem d_PS_addToRowsSum_49 : decode prog_1_method_31_code 49 = .ok (.putfield 138, 3) := by decide +kernel
theorem d_PS_addToRowsSum_52 : decode prog_1_method_31_code 52 = .ok (.return_, 1) := by decide +kernel
theorem d_PS_sum_0 : decode prog_1_method_13_code 0 = .ok (.aload_n 0, 1) := by decide +kernel
theorem d_PS_sum_1 : decode prog_1_method_13_code 1 = .ok (.getfield 138, 3) := by decide +kernel
theorem d_PS_sum_4 : decode prog_1_method_13_code 4 = .ok (.lreturn, 1) := by decide +kernel
