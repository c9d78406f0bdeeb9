/-! decode rows -/
theorem d_Mo_init_0 : decode prog_14_method_1_code 0 = .ok (.aload_n 0, 1) := by decide +kernel
theorem d_Mo_init_1 : decode prog_14_method_1_code 1 = .ok (.invokespecial 1, 3) := by decide +kernel
theorem d_Mo_init_4 : decode prog_14_method_1_code 4 = .ok (.aload_n 0, 1) := by decide +kernel
theorem d_Mo_init_5 : decode prog_14_method_1_code 5 = .ok (.bipush 20, 2) := by decide +kernel
theorem d_Mo_init_7 : decode prog_14_method_1_code 7 = .ok (.newarray .int, 2) := by decide +kernel
theorem d_Mo_init_9 : decode prog_14_method_1_code 9 = .ok (.putfield 7, 3) := by decide +kernel
theorem d_Mo_init_12 : decode prog_14_method_1_code 12 = .ok (.aload_n 0, 1) := by decide +kernel
theorem d_Mo_init_13 : decode prog_14_method_1_code 13 = .ok (.bipush 20, 2) := by decide +kernel
theorem d_Mo_init_15 : decode prog_14_method_1_code 15 = .ok (.newarray .int, 2) := by decide +kernel
theorem d_Mo_init_17 : decode prog_14_method_1_code 17 = .ok (.putfield 13, 3) := by decide +kernel
theorem d_Mo_init_20 : decode prog_14_method_1_code 20 = .ok (.aload_n 0, 1) := by decide +kernel
theorem d_Mo_init_21 : decode prog_14_method_1_code 21 = .ok (.bipush 20, 2) := by decide +kernel
theorem d_Mo_init_23 : decode prog_14_method_1_code 23 = .ok (.newarray .int, 2) := by decide +kernel
theorem d_Mo_init_25 : decode prog_14_method_1_code 25 = .ok (.putfield 16, 3) := by decide +kernel
theorem d_Mo_init_28 : decode prog_14_method_1_code 28 = .ok (.aload_n 0, 1) := by decide +kernel
theorem d_Mo_init_29 : decode prog_14_method_1_code 29 = .ok (.bipush 20, 2) := by decide +kernel
theorem d_Mo_init_31 : decode prog_14_method_1_code 31 = .ok (.newarray .int, 2) := by decide +kernel
theorem d_Mo_init_33 : decode prog_14_method_1_code 33 = .ok (.putfield 19, 3) := by decide +kernel
theorem d_Mo_init_36 : decode prog_14_method_1_code 36 = .ok (.aload_n 0, 1) := by decide +kernel
theorem d_Mo_init_37 : decode prog_14_method_1_code 37 = .ok (.bipush 10, 2) := by decide +kernel
theorem d_Mo_init_39 : decode prog_14_method_1_code 39 = .ok (.newarray .int, 2) := by decide +kernel
theorem d_Mo_init_41 : decode prog_14_method_1_code 41 = .ok (.putfield 22, 3) := by decide +kernel
theorem d_Mo_init_44 : decode prog_14_method_1_code 44 = .ok (.aload_n 0, 1) := by decide +kernel
theorem d_Mo_init_45 : decode prog_14_method_1_code 45 = .ok (.bipush 10, 2) := by decide +kernel
theorem d_Mo_init_47 : decode prog_14_method_1_code 47 = .ok (.newarray .int, 2) := by decide +kernel
theorem d_Mo_init_49 : decode prog_14_method_1_code 49 = .ok (.putfield 25, 3) := by decide +kernel
theorem d_Mo_init_52 : decode prog_14_method_1_code 52 = .ok (.aload_n 0, 1) := by decide +kernel
theorem d_Mo_init_53 : decode prog_14_method_1_code 53 = .ok (.bipush 10, 2) := by decide +kernel
theorem d_Mo_init_55 : decode prog_14_method_1_code 55 = .ok (.newarray .int, 2) := by decide +kernel
theorem d_Mo_init_57 : decode prog_14_method_1_code 57 = .ok (.putfield 28, 3) := by decide +kernel
theorem d_Mo_init_60 : decode prog_14_method_1_code 60 = .ok (.aload_n 0, 1) := by decide +kernel
theorem d_Mo_init_61 : decode prog_14_method_1_code 61 = .ok (.bipush 60, 2) := by decide +kernel
theorem d_Mo_init_63 : decode prog_14_method_1_code 63 = .ok (.newarray .int, 2) := by decide +kernel
theorem d_Mo_init_65 : decode prog_14_method_1_code 65 = .ok (.putfield 31, 3) := by decide +kernel
theorem d_Mo_init_68 : decode prog_14_method_1_code 68 = .ok (.aload_n 0, 1) := by decide +kernel
theorem d_Mo_init_69 : decode prog_14_method_1_code 69 = .ok (.bipush 60, 2) := by decide +kernel
theorem d_Mo_init_71 : decode prog_14_method_1_code 71 = .ok (.newarray .int, 2) := by decide +kernel
theorem d_Mo_init_73 : decode prog_14_method_1_code 73 = .ok (.putfield 34, 3) := by decide +kernel
theorem d_Mo_init_76 : decode prog_14_method_1_code 76 = .ok (.aload_n 0, 1) := by decide +kernel
theorem d_Mo_init_77 : decode prog_14_method_1_code 77 = .ok (.bipush 60, 2) := by decide +kernel
theorem d_Mo_init_79 : decode prog_14_method_1_code 79 = .ok (.newarray .int, 2) := by decide +kernel
theorem d_Mo_init_81 : decode prog_14_method_1_code 81 = .ok (.putfield 37, 3) := by decide +kernel
theorem d_Mo_init_84 : decode prog_14_method_1_code 84 = .ok (.aload_n 0, 1) := by decide +kernel
theorem d_Mo_init_85 : decode prog_14_method_1_code 85 = .ok (.bipush 60, 2) := by decide +kernel
theorem d_Mo_init_87 : decode prog_14_method_1_code 87 = .ok (.newarray .int, 2) := by decide +kernel
theorem d_Mo_init_89 : decode prog_14_method_1_code 89 = .ok (.putfield 40, 3) := by decide +kernel
theorem d_Mo_init_92 : decode prog_14_method_1_code 92 = .ok (.aload_n 0, 1) := by decide +kernel
theorem d_Mo_init_93 : decode prog_14_method_1_code 93 = .ok (.bipush 20, 2) := by decide +kernel
theorem d_Mo_init_95 : decode prog_14_method_1_code 95 = .ok (.newarray .int, 2) := by decide +kernel
theorem d_Mo_init_97 : decode prog_14_method_1_code 97 = .ok (.putfield 43, 3) := by decide +kernel
theorem d_Mo_init_100 : decode prog_14_method_1_code 100 = .ok (.aload_n 0, 1) := by decide +kernel
theorem d_Mo_init_101 : decode prog_14_method_1_code 101 = .ok (.bipush 20, 2) := by decide +kernel
theorem d_Mo_init_103 : decode prog_14_method_1_code 103 = .ok (.newarray .int, 2) := by decide +kernel
theorem d_Mo_init_105 : decode prog_14_method_1_code 105 = .ok (.putfield 46, 3) := by decide +kernel
theorem d_Mo_init_108 : decode prog_14_method_1_code 108 = .ok (.aload_n 0, 1) := by decide +kernel
theorem d_Mo_init_109 : decode prog_14_method_1_code 109 = .ok (.bipush 20, 2) := by decide +kernel
theorem d_Mo_init_111 : decode prog_14_method_1_code 111 = .ok (.newarray .int, 2) := by decide +kernel
theorem d_Mo_init_113 : decode prog_14_method_1_code 113 = .ok (.putfield 49, 3) := by decide +kernel
theorem d_Mo_init_116 : decode prog_14_method_1_code 116 = .ok (.aload_n 0, 1) := by decide +kernel
theorem d_Mo_init_117 : decode prog_14_method_1_code 117 = .ok (.bipush 20, 2) := by decide +kernel
theorem d_Mo_init_119 : decode prog_14_method_1_code 119 = .ok (.newarray .int, 2) := by decide +kernel
theorem d_Mo_init_121 : decode prog_14_method_1_code 121 = .ok (.putfield 52, 3) := by decide +kernel
theorem d_Mo_init_124 : decode prog_14_method_1_code 124 = .ok (.aload_n 0, 1) := by decide +kernel
theorem d_Mo_init_125 : decode prog_14_method_1_code 125 = .ok (.iconst (-1), 1) := by decide +kernel
theorem d_Mo_init_126 : decode prog_14_method_1_code 126 = .ok (.putfield 55, 3) := by decide +kernel
theorem d_Mo_init_129 : decode prog_14_method_1_code 129 = .ok (.aload_n 0, 1) := by decide +kernel
theorem d_Mo_init_130 : decode prog_14_method_1_code 130 = .ok (.bipush 60, 2) := by decide +kernel
theorem d_Mo_init_132 : decode prog_14_method_1_code 132 = .ok (.newarray .int, 2) := by decide +kernel
theorem d_Mo_init_134 : decode prog_14_method_1_code 134 = .ok (.putfield 59, 3) := by decide +kernel
theorem d_Mo_init_137 : decode prog_14_method_1_code 137 = .ok (.aload_n 0, 1) := by decide +kernel
theorem d_Mo_init_138 : decode prog_14_method_1_code 138 = .ok (.sipush 200, 3) := by decide +kernel
theorem d_Mo_init_141 : decode prog_14_method_1_code 141 = .ok (.newarray .int, 2) := by decide +kernel
theorem d_Mo_init_143 : decode prog_14_method_1_code 143 = .ok (.putfield 62, 3) := by decide +kernel
theorem d_Mo_init_146 : decode prog_14_method_1_code 146 = .ok (.aload_n 0, 1) := by decide +kernel
theorem d_Mo_init_147 : decode prog_14_method_1_code 147 = .ok (.sipush 200, 3) := by decide +kernel
theorem d_Mo_init_150 : decode prog_14_method_1_code 150 = .ok (.newarray .int, 2) := by decide +kernel
theorem d_Mo_init_152 : decode prog_14_method_1_code 152 = .ok (.putfield 65, 3) := by decide +kernel
theorem d_Mo_init_155 : decode prog_14_method_1_code 155 = .ok (.aload_n 0, 1) := by decide +kernel
theorem d_Mo_init_156 : decode prog_14_method_1_code 156 = .ok (.sipush 200, 3) := by decide +kernel
theorem d_Mo_init_159 : decode prog_14_method_1_code 159 = .ok (.newarray .int, 2) := by decide +kernel
theorem d_Mo_init_161 : decode prog_14_method_1_code 161 = .ok (.putfield 68, 3) := by decide +kernel
theorem d_Mo_init_164 : decode prog_14_method_1_code 164 = .ok (.aload_n 0, 1) := by decide +kernel
theorem d_Mo_init_165 : decode prog_14_method_1_code 165 = .ok (.sipush 12000, 3) := by decide +kernel
theorem d_Mo_init_168 : decode prog_14_method_1_code 168 = .ok (.newarray .int, 2) := by decide +kernel
theorem d_Mo_init_170 : decode prog_14_method_1_code 170 = .ok (.putfield 71, 3) := by decide +kernel
theorem d_Mo_init_173 : decode prog_14_method_1_code 173 = .ok (.aload_n 0, 1) := by decide +kernel
theorem d_Mo_init_174 : decode prog_14_method_1_code 174 = .ok (.bipush 60, 2) := by decide +kernel
theorem d_Mo_init_176 : decode prog_14_method_1_code 176 = .ok (.newarray .int, 2) := by decide +kernel
theorem d_Mo_init_178 : decode prog_14_method_1_code 178 = .ok (.putfield 74, 3) := by decide +kernel
theorem d_Mo_init_181 : decode prog_14_method_1_code 181 = .ok (.aload_n 0, 1) := by decide +kernel
theorem d_Mo_init_182 : decode prog_14_method_1_code 182 = .ok (.bipush 60, 2) := by decide +kernel
theorem d_Mo_init_184 : decode prog_14_method_1_code 184 = .ok (.newarray .int, 2) := by decide +kernel
theorem d_Mo_init_186 : decode prog_14_method_1_code 186 = .ok (.putfield 77, 3) := by decide +kernel
theorem d_Mo_init_189 : decode prog_14_method_1_code 189 = .ok (.return_, 1) := by decide +kernel
theorem d_Mo_generator_0 : decode prog_14_method_5_code 0 = .ok (.aload_n 0, 1) := by decide +kernel
theorem d_Mo_generator_1 : decode prog_14_method_5_code 1 = .ok (.iconst 0, 1) := by decide +kernel
theorem d_Mo_generator_2 : decode prog_14_method_5_code 2 = .ok (.putfield 80, 3) := by decide +kernel
theorem d_Mo_generator_5 : decode prog_14_method_5_code 5 = .ok (.aload_n 0, 1) := by decide +kernel
theorem d_Mo_generator_6 : decode prog_14_method_5_code 6 = .ok (.getfield 83, 3) := by decide +kernel
theorem d_Mo_generator_9 : decode prog_14_method_5_code 9 = .ok (.bipush 20, 2) := by decide +kernel
theorem d_Mo_generator_11 : decode prog_14_method_5_code 11 = .ok (.if_icmp .ge 17, 3) := by decide +kernel
theorem d_Mo_generator_14 : decode prog_14_method_5_code 14 = .ok (.iload_n 1, 1) := by decide +kernel
theorem d_Mo_generator_15 : decode prog_14_method_5_code 15 = .ok (.ifCond .lt 13, 3) := by decide +kernel
theorem d_Mo_generator_18 : decode prog_14_method_5_code 18 = .ok (.iload_n 1, 1) := by decide +kernel
theorem d_Mo_generator_19 : decode prog_14_method_5_code 19 = .ok (.bipush 6, 2) := by decide +kernel
theorem d_Mo_generator_21 : decode prog_14_method_5_code 21 = .ok (.if_icmp .ge 7, 3) := by decide +kernel
theorem d_Mo_generator_24 : decode prog_14_method_5_code 24 = .ok (.iconst 1, 1) := by decide +kernel
theorem d_Mo_generator_25 : decode prog_14_method_5_code 25 = .ok (.goto 4, 3) := by decide +kernel
theorem d_Mo_generator_28 : decode prog_14_method_5_code 28 = .ok (.iconst 0, 1) := by decide +kernel
theorem d_Mo_generator_29 : decode prog_14_method_5_code 29 = .ok (.istore 4, 2) := by decide +kernel
theorem d_Mo_generator_31 : decode prog_14_method_5_code 31 = .ok (.iload_n 1, 1) := by decide +kernel
theorem d_Mo_generator_32 : decode prog_14_method_5_code 32 = .ok (.ifCond .ne 49, 3) := by decide +kernel
theorem d_Mo_generator_35 : decode prog_14_method_5_code 35 = .ok (.iload 4, 2) := by decide +kernel
theorem d_Mo_generator_37 : decode prog_14_method_5_code 37 = .ok (.ifCond .eq 38, 3) := by decide +kernel
theorem d_Mo_generator_40 : decode prog_14_method_5_code 40 = .ok (.iload_n 2, 1) := by decide +kernel
theorem d_Mo_generator_41 : decode prog_14_method_5_code 41 = .ok (.sipush (-1000), 3) := by decide +kernel
theorem d_Mo_generator_44 : decode prog_14_method_5_code 44 = .ok (.sipush 1000, 3) := by decide +kernel
theorem d_Mo_generator_47 : decode prog_14_method_5_code 47 = .ok (.invokestatic 86, 3) := by decide +kernel
theorem d_Mo_generator_50 : decode prog_14_method_5_code 50 = .ok (.ifCond .eq 25, 3) := by decide +kernel
theorem d_Mo_generator_53 : decode prog_14_method_5_code 53 = .ok (.iload_n 3, 1) := by decide +kernel
theorem d_Mo_generator_54 : decode prog_14_method_5_code 54 = .ok (.sipush (-1000), 3) := by decide +kernel
theorem d_Mo_generator_57 : decode prog_14_method_5_code 57 = .ok (.sipush 1000, 3) := by decide +kernel
theorem d_Mo_generator_60 : decode prog_14_method_5_code 60 = .ok (.invokestatic 86, 3) := by decide +kernel
theorem d_Mo_generator_63 : decode prog_14_method_5_code 63 = .ok (.ifCond .eq 12, 3) := by decide +kernel
theorem d_Mo_generator_66 : decode prog_14_method_5_code 66 = .ok (.iload_n 2, 1) := by decide +kernel
theorem d_Mo_generator_67 : decode prog_14_method_5_code 67 = .ok (.iload_n 3, 1) := by decide +kernel
theorem d_Mo_generator_68 : decode prog_14_method_5_code 68 = .ok (.if_icmp .gt 7, 3) := by decide +kernel
theorem d_Mo_generator_71 : decode prog_14_method_5_code 71 = .ok (.iconst 1, 1) := by decide +kernel
theorem d_Mo_generator_72 : decode prog_14_method_5_code 72 = .ok (.goto 4, 3) := by decide +kernel
theorem d_Mo_generator_75 : decode prog_14_method_5_code 75 = .ok (.iconst 0, 1) := by decide +kernel
theorem d_Mo_generator_76 : decode prog_14_method_5_code 76 = .ok (.istore 4, 2) := by decide +kernel
theorem d_Mo_generator_78 : decode prog_14_method_5_code 78 = .ok (.goto 23, 3) := by decide +kernel
theorem d_Mo_generator_81 : decode prog_14_method_5_code 81 = .ok (.iload 4, 2) := by decide +kernel
theorem d_Mo_generator_83 : decode prog_14_method_5_code 83 = .ok (.ifCond .eq 15, 3) := by decide +kernel
theorem d_Mo_generator_86 : decode prog_14_method_5_code 86 = .ok (.aload_n 0, 1) := by decide +kernel
theorem d_Mo_generator_87 : decode prog_14_method_5_code 87 = .ok (.iload_n 2, 1) := by decide +kernel
theorem d_Mo_generator_88 : decode prog_14_method_5_code 88 = .ok (.invokevirtual 90, 3) := by decide +kernel
theorem d_Mo_generator_91 : decode prog_14_method_5_code 91 = .ok (.ifCond .eq 7, 3) := by decide +kernel
theorem d_Mo_generator_94 : decode prog_14_method_5_code 94 = .ok (.iconst 1, 1) := by decide +kernel
theorem d_Mo_generator_95 : decode prog_14_method_5_code 95 = .ok (.goto 4, 3) := by decide +kernel
theorem d_Mo_generator_98 : decode prog_14_method_5_code 98 = .ok (.iconst 0, 1) := by decide +kernel
theorem d_Mo_generator_99 : decode prog_14_method_5_code 99 = .ok (.istore 4, 2) := by decide +kernel
theorem d_Mo_generator_101 : decode prog_14_method_5_code 101 = .ok (.iload_n 1, 1) := by decide +kernel
theorem d_Mo_generator_102 : decode prog_14_method_5_code 102 = .ok (.iconst 1, 1) := by decide +kernel
theorem d_Mo_generator_103 : decode prog_14_method_5_code 103 = .ok (.if_icmp .ne 25, 3) := by decide +kernel
theorem d_Mo_generator_106 : decode prog_14_method_5_code 106 = .ok (.iload 4, 2) := by decide +kernel
theorem d_Mo_generator_108 : decode prog_14_method_5_code 108 = .ok (.ifCond .eq 17, 3) := by decide +kernel
theorem d_Mo_generator_111 : decode prog_14_method_5_code 111 = .ok (.iload_n 3, 1) := by decide +kernel
theorem d_Mo_generator_112 : decode prog_14_method_5_code 112 = .ok (.iconst 0, 1) := by decide +kernel
theorem d_Mo_generator_113 : decode prog_14_method_5_code 113 = .ok (.bipush 9, 2) := by decide +kernel
theorem d_Mo_generator_115 : decode prog_14_method_5_code 115 = .ok (.invokestatic 86, 3) := by decide +kernel
theorem d_Mo_generator_118 : decode prog_14_method_5_code 118 = .ok (.ifCond .eq 7, 3) := by decide +kernel
theorem d_Mo_generator_121 : decode prog_14_method_5_code 121 = .ok (.iconst 1, 1) := by decide +kernel
theorem d_Mo_generator_122 : decode prog_14_method_5_code 122 = .ok (.goto 4, 3) := by decide +kernel
theorem d_Mo_generator_125 : decode prog_14_method_5_code 125 = .ok (.iconst 0, 1) := by decide +kernel
theorem d_Mo_generator_126 : decode prog_14_method_5_code 126 = .ok (.istore 4, 2) := by decide +kernel
theorem d_Mo_generator_128 : decode prog_14_method_5_code 128 = .ok (.iload_n 1, 1) := by decide +kernel
theorem d_Mo_generator_129 : decode prog_14_method_5_code 129 = .ok (.iconst 2, 1) := by decide +kernel
theorem d_Mo_generator_130 : decode prog_14_method_5_code 130 = .ok (.if_icmp .eq 8, 3) := by decide +kernel
theorem d_Mo_generator_133 : decode prog_14_method_5_code 133 = .ok (.iload_n 1, 1) := by decide +kernel
theorem d_Mo_generator_134 : decode prog_14_method_5_code 134 = .ok (.iconst 3, 1) := by decide +kernel
theorem d_Mo_generator_135 : decode prog_14_method_5_code 135 = .ok (.if_icmp .ne 23, 3) := by decide +kernel
theorem d_Mo_generator_138 : decode prog_14_method_5_code 138 = .ok (.iload 4, 2) := by decide +kernel
theorem d_Mo_generator_140 : decode prog_14_method_5_code 140 = .ok (.ifCond .eq 15, 3) := by decide +kernel
theorem d_Mo_generator_143 : decode prog_14_method_5_code 143 = .ok (.aload_n 0, 1) := by decide +kernel
theorem d_Mo_generator_144 : decode prog_14_method_5_code 144 = .ok (.iload_n 3, 1) := by decide +kernel
theorem d_Mo_generator_145 : decode prog_14_method_5_code 145 = .ok (.invokevirtual 90, 3) := by decide +kernel
theorem d_Mo_generator_148 : decode prog_14_method_5_code 148 = .ok (.ifCond .eq 7, 3) := by decide +kernel
theorem d_Mo_generator_151 : decode prog_14_method_5_code 151 = .ok (.iconst 1, 1) := by decide +kernel
theorem d_Mo_generator_152 : decode prog_14_method_5_code 152 = .ok (.goto 4, 3) := by decide +kernel
theorem d_Mo_generator_155 : decode prog_14_method_5_code 155 = .ok (.iconst 0, 1) := by decide +kernel
theorem d_Mo_generator_156 : decode prog_14_method_5_code 156 = .ok (.istore 4, 2) := by decide +kernel
theorem d_Mo_generator_158 : decode prog_14_method_5_code 158 = .ok (.iload_n 1, 1) := by decide +kernel
theorem d_Mo_generator_159 : decode prog_14_method_5_code 159 = .ok (.iconst 4, 1) := by decide +kernel
theorem d_Mo_generator_160 : decode prog_14_method_5_code 160 = .ok (.if_icmp .ne 24, 3) := by decide +kernel
theorem d_Mo_generator_163 : decode prog_14_method_5_code 163 = .ok (.iload 4, 2) := by decide +kernel
theorem d_Mo_generator_165 : decode prog_14_method_5_code 165 = .ok (.ifCond .eq 16, 3) := by decide +kernel
theorem d_Mo_generator_168 : decode prog_14_method_5_code 168 = .ok (.iload_n 3, 1) := by decide +kernel
theorem d_Mo_generator_169 : decode prog_14_method_5_code 169 = .ok (.iconst 0, 1) := by decide +kernel
theorem d_Mo_generator_170 : decode prog_14_method_5_code 170 = .ok (.iconst 1, 1) := by decide +kernel
theorem d_Mo_generator_171 : decode prog_14_method_5_code 171 = .ok (.invokestatic 86, 3) := by decide +kernel
theorem d_Mo_generator_174 : decode prog_14_method_5_code 174 = .ok (.ifCond .eq 7, 3) := by decide +kernel
theorem d_Mo_generator_177 : decode prog_14_method_5_code 177 = .ok (.iconst 1, 1) := by decide +kernel
theorem d_Mo_generator_178 : decode prog_14_method_5_code 178 = .ok (.goto 4, 3) := by decide +kernel
theorem d_Mo_generator_181 : decode prog_14_method_5_code 181 = .ok (.iconst 0, 1) := by decide +kernel
theorem d_Mo_generator_182 : decode prog_14_method_5_code 182 = .ok (.istore 4, 2) := by decide +kernel
theorem d_Mo_generator_184 : decode prog_14_method_5_code 184 = .ok (.iload_n 1, 1) := by decide +kernel
theorem d_Mo_generator_185 : decode prog_14_method_5_code 185 = .ok (.iconst 5, 1) := by decide +kernel
theorem d_Mo_generator_186 : decode prog_14_method_5_code 186 = .ok (.if_icmp .ne 28, 3) := by decide +kernel
theorem d_Mo_generator_189 : decode prog_14_method_5_code 189 = .ok (.iload 4, 2) := by decide +kernel
theorem d_Mo_generator_191 : decode prog_14_method_5_code 191 = .ok (.ifCond .eq 20, 3) := by decide +kernel
theorem d_Mo_generator_194 : decode prog_14_method_5_code 194 = .ok (.iload_n 3, 1) := by decide +kernel
theorem d_Mo_generator_195 : decode prog_14_method_5_code 195 = .ok (.sipush (-1000), 3) := by decide +kernel
theorem d_Mo_generator_198 : decode prog_14_method_5_code 198 = .ok (.sipush 1000, 3) := by decide +kernel
theorem d_Mo_generator_201 : decode prog_14_method_5_code 201 = .ok (.invokestatic 86, 3) := by decide +kernel
theorem d_Mo_generator_204 : decode prog_14_method_5_code 204 = .ok (.ifCond .eq 7, 3) := by decide +kernel
theorem d_Mo_generator_207 : decode prog_14_method_5_code 207 = .ok (.iconst 1, 1) := by decide +kernel
theorem d_Mo_generator_208 : decode prog_14_method_5_code 208 = .ok (.goto 4, 3) := by decide +kernel
theorem d_Mo_generator_211 : decode prog_14_method_5_code 211 = .ok (.iconst 0, 1) := by decide +kernel
theorem d_Mo_generator_212 : decode prog_14_method_5_code 212 = .ok (.istore 4, 2) := by decide +kernel
theorem d_Mo_generator_214 : decode prog_14_method_5_code 214 = .ok (.iload 4, 2) := by decide +kernel
theorem d_Mo_generator_216 : decode prog_14_method_5_code 216 = .ok (.ifCond .ne 5, 3) := by decide +kernel
theorem d_Mo_generator_219 : decode prog_14_method_5_code 219 = .ok (.iconst (-1), 1) := by decide +kernel
theorem d_Mo_generator_220 : decode prog_14_method_5_code 220 = .ok (.ireturn, 1) := by decide +kernel
theorem d_Mo_generator_221 : decode prog_14_method_5_code 221 = .ok (.iload_n 1, 1) := by decide +kernel
theorem d_Mo_generator_222 : decode prog_14_method_5_code 222 = .ok (.ifCond .ne 7, 3) := by decide +kernel
theorem d_Mo_generator_225 : decode prog_14_method_5_code 225 = .ok (.iconst 0, 1) := by decide +kernel
theorem d_Mo_generator_226 : decode prog_14_method_5_code 226 = .ok (.goto 9, 3) := by decide +kernel
theorem d_Mo_generator_229 : decode prog_14_method_5_code 229 = .ok (.aload_n 0, 1) := by decide +kernel
theorem d_Mo_generator_230 : decode prog_14_method_5_code 230 = .ok (.getfield 19, 3) := by decide +kernel
theorem d_Mo_generator_233 : decode prog_14_method_5_code 233 = .ok (.iload_n 2, 1) := by decide +kernel
theorem d_Mo_generator_234 : decode prog_14_method_5_code 234 = .ok (.iaload, 1) := by decide +kernel
theorem d_Mo_generator_235 : decode prog_14_method_5_code 235 = .ok (.istore 5, 2) := by decide +kernel
theorem d_Mo_generator_237 : decode prog_14_method_5_code 237 = .ok (.iload_n 1, 1) := by decide +kernel
theorem d_Mo_generator_238 : decode prog_14_method_5_code 238 = .ok (.iconst 2, 1) := by decide +kernel
theorem d_Mo_generator_239 : decode prog_14_method_5_code 239 = .ok (.if_icmp .eq 8, 3) := by decide +kernel
theorem d_Mo_generator_242 : decode prog_14_method_5_code 242 = .ok (.iload_n 1, 1) := by decide +kernel
theorem d_Mo_generator_243 : decode prog_14_method_5_code 243 = .ok (.iconst 3, 1) := by decide +kernel
theorem d_Mo_generator_244 : decode prog_14_method_5_code 244 = .ok (.if_icmp .ne 23, 3) := by decide +kernel
theorem d_Mo_generator_247 : decode prog_14_method_5_code 247 = .ok (.aload_n 0, 1) := by decide +kernel
theorem d_Mo_generator_248 : decode prog_14_method_5_code 248 = .ok (.getfield 19, 3) := by decide +kernel
theorem d_Mo_generator_251 : decode prog_14_method_5_code 251 = .ok (.iload_n 3, 1) := by decide +kernel
theorem d_Mo_generator_252 : decode prog_14_method_5_code 252 = .ok (.iaload, 1) := by decide +kernel
theorem d_Mo_generator_253 : decode prog_14_method_5_code 253 = .ok (.iload 5, 2) := by decide +kernel
theorem d_Mo_generator_255 : decode prog_14_method_5_code 255 = .ok (.if_icmp .le 12, 3) := by decide +kernel
theorem d_Mo_generator_258 : decode prog_14_method_5_code 258 = .ok (.aload_n 0, 1) := by decide +kernel
theorem d_Mo_generator_259 : decode prog_14_method_5_code 259 = .ok (.getfield 19, 3) := by decide +kernel
theorem d_Mo_generator_262 : decode prog_14_method_5_code 262 = .ok (.iload_n 3, 1) := by decide +kernel
theorem d_Mo_generator_263 : decode prog_14_method_5_code 263 = .ok (.iaload, 1) := by decide +kernel
theorem d_Mo_generator_264 : decode prog_14_method_5_code 264 = .ok (.goto 5, 3) := by decide +kernel
theorem d_Mo_generator_267 : decode prog_14_method_5_code 267 = .ok (.iload 5, 2) := by decide +kernel
theorem d_Mo_generator_269 : decode prog_14_method_5_code 269 = .ok (.istore 5, 2) := by decide +kernel
theorem d_Mo_generator_271 : decode prog_14_method_5_code 271 = .ok (.iload 5, 2) := by decide +kernel
theorem d_Mo_generator_273 : decode prog_14_method_5_code 273 = .ok (.bipush 8, 2) := by decide +kernel
theorem d_Mo_generator_275 : decode prog_14_method_5_code 275 = .ok (.if_icmp .ne 5, 3) := by decide +kernel
theorem d_Mo_generator_278 : decode prog_14_method_5_code 278 = .ok (.iconst (-1), 1) := by decide +kernel
theorem d_Mo_generator_279 : decode prog_14_method_5_code 279 = .ok (.ireturn, 1) := by decide +kernel
theorem d_Mo_generator_280 : decode prog_14_method_5_code 280 = .ok (.aload_n 0, 1) := by decide +kernel
theorem d_Mo_generator_281 : decode prog_14_method_5_code 281 = .ok (.getfield 7, 3) := by decide +kernel
theorem d_Mo_generator_284 : decode prog_14_method_5_code 284 = .ok (.aload_n 0, 1) := by decide +kernel
theorem d_Mo_generator_285 : decode prog_14_method_5_code 285 = .ok (.getfield 83, 3) := by decide +kernel
theorem d_Mo_generator_288 : decode prog_14_method_5_code 288 = .ok (.iload_n 1, 1) := by decide +kernel
theorem d_Mo_generator_289 : decode prog_14_method_5_code 289 = .ok (.iastore, 1) := by decide +kernel
theorem d_Mo_generator_290 : decode prog_14_method_5_code 290 = .ok (.aload_n 0, 1) := by decide +kernel
theorem d_Mo_generator_291 : decode prog_14_method_5_code 291 = .ok (.getfield 13, 3) := by decide +kernel
theorem d_Mo_generator_294 : decode prog_14_method_5_code 294 = .ok (.aload_n 0, 1) := by decide +kernel
theorem d_Mo_generator_295 : decode prog_14_method_5_code 295 = .ok (.getfield 83, 3) := by decide +kernel
theorem d_Mo_generator_298 : decode prog_14_method_5_code 298 = .ok (.iload_n 2, 1) := by decide +kernel
theorem d_Mo_generator_299 : decode prog_14_method_5_code 299 = .ok (.iastore, 1) := by decide +kernel
theorem d_Mo_generator_300 : decode prog_14_method_5_code 300 = .ok (.aload_n 0, 1) := by decide +kernel
theorem d_Mo_generator_301 : decode prog_14_method_5_code 301 = .ok (.getfield 16, 3) := by decide +kernel
theorem d_Mo_generator_304 : decode prog_14_method_5_code 304 = .ok (.aload_n 0, 1) := by decide +kernel
theorem d_Mo_generator_305 : decode prog_14_method_5_code 305 = .ok (.getfield 83, 3) := by decide +kernel
theorem d_Mo_generator_308 : decode prog_14_method_5_code 308 = .ok (.iload_n 3, 1) := by decide +kernel
theorem d_Mo_generator_309 : decode prog_14_method_5_code 309 = .ok (.iastore, 1) := by decide +kernel
theorem d_Mo_generator_310 : decode prog_14_method_5_code 310 = .ok (.aload_n 0, 1) := by decide +kernel
theorem d_Mo_generator_311 : decode prog_14_method_5_code 311 = .ok (.getfield 19, 3) := by decide +kernel
theorem d_Mo_generator_314 : decode prog_14_method_5_code 314 = .ok (.aload_n 0, 1) := by decide +kernel
theorem d_Mo_generator_315 : decode prog_14_method_5_code 315 = .ok (.getfield 83, 3) := by decide +kernel
theorem d_Mo_generator_318 : decode prog_14_method_5_code 318 = .ok (.iload 5, 2) := by decide +kernel
theorem d_Mo_generator_320 : decode prog_14_method_5_code 320 = .ok (.iconst 1, 1) := by decide +kernel
theorem d_Mo_generator_321 : decode prog_14_method_5_code 321 = .ok (.iadd, 1) := by decide +kernel
theorem d_Mo_generator_322 : decode prog_14_method_5_code 322 = .ok (.iastore, 1) := by decide +kernel
theorem d_Mo_generator_323 : decode prog_14_method_5_code 323 = .ok (.aload_n 0, 1) := by decide +kernel
theorem d_Mo_generator_324 : decode prog_14_method_5_code 324 = .ok (.dup, 1) := by decide +kernel
theorem d_Mo_generator_325 : decode prog_14_method_5_code 325 = .ok (.getfield 83, 3) := by decide +kernel
theorem d_Mo_generator_328 : decode prog_14_method_5_code 328 = .ok (.iconst 1, 1) := by decide +kernel
theorem d_Mo_generator_329 : decode prog_14_method_5_code 329 = .ok (.iadd, 1) := by decide +kernel
theorem d_Mo_generator_330 : decode prog_14_method_5_code 330 = .ok (.putfield 83, 3) := by decide +kernel
theorem d_Mo_generator_333 : decode prog_14_method_5_code 333 = .ok (.aload_n 0, 1) := by decide +kernel
theorem d_Mo_generator_334 : decode prog_14_method_5_code 334 = .ok (.getfield 83, 3) := by decide +kernel
theorem d_Mo_generator_337 : decode prog_14_method_5_code 337 = .ok (.iconst 1, 1) := by decide +kernel
theorem d_Mo_generator_338 : decode prog_14_method_5_code 338 = .ok (.isub, 1) := by decide +kernel
theorem d_Mo_generator_339 : decode prog_14_method_5_code 339 = .ok (.ireturn, 1) := by decide +kernel
theorem d_Mo_isWithin_0 : decode prog_14_method_4_code 0 = .ok (.iload_n 0, 1) := by decide +kernel
theorem d_Mo_isWithin_1 : decode prog_14_method_4_code 1 = .ok (.iload_n 1, 1) := by decide +kernel
theorem d_Mo_isWithin_2 : decode prog_14_method_4_code 2 = .ok (.if_icmp .lt 12, 3) := by decide +kernel
theorem d_Mo_isWithin_5 : decode prog_14_method_4_code 5 = .ok (.iload_n 0, 1) := by decide +kernel
theorem d_Mo_isWithin_6 : decode prog_14_method_4_code 6 = .ok (.iload_n 2, 1) := by decide +kernel
theorem d_Mo_isWithin_7 : decode prog_14_method_4_code 7 = .ok (.if_icmp .gt 7, 3) := by decide +kernel
theorem d_Mo_isWithin_10 : decode prog_14_method_4_code 10 = .ok (.iconst 1, 1) := by decide +kernel
theorem d_Mo_isWithin_11 : decode prog_14_method_4_code 11 = .ok (.goto 4, 3) := by decide +kernel
theorem d_Mo_isWithin_14 : decode prog_14_method_4_code 14 = .ok (.iconst 0, 1) := by decide +kernel
theorem d_Mo_isWithin_15 : decode prog_14_method_4_code 15 = .ok (.ireturn, 1) := by decide +kernel
theorem d_Mo_isGenerator_0 : decode prog_14_method_3_code 0 = .ok (.iload_n 1, 1) := by decide +kernel
theorem d_Mo_isGenerator_1 : decode prog_14_method_3_code 1 = .ok (.ifCond .lt 15, 3) := by decide +kernel
theorem d_Mo_isGenerator_4 : decode prog_14_method_3_code 4 = .ok (.iload_n 1, 1) := by decide +kernel
theorem d_Mo_isGenerator_5 : decode prog_14_method_3_code 5 = .ok (.aload_n 0, 1) := by decide +kernel
theorem d_Mo_isGenerator_6 : decode prog_14_method_3_code 6 = .ok (.getfield 83, 3) := by decide +kernel
theorem d_Mo_isGenerator_9 : decode prog_14_method_3_code 9 = .ok (.if_icmp .ge 7, 3) := by decide +kernel
theorem d_Mo_isGenerator_12 : decode prog_14_method_3_code 12 = .ok (.iconst 1, 1) := by decide +kernel
theorem d_Mo_isGenerator_13 : decode prog_14_method_3_code 13 = .ok (.goto 4, 3) := by decide +kernel
theorem d_Mo_isGenerator_16 : decode prog_14_method_3_code 16 = .ok (.iconst 0, 1) := by decide +kernel
theorem d_Mo_isGenerator_17 : decode prog_14_method_3_code 17 = .ok (.ireturn, 1) := by decide +kernel
theorem d_Mo_property_0 : decode prog_14_method_6_code 0 = .ok (.aload_n 0, 1) := by decide +kernel
theorem d_Mo_property_1 : decode prog_14_method_6_code 1 = .ok (.iconst 0, 1) := by decide +kernel
theorem d_Mo_property_2 : decode prog_14_method_6_code 2 = .ok (.putfield 80, 3) := by decide +kernel
theorem d_Mo_property_5 : decode prog_14_method_6_code 5 = .ok (.aload_n 0, 1) := by decide +kernel
theorem d_Mo_property_6 : decode prog_14_method_6_code 6 = .ok (.getfield 94, 3) := by decide +kernel
theorem d_Mo_property_9 : decode prog_14_method_6_code 9 = .ok (.bipush 10, 2) := by decide +kernel
theorem d_Mo_property_11 : decode prog_14_method_6_code 11 = .ok (.if_icmp .eq 22, 3) := by decide +kernel
theorem d_Mo_property_14 : decode prog_14_method_6_code 14 = .ok (.iload_n 1, 1) := by decide +kernel
theorem d_Mo_property_15 : decode prog_14_method_6_code 15 = .ok (.ifCond .lt 18, 3) := by decide +kernel
theorem d_Mo_property_18 : decode prog_14_method_6_code 18 = .ok (.iload_n 1, 1) := by decide +kernel
theorem d_Mo_property_19 : decode prog_14_method_6_code 19 = .ok (.iconst 4, 1) := by decide +kernel
theorem d_Mo_property_20 : decode prog_14_method_6_code 20 = .ok (.if_icmp .gt 13, 3) := by decide +kernel
theorem d_Mo_property_23 : decode prog_14_method_6_code 23 = .ok (.iload_n 3, 1) := by decide +kernel
theorem d_Mo_property_24 : decode prog_14_method_6_code 24 = .ok (.ifCond .lt 9, 3) := by decide +kernel
theorem d_Mo_property_27 : decode prog_14_method_6_code 27 = .ok (.iload_n 3, 1) := by decide +kernel
theorem d_Mo_property_28 : decode prog_14_method_6_code 28 = .ok (.bipush 10, 2) := by decide +kernel
theorem d_Mo_property_30 : decode prog_14_method_6_code 30 = .ok (.if_icmp .le 5, 3) := by decide +kernel
theorem d_Mo_property_33 : decode prog_14_method_6_code 33 = .ok (.iconst (-1), 1) := by decide +kernel
theorem d_Mo_property_34 : decode prog_14_method_6_code 34 = .ok (.ireturn, 1) := by decide +kernel
theorem d_Mo_property_35 : decode prog_14_method_6_code 35 = .ok (.aload_n 0, 1) := by decide +kernel
theorem d_Mo_property_36 : decode prog_14_method_6_code 36 = .ok (.getfield 22, 3) := by decide +kernel
theorem d_Mo_property_39 : decode prog_14_method_6_code 39 = .ok (.aload_n 0, 1) := by decide +kernel
theorem d_Mo_property_40 : decode prog_14_method_6_code 40 = .ok (.getfield 94, 3) := by decide +kernel
theorem d_Mo_property_43 : decode prog_14_method_6_code 43 = .ok (.iload_n 1, 1) := by decide +kernel
theorem d_Mo_property_44 : decode prog_14_method_6_code 44 = .ok (.iastore, 1) := by decide +kernel
theorem d_Mo_property_45 : decode prog_14_method_6_code 45 = .ok (.aload_n 0, 1) := by decide +kernel
theorem d_Mo_property_46 : decode prog_14_method_6_code 46 = .ok (.getfield 25, 3) := by decide +kernel
theorem d_Mo_property_49 : decode prog_14_method_6_code 49 = .ok (.aload_n 0, 1) := by decide +kernel
theorem d_Mo_property_50 : decode prog_14_method_6_code 50 = .ok (.getfield 94, 3) := by decide +kernel
theorem d_Mo_property_53 : decode prog_14_method_6_code 53 = .ok (.iload_n 2, 1) := by decide +kernel
theorem d_Mo_property_54 : decode prog_14_method_6_code 54 = .ok (.iastore, 1) := by decide +kernel
theorem d_Mo_property_55 : decode prog_14_method_6_code 55 = .ok (.aload_n 0, 1) := by decide +kernel
theorem d_Mo_property_56 : decode prog_14_method_6_code 56 = .ok (.getfield 28, 3) := by decide +kernel
theorem d_Mo_property_59 : decode prog_14_method_6_code 59 = .ok (.aload_n 0, 1) := by decide +kernel
theorem d_Mo_property_60 : decode prog_14_method_6_code 60 = .ok (.getfield 94, 3) := by decide +kernel
theorem d_Mo_property_63 : decode prog_14_method_6_code 63 = .ok (.iload_n 3, 1) := by decide +kernel
theorem d_Mo_property_64 : decode prog_14_method_6_code 64 = .ok (.iastore, 1) := by decide +kernel
theorem d_Mo_property_65 : decode prog_14_method_6_code 65 = .ok (.aload_n 0, 1) := by decide +kernel
theorem d_Mo_property_66 : decode prog_14_method_6_code 66 = .ok (.dup, 1) := by decide +kernel
theorem d_Mo_property_67 : decode prog_14_method_6_code 67 = .ok (.getfield 94, 3) := by decide +kernel
theorem d_Mo_property_70 : decode prog_14_method_6_code 70 = .ok (.iconst 1, 1) := by decide +kernel
theorem d_Mo_property_71 : decode prog_14_method_6_code 71 = .ok (.iadd, 1) := by decide +kernel
theorem d_Mo_property_72 : decode prog_14_method_6_code 72 = .ok (.putfield 94, 3) := by decide +kernel
theorem d_Mo_property_75 : decode prog_14_method_6_code 75 = .ok (.aload_n 0, 1) := by decide +kernel
theorem d_Mo_property_76 : decode prog_14_method_6_code 76 = .ok (.getfield 94, 3) := by decide +kernel
theorem d_Mo_property_79 : decode prog_14_method_6_code 79 = .ok (.iconst 1, 1) := by decide +kernel
theorem d_Mo_property_80 : decode prog_14_method_6_code 80 = .ok (.isub, 1) := by decide +kernel
theorem d_Mo_property_81 : decode prog_14_method_6_code 81 = .ok (.ireturn, 1) := by decide +kernel
theorem d_Mo_check_0 : decode prog_14_method_18_code 0 = .ok (.aload_n 0, 1) := by decide +kernel
theorem d_Mo_check_1 : decode prog_14_method_18_code 1 = .ok (.iconst 0, 1) := by decide +kernel
theorem d_Mo_check_2 : decode prog_14_method_18_code 2 = .ok (.putfield 80, 3) := by decide +kernel
theorem d_Mo_check_5 : decode prog_14_method_18_code 5 = .ok (.aload_n 0, 1) := by decide +kernel
theorem d_Mo_check_6 : decode prog_14_method_18_code 6 = .ok (.iload_n 1, 1) := by decide +kernel
theorem d_Mo_check_7 : decode prog_14_method_18_code 7 = .ok (.invokevirtual 90, 3) := by decide +kernel
theorem d_Mo_check_10 : decode prog_14_method_18_code 10 = .ok (.ifCond .eq 28, 3) := by decide +kernel
theorem d_Mo_check_13 : decode prog_14_method_18_code 13 = .ok (.iload_n 2, 1) := by decide +kernel
theorem d_Mo_check_14 : decode prog_14_method_18_code 14 = .ok (.ifCond .lt 24, 3) := by decide +kernel
theorem d_Mo_check_17 : decode prog_14_method_18_code 17 = .ok (.iload_n 2, 1) := by decide +kernel
theorem d_Mo_check_18 : decode prog_14_method_18_code 18 = .ok (.aload_n 0, 1) := by decide +kernel
theorem d_Mo_check_19 : decode prog_14_method_18_code 19 = .ok (.getfield 94, 3) := by decide +kernel
theorem d_Mo_check_22 : decode prog_14_method_18_code 22 = .ok (.if_icmp .ge 16, 3) := by decide +kernel
theorem d_Mo_check_25 : decode prog_14_method_18_code 25 = .ok (.iload 5, 2) := by decide +kernel
theorem d_Mo_check_27 : decode prog_14_method_18_code 27 = .ok (.iconst 1, 1) := by decide +kernel
theorem d_Mo_check_28 : decode prog_14_method_18_code 28 = .ok (.if_icmp .lt 10, 3) := by decide +kernel
theorem d_Mo_check_31 : decode prog_14_method_18_code 31 = .ok (.iload 5, 2) := by decide +kernel
theorem d_Mo_check_33 : decode prog_14_method_18_code 33 = .ok (.bipush 60, 2) := by decide +kernel
theorem d_Mo_check_35 : decode prog_14_method_18_code 35 = .ok (.if_icmp .le 6, 3) := by decide +kernel
theorem d_Mo_check_38 : decode prog_14_method_18_code 38 = .ok (.bipush (-3), 2) := by decide +kernel
theorem d_Mo_check_40 : decode prog_14_method_18_code 40 = .ok (.ireturn, 1) := by decide +kernel
theorem d_Mo_check_41 : decode prog_14_method_18_code 41 = .ok (.aload_n 0, 1) := by decide +kernel
theorem d_Mo_check_42 : decode prog_14_method_18_code 42 = .ok (.iconst 0, 1) := by decide +kernel
theorem d_Mo_check_43 : decode prog_14_method_18_code 43 = .ok (.putfield 174, 3) := by decide +kernel
theorem d_Mo_check_46 : decode prog_14_method_18_code 46 = .ok (.aload_n 0, 1) := by decide +kernel
theorem d_Mo_check_47 : decode prog_14_method_18_code 47 = .ok (.iload_n 1, 1) := by decide +kernel
theorem d_Mo_check_48 : decode prog_14_method_18_code 48 = .ok (.iload_n 2, 1) := by decide +kernel
theorem d_Mo_check_49 : decode prog_14_method_18_code 49 = .ok (.invokevirtual 177, 3) := by decide +kernel
theorem d_Mo_check_52 : decode prog_14_method_18_code 52 = .ok (.ifCond .eq 10, 3) := by decide +kernel
theorem d_Mo_check_55 : decode prog_14_method_18_code 55 = .ok (.aload_n 0, 1) := by decide +kernel
theorem d_Mo_check_56 : decode prog_14_method_18_code 56 = .ok (.iconst 0, 1) := by decide +kernel
theorem d_Mo_check_57 : decode prog_14_method_18_code 57 = .ok (.putfield 181, 3) := by decide +kernel
theorem d_Mo_check_60 : decode prog_14_method_18_code 60 = .ok (.iconst (-1), 1) := by decide +kernel
theorem d_Mo_check_61 : decode prog_14_method_18_code 61 = .ok (.ireturn, 1) := by decide +kernel
theorem d_Mo_check_62 : decode prog_14_method_18_code 62 = .ok (.aload_n 0, 1) := by decide +kernel
theorem d_Mo_check_63 : decode prog_14_method_18_code 63 = .ok (.lload_n 3, 1) := by decide +kernel
theorem d_Mo_check_64 : decode prog_14_method_18_code 64 = .ok (.putfield 100, 3) := by decide +kernel
theorem d_Mo_check_67 : decode prog_14_method_18_code 67 = .ok (.aload_n 0, 1) := by decide +kernel
theorem d_Mo_check_68 : decode prog_14_method_18_code 68 = .ok (.iconst 0, 1) := by decide +kernel
theorem d_Mo_check_69 : decode prog_14_method_18_code 69 = .ok (.putfield 118, 3) := by decide +kernel
theorem d_Mo_check_72 : decode prog_14_method_18_code 72 = .ok (.iconst 0, 1) := by decide +kernel
theorem d_Mo_check_73 : decode prog_14_method_18_code 73 = .ok (.istore 6, 2) := by decide +kernel
theorem d_Mo_check_75 : decode prog_14_method_18_code 75 = .ok (.iload 6, 2) := by decide +kernel
theorem d_Mo_check_77 : decode prog_14_method_18_code 77 = .ok (.iload 5, 2) := by decide +kernel
theorem d_Mo_check_79 : decode prog_14_method_18_code 79 = .ok (.if_icmp .ge 102, 3) := by decide +kernel
theorem d_Mo_check_82 : decode prog_14_method_18_code 82 = .ok (.aload_n 0, 1) := by decide +kernel
theorem d_Mo_check_83 : decode prog_14_method_18_code 83 = .ok (.iload_n 1, 1) := by decide +kernel
theorem d_Mo_check_84 : decode prog_14_method_18_code 84 = .ok (.iconst 1, 1) := by decide +kernel
theorem d_Mo_check_85 : decode prog_14_method_18_code 85 = .ok (.invokevirtual 161, 3) := by decide +kernel
theorem d_Mo_check_88 : decode prog_14_method_18_code 88 = .ok (.aload_n 0, 1) := by decide +kernel
theorem d_Mo_check_89 : decode prog_14_method_18_code 89 = .ok (.dup, 1) := by decide +kernel
theorem d_Mo_check_90 : decode prog_14_method_18_code 90 = .ok (.getfield 118, 3) := by decide +kernel
theorem d_Mo_check_93 : decode prog_14_method_18_code 93 = .ok (.iconst 1, 1) := by decide +kernel
theorem d_Mo_check_94 : decode prog_14_method_18_code 94 = .ok (.iadd, 1) := by decide +kernel
theorem d_Mo_check_95 : decode prog_14_method_18_code 95 = .ok (.putfield 118, 3) := by decide +kernel
theorem d_Mo_check_98 : decode prog_14_method_18_code 98 = .ok (.aload_n 0, 1) := by decide +kernel
theorem d_Mo_check_99 : decode prog_14_method_18_code 99 = .ok (.iload_n 2, 1) := by decide +kernel
theorem d_Mo_check_100 : decode prog_14_method_18_code 100 = .ok (.invokevirtual 164, 3) := by decide +kernel
theorem d_Mo_check_103 : decode prog_14_method_18_code 103 = .ok (.istore 7, 2) := by decide +kernel
theorem d_Mo_check_105 : decode prog_14_method_18_code 105 = .ok (.iload 7, 2) := by decide +kernel
theorem d_Mo_check_107 : decode prog_14_method_18_code 107 = .ok (.invokestatic 168, 3) := by decide +kernel
theorem d_Mo_check_110 : decode prog_14_method_18_code 110 = .ok (.ifCond .eq 22, 3) := by decide +kernel
theorem d_Mo_check_113 : decode prog_14_method_18_code 113 = .ok (.aload_n 0, 1) := by decide +kernel
theorem d_Mo_check_114 : decode prog_14_method_18_code 114 = .ok (.iload_n 1, 1) := by decide +kernel
theorem d_Mo_check_115 : decode prog_14_method_18_code 115 = .ok (.iload_n 2, 1) := by decide +kernel
theorem d_Mo_check_116 : decode prog_14_method_18_code 116 = .ok (.iload 7, 2) := by decide +kernel
theorem d_Mo_check_118 : decode prog_14_method_18_code 118 = .ok (.invokevirtual 171, 3) := by decide +kernel
theorem d_Mo_check_121 : decode prog_14_method_18_code 121 = .ok (.aload_n 0, 1) := by decide +kernel
theorem d_Mo_check_122 : decode prog_14_method_18_code 122 = .ok (.invokevirtual 184, 3) := by decide +kernel
theorem d_Mo_check_125 : decode prog_14_method_18_code 125 = .ok (.aload_n 0, 1) := by decide +kernel
theorem d_Mo_check_126 : decode prog_14_method_18_code 126 = .ok (.iconst 0, 1) := by decide +kernel
theorem d_Mo_check_127 : decode prog_14_method_18_code 127 = .ok (.putfield 181, 3) := by decide +kernel
theorem d_Mo_check_130 : decode prog_14_method_18_code 130 = .ok (.iconst (-1), 1) := by decide +kernel
theorem d_Mo_check_131 : decode prog_14_method_18_code 131 = .ok (.ireturn, 1) := by decide +kernel
theorem d_Mo_check_132 : decode prog_14_method_18_code 132 = .ok (.iload 6, 2) := by decide +kernel
theorem d_Mo_check_134 : decode prog_14_method_18_code 134 = .ok (.iload 7, 2) := by decide +kernel
theorem d_Mo_check_136 : decode prog_14_method_18_code 136 = .ok (.ifCond .ne 7, 3) := by decide +kernel
theorem d_Mo_check_139 : decode prog_14_method_18_code 139 = .ok (.iconst 1, 1) := by decide +kernel
theorem d_Mo_check_140 : decode prog_14_method_18_code 140 = .ok (.goto 4, 3) := by decide +kernel
theorem d_Mo_check_143 : decode prog_14_method_18_code 143 = .ok (.iconst 0, 1) := by decide +kernel
theorem d_Mo_check_144 : decode prog_14_method_18_code 144 = .ok (.iadd, 1) := by decide +kernel
theorem d_Mo_check_145 : decode prog_14_method_18_code 145 = .ok (.istore 6, 2) := by decide +kernel
theorem d_Mo_check_147 : decode prog_14_method_18_code 147 = .ok (.aload_n 0, 1) := by decide +kernel
theorem d_Mo_check_148 : decode prog_14_method_18_code 148 = .ok (.dup, 1) := by decide +kernel
theorem d_Mo_check_149 : decode prog_14_method_18_code 149 = .ok (.getfield 174, 3) := by decide +kernel
theorem d_Mo_check_152 : decode prog_14_method_18_code 152 = .ok (.iload 7, 2) := by decide +kernel
theorem d_Mo_check_154 : decode prog_14_method_18_code 154 = .ok (.ifCond .ne 7, 3) := by decide +kernel
theorem d_Mo_check_157 : decode prog_14_method_18_code 157 = .ok (.iconst 0, 1) := by decide +kernel
theorem d_Mo_check_158 : decode prog_14_method_18_code 158 = .ok (.goto 4, 3) := by decide +kernel
theorem d_Mo_check_161 : decode prog_14_method_18_code 161 = .ok (.iconst 1, 1) := by decide +kernel
theorem d_Mo_check_162 : decode prog_14_method_18_code 162 = .ok (.iadd, 1) := by decide +kernel
theorem d_Mo_check_163 : decode prog_14_method_18_code 163 = .ok (.putfield 174, 3) := by decide +kernel
theorem d_Mo_check_166 : decode prog_14_method_18_code 166 = .ok (.aload_n 0, 1) := by decide +kernel
theorem d_Mo_check_167 : decode prog_14_method_18_code 167 = .ok (.getfield 174, 3) := by decide +kernel
theorem d_Mo_check_170 : decode prog_14_method_18_code 170 = .ok (.iload 5, 2) := by decide +kernel
theorem d_Mo_check_172 : decode prog_14_method_18_code 172 = .ok (.if_icmp .le 6, 3) := by decide +kernel
theorem d_Mo_check_175 : decode prog_14_method_18_code 175 = .ok (.bipush (-2), 2) := by decide +kernel
theorem d_Mo_check_177 : decode prog_14_method_18_code 177 = .ok (.ireturn, 1) := by decide +kernel
theorem d_Mo_check_178 : decode prog_14_method_18_code 178 = .ok (.goto (-103), 3) := by decide +kernel
theorem d_Mo_check_181 : decode prog_14_method_18_code 181 = .ok (.iload 5, 2) := by decide +kernel
theorem d_Mo_check_183 : decode prog_14_method_18_code 183 = .ok (.ireturn, 1) := by decide +kernel
theorem d_Mo_findKept_0 : decode prog_14_method_16_code 0 = .ok (.aload_n 0, 1) := by decide +kernel
theorem d_Mo_findKept_1 : decode prog_14_method_16_code 1 = .ok (.getfield 158, 3) := by decide +kernel
theorem d_Mo_findKept_4 : decode prog_14_method_16_code 4 = .ok (.iconst 1, 1) := by decide +kernel
theorem d_Mo_findKept_5 : decode prog_14_method_16_code 5 = .ok (.isub, 1) := by decide +kernel
theorem d_Mo_findKept_6 : decode prog_14_method_16_code 6 = .ok (.istore_n 3, 1) := by decide +kernel
theorem d_Mo_findKept_7 : decode prog_14_method_16_code 7 = .ok (.iload_n 3, 1) := by decide +kernel
theorem d_Mo_findKept_8 : decode prog_14_method_16_code 8 = .ok (.ifCond .lt 113, 3) := by decide +kernel
theorem d_Mo_findKept_11 : decode prog_14_method_16_code 11 = .ok (.aload_n 0, 1) := by decide +kernel
theorem d_Mo_findKept_12 : decode prog_14_method_16_code 12 = .ok (.getfield 62, 3) := by decide +kernel
theorem d_Mo_findKept_15 : decode prog_14_method_16_code 15 = .ok (.iload_n 3, 1) := by decide +kernel
theorem d_Mo_findKept_16 : decode prog_14_method_16_code 16 = .ok (.iaload, 1) := by decide +kernel
theorem d_Mo_findKept_17 : decode prog_14_method_16_code 17 = .ok (.iload_n 1, 1) := by decide +kernel
theorem d_Mo_findKept_18 : decode prog_14_method_16_code 18 = .ok (.if_icmp .ne 97, 3) := by decide +kernel
theorem d_Mo_findKept_21 : decode prog_14_method_16_code 21 = .ok (.aload_n 0, 1) := by decide +kernel
theorem d_Mo_findKept_22 : decode prog_14_method_16_code 22 = .ok (.getfield 65, 3) := by decide +kernel
theorem d_Mo_findKept_25 : decode prog_14_method_16_code 25 = .ok (.iload_n 3, 1) := by decide +kernel
theorem d_Mo_findKept_26 : decode prog_14_method_16_code 26 = .ok (.iaload, 1) := by decide +kernel
theorem d_Mo_findKept_27 : decode prog_14_method_16_code 27 = .ok (.iload_n 2, 1) := by decide +kernel
theorem d_Mo_findKept_28 : decode prog_14_method_16_code 28 = .ok (.if_icmp .eq 6, 3) := by decide +kernel
theorem d_Mo_findKept_31 : decode prog_14_method_16_code 31 = .ok (.goto 84, 3) := by decide +kernel
theorem d_Mo_findKept_34 : decode prog_14_method_16_code 34 = .ok (.aload_n 0, 1) := by decide +kernel
theorem d_Mo_findKept_35 : decode prog_14_method_16_code 35 = .ok (.aload_n 0, 1) := by decide +kernel
theorem d_Mo_findKept_36 : decode prog_14_method_16_code 36 = .ok (.getfield 68, 3) := by decide +kernel
theorem d_Mo_findKept_39 : decode prog_14_method_16_code 39 = .ok (.iload_n 3, 1) := by decide +kernel
theorem d_Mo_findKept_40 : decode prog_14_method_16_code 40 = .ok (.iaload, 1) := by decide +kernel
theorem d_Mo_findKept_41 : decode prog_14_method_16_code 41 = .ok (.putfield 111, 3) := by decide +kernel
theorem d_Mo_findKept_44 : decode prog_14_method_16_code 44 = .ok (.iconst 0, 1) := by decide +kernel
theorem d_Mo_findKept_45 : decode prog_14_method_16_code 45 = .ok (.istore 4, 2) := by decide +kernel
theorem d_Mo_findKept_47 : decode prog_14_method_16_code 47 = .ok (.iload 4, 2) := by decide +kernel
theorem d_Mo_findKept_49 : decode prog_14_method_16_code 49 = .ok (.aload_n 0, 1) := by decide +kernel
theorem d_Mo_findKept_50 : decode prog_14_method_16_code 50 = .ok (.getfield 111, 3) := by decide +kernel
theorem d_Mo_findKept_53 : decode prog_14_method_16_code 53 = .ok (.if_icmp .ge 28, 3) := by decide +kernel
theorem d_Mo_findKept_56 : decode prog_14_method_16_code 56 = .ok (.aload_n 0, 1) := by decide +kernel
theorem d_Mo_findKept_57 : decode prog_14_method_16_code 57 = .ok (.getfield 31, 3) := by decide +kernel
theorem d_Mo_findKept_60 : decode prog_14_method_16_code 60 = .ok (.iload 4, 2) := by decide +kernel
theorem d_Mo_findKept_62 : decode prog_14_method_16_code 62 = .ok (.aload_n 0, 1) := by decide +kernel
theorem d_Mo_findKept_63 : decode prog_14_method_16_code 63 = .ok (.getfield 71, 3) := by decide +kernel
theorem d_Mo_findKept_66 : decode prog_14_method_16_code 66 = .ok (.bipush 60, 2) := by decide +kernel
theorem d_Mo_findKept_68 : decode prog_14_method_16_code 68 = .ok (.iload_n 3, 1) := by decide +kernel
theorem d_Mo_findKept_69 : decode prog_14_method_16_code 69 = .ok (.imul, 1) := by decide +kernel
theorem d_Mo_findKept_70 : decode prog_14_method_16_code 70 = .ok (.iload 4, 2) := by decide +kernel
theorem d_Mo_findKept_72 : decode prog_14_method_16_code 72 = .ok (.iadd, 1) := by decide +kernel
theorem d_Mo_findKept_73 : decode prog_14_method_16_code 73 = .ok (.iaload, 1) := by decide +kernel
theorem d_Mo_findKept_74 : decode prog_14_method_16_code 74 = .ok (.iastore, 1) := by decide +kernel
theorem d_Mo_findKept_75 : decode prog_14_method_16_code 75 = .ok (.iinc 4 1, 3) := by decide +kernel
theorem d_Mo_findKept_78 : decode prog_14_method_16_code 78 = .ok (.goto (-31), 3) := by decide +kernel
theorem d_Mo_findKept_81 : decode prog_14_method_16_code 81 = .ok (.aload_n 0, 1) := by decide +kernel
theorem d_Mo_findKept_82 : decode prog_14_method_16_code 82 = .ok (.iload_n 1, 1) := by decide +kernel
theorem d_Mo_findKept_83 : decode prog_14_method_16_code 83 = .ok (.iconst 0, 1) := by decide +kernel
theorem d_Mo_findKept_84 : decode prog_14_method_16_code 84 = .ok (.invokevirtual 161, 3) := by decide +kernel
theorem d_Mo_findKept_87 : decode prog_14_method_16_code 87 = .ok (.aload_n 0, 1) := by decide +kernel
theorem d_Mo_findKept_88 : decode prog_14_method_16_code 88 = .ok (.iload_n 2, 1) := by decide +kernel
theorem d_Mo_findKept_89 : decode prog_14_method_16_code 89 = .ok (.invokevirtual 164, 3) := by decide +kernel
theorem d_Mo_findKept_92 : decode prog_14_method_16_code 92 = .ok (.istore 4, 2) := by decide +kernel
theorem d_Mo_findKept_94 : decode prog_14_method_16_code 94 = .ok (.iload 4, 2) := by decide +kernel
theorem d_Mo_findKept_96 : decode prog_14_method_16_code 96 = .ok (.invokestatic 168, 3) := by decide +kernel
theorem d_Mo_findKept_99 : decode prog_14_method_16_code 99 = .ok (.ifCond .ne 6, 3) := by decide +kernel
theorem d_Mo_findKept_102 : decode prog_14_method_16_code 102 = .ok (.goto 13, 3) := by decide +kernel
theorem d_Mo_findKept_105 : decode prog_14_method_16_code 105 = .ok (.aload_n 0, 1) := by decide +kernel
theorem d_Mo_findKept_106 : decode prog_14_method_16_code 106 = .ok (.iload_n 1, 1) := by decide +kernel
theorem d_Mo_findKept_107 : decode prog_14_method_16_code 107 = .ok (.iload_n 2, 1) := by decide +kernel
theorem d_Mo_findKept_108 : decode prog_14_method_16_code 108 = .ok (.iload 4, 2) := by decide +kernel
theorem d_Mo_findKept_110 : decode prog_14_method_16_code 110 = .ok (.invokevirtual 171, 3) := by decide +kernel
theorem d_Mo_findKept_113 : decode prog_14_method_16_code 113 = .ok (.iconst 1, 1) := by decide +kernel
theorem d_Mo_findKept_114 : decode prog_14_method_16_code 114 = .ok (.ireturn, 1) := by decide +kernel
theorem d_Mo_findKept_115 : decode prog_14_method_16_code 115 = .ok (.iinc 3 (-1), 3) := by decide +kernel
theorem d_Mo_findKept_118 : decode prog_14_method_16_code 118 = .ok (.goto (-111), 3) := by decide +kernel
theorem d_Mo_findKept_121 : decode prog_14_method_16_code 121 = .ok (.iconst 0, 1) := by decide +kernel
theorem d_Mo_findKept_122 : decode prog_14_method_16_code 122 = .ok (.ireturn, 1) := by decide +kernel
theorem d_Mo_go_0 : decode prog_14_method_9_code 0 = .ok (.aload_n 0, 1) := by decide +kernel
theorem d_Mo_go_1 : decode prog_14_method_9_code 1 = .ok (.iload_n 2, 1) := by decide +kernel
theorem d_Mo_go_2 : decode prog_14_method_9_code 2 = .ok (.putfield 97, 3) := by decide +kernel
theorem d_Mo_go_5 : decode prog_14_method_9_code 5 = .ok (.aload_n 0, 1) := by decide +kernel
theorem d_Mo_go_6 : decode prog_14_method_9_code 6 = .ok (.iconst 0, 1) := by decide +kernel
theorem d_Mo_go_7 : decode prog_14_method_9_code 7 = .ok (.putfield 108, 3) := by decide +kernel
theorem d_Mo_go_10 : decode prog_14_method_9_code 10 = .ok (.aload_n 0, 1) := by decide +kernel
theorem d_Mo_go_11 : decode prog_14_method_9_code 11 = .ok (.iconst 0, 1) := by decide +kernel
theorem d_Mo_go_12 : decode prog_14_method_9_code 12 = .ok (.putfield 124, 3) := by decide +kernel
theorem d_Mo_go_15 : decode prog_14_method_9_code 15 = .ok (.aload_n 0, 1) := by decide +kernel
theorem d_Mo_go_16 : decode prog_14_method_9_code 16 = .ok (.iconst 0, 1) := by decide +kernel
theorem d_Mo_go_17 : decode prog_14_method_9_code 17 = .ok (.putfield 114, 3) := by decide +kernel
theorem d_Mo_go_20 : decode prog_14_method_9_code 20 = .ok (.aload_n 0, 1) := by decide +kernel
theorem d_Mo_go_21 : decode prog_14_method_9_code 21 = .ok (.iconst 0, 1) := by decide +kernel
theorem d_Mo_go_22 : decode prog_14_method_9_code 22 = .ok (.putfield 121, 3) := by decide +kernel
theorem d_Mo_go_25 : decode prog_14_method_9_code 25 = .ok (.aload_n 0, 1) := by decide +kernel
theorem d_Mo_go_26 : decode prog_14_method_9_code 26 = .ok (.iload_n 1, 1) := by decide +kernel
theorem d_Mo_go_27 : decode prog_14_method_9_code 27 = .ok (.invokevirtual 127, 3) := by decide +kernel
theorem d_Mo_go_30 : decode prog_14_method_9_code 30 = .ok (.aload_n 0, 1) := by decide +kernel
theorem d_Mo_go_31 : decode prog_14_method_9_code 31 = .ok (.getfield 121, 3) := by decide +kernel
theorem d_Mo_go_34 : decode prog_14_method_9_code 34 = .ok (.ifCond .le 34, 3) := by decide +kernel
theorem d_Mo_go_37 : decode prog_14_method_9_code 37 = .ok (.aload_n 0, 1) := by decide +kernel
theorem d_Mo_go_38 : decode prog_14_method_9_code 38 = .ok (.getfield 114, 3) := by decide +kernel
theorem d_Mo_go_41 : decode prog_14_method_9_code 41 = .ok (.ifCond .ne 27, 3) := by decide +kernel
theorem d_Mo_go_44 : decode prog_14_method_9_code 44 = .ok (.aload_n 0, 1) := by decide +kernel
theorem d_Mo_go_45 : decode prog_14_method_9_code 45 = .ok (.aload_n 0, 1) := by decide +kernel
theorem d_Mo_go_46 : decode prog_14_method_9_code 46 = .ok (.getfield 121, 3) := by decide +kernel
theorem d_Mo_go_49 : decode prog_14_method_9_code 49 = .ok (.iconst 1, 1) := by decide +kernel
theorem d_Mo_go_50 : decode prog_14_method_9_code 50 = .ok (.isub, 1) := by decide +kernel
theorem d_Mo_go_51 : decode prog_14_method_9_code 51 = .ok (.aload_n 0, 1) := by decide +kernel
theorem d_Mo_go_52 : decode prog_14_method_9_code 52 = .ok (.getfield 43, 3) := by decide +kernel
theorem d_Mo_go_55 : decode prog_14_method_9_code 55 = .ok (.aload_n 0, 1) := by decide +kernel
theorem d_Mo_go_56 : decode prog_14_method_9_code 56 = .ok (.getfield 121, 3) := by decide +kernel
theorem d_Mo_go_59 : decode prog_14_method_9_code 59 = .ok (.iconst 1, 1) := by decide +kernel
theorem d_Mo_go_60 : decode prog_14_method_9_code 60 = .ok (.isub, 1) := by decide +kernel
theorem d_Mo_go_61 : decode prog_14_method_9_code 61 = .ok (.iaload, 1) := by decide +kernel
theorem d_Mo_go_62 : decode prog_14_method_9_code 62 = .ok (.invokevirtual 131, 3) := by decide +kernel
theorem d_Mo_go_65 : decode prog_14_method_9_code 65 = .ok (.goto (-35), 3) := by decide +kernel
theorem d_Mo_go_68 : decode prog_14_method_9_code 68 = .ok (.return_, 1) := by decide +kernel
theorem d_Mo_push_0 : decode prog_14_method_8_code 0 = .ok (.aload_n 0, 1) := by decide +kernel
theorem d_Mo_push_1 : decode prog_14_method_8_code 1 = .ok (.getfield 43, 3) := by decide +kernel
theorem d_Mo_push_4 : decode prog_14_method_8_code 4 = .ok (.aload_n 0, 1) := by decide +kernel
theorem d_Mo_push_5 : decode prog_14_method_8_code 5 = .ok (.getfield 121, 3) := by decide +kernel
theorem d_Mo_push_8 : decode prog_14_method_8_code 8 = .ok (.iload_n 1, 1) := by decide +kernel
theorem d_Mo_push_9 : decode prog_14_method_8_code 9 = .ok (.iastore, 1) := by decide +kernel
theorem d_Mo_push_10 : decode prog_14_method_8_code 10 = .ok (.aload_n 0, 1) := by decide +kernel
theorem d_Mo_push_11 : decode prog_14_method_8_code 11 = .ok (.getfield 46, 3) := by decide +kernel
theorem d_Mo_push_14 : decode prog_14_method_8_code 14 = .ok (.aload_n 0, 1) := by decide +kernel
theorem d_Mo_push_15 : decode prog_14_method_8_code 15 = .ok (.getfield 121, 3) := by decide +kernel
theorem d_Mo_push_18 : decode prog_14_method_8_code 18 = .ok (.iconst 0, 1) := by decide +kernel
theorem d_Mo_push_19 : decode prog_14_method_8_code 19 = .ok (.iastore, 1) := by decide +kernel
theorem d_Mo_push_20 : decode prog_14_method_8_code 20 = .ok (.aload_n 0, 1) := by decide +kernel
theorem d_Mo_push_21 : decode prog_14_method_8_code 21 = .ok (.getfield 49, 3) := by decide +kernel
theorem d_Mo_push_24 : decode prog_14_method_8_code 24 = .ok (.aload_n 0, 1) := by decide +kernel
theorem d_Mo_push_25 : decode prog_14_method_8_code 25 = .ok (.getfield 121, 3) := by decide +kernel
theorem d_Mo_push_28 : decode prog_14_method_8_code 28 = .ok (.iconst 0, 1) := by decide +kernel
theorem d_Mo_push_29 : decode prog_14_method_8_code 29 = .ok (.iastore, 1) := by decide +kernel
theorem d_Mo_push_30 : decode prog_14_method_8_code 30 = .ok (.aload_n 0, 1) := by decide +kernel
theorem d_Mo_push_31 : decode prog_14_method_8_code 31 = .ok (.getfield 52, 3) := by decide +kernel
theorem d_Mo_push_34 : decode prog_14_method_8_code 34 = .ok (.aload_n 0, 1) := by decide +kernel
theorem d_Mo_push_35 : decode prog_14_method_8_code 35 = .ok (.getfield 121, 3) := by decide +kernel
theorem d_Mo_push_38 : decode prog_14_method_8_code 38 = .ok (.aload_n 0, 1) := by decide +kernel
