/-! decode rows -/
theorem d_Mo_keepRow_42 : decode prog_14_method_17_code 42 = .ok (.aload_n 0, 1) := by decide +kernel
theorem d_Mo_keepRow_43 : decode prog_14_method_17_code 43 = .ok (.getfield 55, 3) := by decide +kernel
theorem d_Mo_keepRow_46 : decode prog_14_method_17_code 46 = .ok (.if_icmp .ge 29, 3) := by decide +kernel
theorem d_Mo_keepRow_49 : decode prog_14_method_17_code 49 = .ok (.aload_n 0, 1) := by decide +kernel
theorem d_Mo_keepRow_50 : decode prog_14_method_17_code 50 = .ok (.getfield 71, 3) := by decide +kernel
theorem d_Mo_keepRow_53 : decode prog_14_method_17_code 53 = .ok (.bipush 60, 2) := by decide +kernel
theorem d_Mo_keepRow_55 : decode prog_14_method_17_code 55 = .ok (.aload_n 0, 1) := by decide +kernel
theorem d_Mo_keepRow_56 : decode prog_14_method_17_code 56 = .ok (.getfield 158, 3) := by decide +kernel
theorem d_Mo_keepRow_59 : decode prog_14_method_17_code 59 = .ok (.imul, 1) := by decide +kernel
theorem d_Mo_keepRow_60 : decode prog_14_method_17_code 60 = .ok (.iload_n 1, 1) := by decide +kernel
theorem d_Mo_keepRow_61 : decode prog_14_method_17_code 61 = .ok (.iadd, 1) := by decide +kernel
theorem d_Mo_keepRow_62 : decode prog_14_method_17_code 62 = .ok (.aload_n 0, 1) := by decide +kernel
theorem d_Mo_keepRow_63 : decode prog_14_method_17_code 63 = .ok (.getfield 59, 3) := by decide +kernel
theorem d_Mo_keepRow_66 : decode prog_14_method_17_code 66 = .ok (.iload_n 1, 1) := by decide +kernel
theorem d_Mo_keepRow_67 : decode prog_14_method_17_code 67 = .ok (.iaload, 1) := by decide +kernel
theorem d_Mo_keepRow_68 : decode prog_14_method_17_code 68 = .ok (.iastore, 1) := by decide +kernel
theorem d_Mo_keepRow_69 : decode prog_14_method_17_code 69 = .ok (.iinc 1 1, 3) := by decide +kernel
theorem d_Mo_keepRow_72 : decode prog_14_method_17_code 72 = .ok (.goto (-31), 3) := by decide +kernel
theorem d_Mo_keepRow_75 : decode prog_14_method_17_code 75 = .ok (.aload_n 0, 1) := by decide +kernel
theorem d_Mo_keepRow_76 : decode prog_14_method_17_code 76 = .ok (.dup, 1) := by decide +kernel
theorem d_Mo_keepRow_77 : decode prog_14_method_17_code 77 = .ok (.getfield 158, 3) := by decide +kernel
theorem d_Mo_keepRow_80 : decode prog_14_method_17_code 80 = .ok (.iconst 1, 1) := by decide +kernel
theorem d_Mo_keepRow_81 : decode prog_14_method_17_code 81 = .ok (.iadd, 1) := by decide +kernel
theorem d_Mo_keepRow_82 : decode prog_14_method_17_code 82 = .ok (.putfield 158, 3) := by decide +kernel
theorem d_Mo_keepRow_85 : decode prog_14_method_17_code 85 = .ok (.return_, 1) := by decide +kernel
theorem d_Mo_shrink_0 : decode prog_14_method_22_code 0 = .ok (.aload_n 0, 1) := by decide +kernel
theorem d_Mo_shrink_1 : decode prog_14_method_22_code 1 = .ok (.iconst 0, 1) := by decide +kernel
theorem d_Mo_shrink_2 : decode prog_14_method_22_code 2 = .ok (.putfield 80, 3) := by decide +kernel
theorem d_Mo_shrink_5 : decode prog_14_method_22_code 5 = .ok (.aload_n 0, 1) := by decide +kernel
theorem d_Mo_shrink_6 : decode prog_14_method_22_code 6 = .ok (.getfield 55, 3) := by decide +kernel
theorem d_Mo_shrink_9 : decode prog_14_method_22_code 9 = .ok (.iconst (-1), 1) := by decide +kernel
theorem d_Mo_shrink_10 : decode prog_14_method_22_code 10 = .ok (.if_icmp .eq 14, 3) := by decide +kernel
theorem d_Mo_shrink_13 : decode prog_14_method_22_code 13 = .ok (.iload_n 1, 1) := by decide +kernel
theorem d_Mo_shrink_14 : decode prog_14_method_22_code 14 = .ok (.ifCond .lt 10, 3) := by decide +kernel
theorem d_Mo_shrink_17 : decode prog_14_method_22_code 17 = .ok (.iload_n 1, 1) := by decide +kernel
theorem d_Mo_shrink_18 : decode prog_14_method_22_code 18 = .ok (.sipush 400, 3) := by decide +kernel
theorem d_Mo_shrink_21 : decode prog_14_method_22_code 21 = .ok (.if_icmp .le 5, 3) := by decide +kernel
theorem d_Mo_shrink_24 : decode prog_14_method_22_code 24 = .ok (.iconst (-1), 1) := by decide +kernel
theorem d_Mo_shrink_25 : decode prog_14_method_22_code 25 = .ok (.ireturn, 1) := by decide +kernel
theorem d_Mo_shrink_26 : decode prog_14_method_22_code 26 = .ok (.iconst 0, 1) := by decide +kernel
theorem d_Mo_shrink_27 : decode prog_14_method_22_code 27 = .ok (.istore_n 2, 1) := by decide +kernel
theorem d_Mo_shrink_28 : decode prog_14_method_22_code 28 = .ok (.iconst 0, 1) := by decide +kernel
theorem d_Mo_shrink_29 : decode prog_14_method_22_code 29 = .ok (.istore_n 3, 1) := by decide +kernel
theorem d_Mo_shrink_30 : decode prog_14_method_22_code 30 = .ok (.iconst 0, 1) := by decide +kernel
theorem d_Mo_shrink_31 : decode prog_14_method_22_code 31 = .ok (.istore 4, 2) := by decide +kernel
theorem d_Mo_shrink_33 : decode prog_14_method_22_code 33 = .ok (.iload 4, 2) := by decide +kernel
theorem d_Mo_shrink_35 : decode prog_14_method_22_code 35 = .ok (.iload_n 1, 1) := by decide +kernel
theorem d_Mo_shrink_36 : decode prog_14_method_22_code 36 = .ok (.if_icmp .ge 76, 3) := by decide +kernel
theorem d_Mo_shrink_39 : decode prog_14_method_22_code 39 = .ok (.aload_n 0, 1) := by decide +kernel
theorem d_Mo_shrink_40 : decode prog_14_method_22_code 40 = .ok (.iload_n 3, 1) := by decide +kernel
theorem d_Mo_shrink_41 : decode prog_14_method_22_code 41 = .ok (.invokevirtual 193, 3) := by decide +kernel
theorem d_Mo_shrink_44 : decode prog_14_method_22_code 44 = .ok (.ifCond .ne 11, 3) := by decide +kernel
theorem d_Mo_shrink_47 : decode prog_14_method_22_code 47 = .ok (.aload_n 0, 1) := by decide +kernel
theorem d_Mo_shrink_48 : decode prog_14_method_22_code 48 = .ok (.iconst 1, 1) := by decide +kernel
theorem d_Mo_shrink_49 : decode prog_14_method_22_code 49 = .ok (.putfield 181, 3) := by decide +kernel
theorem d_Mo_shrink_52 : decode prog_14_method_22_code 52 = .ok (.goto 60, 3) := by decide +kernel
theorem d_Mo_shrink_55 : decode prog_14_method_22_code 55 = .ok (.aload_n 0, 1) := by decide +kernel
theorem d_Mo_shrink_56 : decode prog_14_method_22_code 56 = .ok (.aload_n 0, 1) := by decide +kernel
theorem d_Mo_shrink_57 : decode prog_14_method_22_code 57 = .ok (.getfield 146, 3) := by decide +kernel
theorem d_Mo_shrink_60 : decode prog_14_method_22_code 60 = .ok (.iconst 0, 1) := by decide +kernel
theorem d_Mo_shrink_61 : decode prog_14_method_22_code 61 = .ok (.invokevirtual 161, 3) := by decide +kernel
theorem d_Mo_shrink_64 : decode prog_14_method_22_code 64 = .ok (.iinc 3 1, 3) := by decide +kernel
theorem d_Mo_shrink_67 : decode prog_14_method_22_code 67 = .ok (.aload_n 0, 1) := by decide +kernel
theorem d_Mo_shrink_68 : decode prog_14_method_22_code 68 = .ok (.aload_n 0, 1) := by decide +kernel
theorem d_Mo_shrink_69 : decode prog_14_method_22_code 69 = .ok (.getfield 149, 3) := by decide +kernel
theorem d_Mo_shrink_72 : decode prog_14_method_22_code 72 = .ok (.invokevirtual 164, 3) := by decide +kernel
theorem d_Mo_shrink_75 : decode prog_14_method_22_code 75 = .ok (.aload_n 0, 1) := by decide +kernel
theorem d_Mo_shrink_76 : decode prog_14_method_22_code 76 = .ok (.getfield 152, 3) := by decide +kernel
theorem d_Mo_shrink_79 : decode prog_14_method_22_code 79 = .ok (.if_icmp .eq 6, 3) := by decide +kernel
theorem d_Mo_shrink_82 : decode prog_14_method_22_code 82 = .ok (.goto 24, 3) := by decide +kernel
theorem d_Mo_shrink_85 : decode prog_14_method_22_code 85 = .ok (.aload_n 0, 1) := by decide +kernel
theorem d_Mo_shrink_86 : decode prog_14_method_22_code 86 = .ok (.aload_n 0, 1) := by decide +kernel
theorem d_Mo_shrink_87 : decode prog_14_method_22_code 87 = .ok (.getfield 146, 3) := by decide +kernel
theorem d_Mo_shrink_90 : decode prog_14_method_22_code 90 = .ok (.aload_n 0, 1) := by decide +kernel
theorem d_Mo_shrink_91 : decode prog_14_method_22_code 91 = .ok (.getfield 149, 3) := by decide +kernel
theorem d_Mo_shrink_94 : decode prog_14_method_22_code 94 = .ok (.aload_n 0, 1) := by decide +kernel
theorem d_Mo_shrink_95 : decode prog_14_method_22_code 95 = .ok (.getfield 152, 3) := by decide +kernel
theorem d_Mo_shrink_98 : decode prog_14_method_22_code 98 = .ok (.invokevirtual 171, 3) := by decide +kernel
theorem d_Mo_shrink_101 : decode prog_14_method_22_code 101 = .ok (.iinc 2 1, 3) := by decide +kernel
theorem d_Mo_shrink_104 : decode prog_14_method_22_code 104 = .ok (.iconst 0, 1) := by decide +kernel
theorem d_Mo_shrink_105 : decode prog_14_method_22_code 105 = .ok (.istore_n 3, 1) := by decide +kernel
theorem d_Mo_shrink_106 : decode prog_14_method_22_code 106 = .ok (.iinc 4 1, 3) := by decide +kernel
theorem d_Mo_shrink_109 : decode prog_14_method_22_code 109 = .ok (.goto (-76), 3) := by decide +kernel
theorem d_Mo_shrink_112 : decode prog_14_method_22_code 112 = .ok (.aload_n 0, 1) := by decide +kernel
theorem d_Mo_shrink_113 : decode prog_14_method_22_code 113 = .ok (.invokevirtual 190, 3) := by decide +kernel
theorem d_Mo_shrink_116 : decode prog_14_method_22_code 116 = .ok (.aload_n 0, 1) := by decide +kernel
theorem d_Mo_shrink_117 : decode prog_14_method_22_code 117 = .ok (.aload_n 0, 1) := by decide +kernel
theorem d_Mo_shrink_118 : decode prog_14_method_22_code 118 = .ok (.getfield 146, 3) := by decide +kernel
theorem d_Mo_shrink_121 : decode prog_14_method_22_code 121 = .ok (.iconst 0, 1) := by decide +kernel
theorem d_Mo_shrink_122 : decode prog_14_method_22_code 122 = .ok (.invokevirtual 161, 3) := by decide +kernel
theorem d_Mo_shrink_125 : decode prog_14_method_22_code 125 = .ok (.aload_n 0, 1) := by decide +kernel
theorem d_Mo_shrink_126 : decode prog_14_method_22_code 126 = .ok (.invokevirtual 155, 3) := by decide +kernel
theorem d_Mo_shrink_129 : decode prog_14_method_22_code 129 = .ok (.iload_n 2, 1) := by decide +kernel
theorem d_Mo_shrink_130 : decode prog_14_method_22_code 130 = .ok (.ireturn, 1) := by decide +kernel
theorem d_Mo_make_0 : decode prog_14_method_19_code 0 = .ok (.iload_n 1, 1) := by decide +kernel
theorem d_Mo_make_1 : decode prog_14_method_19_code 1 = .ok (.istore_n 2, 1) := by decide +kernel
theorem d_Mo_make_2 : decode prog_14_method_19_code 2 = .ok (.bipush 8, 2) := by decide +kernel
theorem d_Mo_make_4 : decode prog_14_method_19_code 4 = .ok (.istore_n 3, 1) := by decide +kernel
theorem d_Mo_make_5 : decode prog_14_method_19_code 5 = .ok (.iload_n 3, 1) := by decide +kernel
theorem d_Mo_make_6 : decode prog_14_method_19_code 6 = .ok (.ifCond .le 47, 3) := by decide +kernel
theorem d_Mo_make_9 : decode prog_14_method_19_code 9 = .ok (.aload_n 0, 1) := by decide +kernel
theorem d_Mo_make_10 : decode prog_14_method_19_code 10 = .ok (.getfield 55, 3) := by decide +kernel
theorem d_Mo_make_13 : decode prog_14_method_19_code 13 = .ok (.iload_n 3, 1) := by decide +kernel
theorem d_Mo_make_14 : decode prog_14_method_19_code 14 = .ok (.isub, 1) := by decide +kernel
theorem d_Mo_make_15 : decode prog_14_method_19_code 15 = .ok (.iconst 1, 1) := by decide +kernel
theorem d_Mo_make_16 : decode prog_14_method_19_code 16 = .ok (.iadd, 1) := by decide +kernel
theorem d_Mo_make_17 : decode prog_14_method_19_code 17 = .ok (.istore 4, 2) := by decide +kernel
theorem d_Mo_make_19 : decode prog_14_method_19_code 19 = .ok (.iload 4, 2) := by decide +kernel
theorem d_Mo_make_21 : decode prog_14_method_19_code 21 = .ok (.iload_n 2, 1) := by decide +kernel
theorem d_Mo_make_22 : decode prog_14_method_19_code 22 = .ok (.if_icmp .le 10, 3) := by decide +kernel
theorem d_Mo_make_25 : decode prog_14_method_19_code 25 = .ok (.aload_n 0, 1) := by decide +kernel
theorem d_Mo_make_26 : decode prog_14_method_19_code 26 = .ok (.iload_n 3, 1) := by decide +kernel
theorem d_Mo_make_27 : decode prog_14_method_19_code 27 = .ok (.iload_n 2, 1) := by decide +kernel
theorem d_Mo_make_28 : decode prog_14_method_19_code 28 = .ok (.invokevirtual 187, 3) := by decide +kernel
theorem d_Mo_make_31 : decode prog_14_method_19_code 31 = .ok (.ireturn, 1) := by decide +kernel
theorem d_Mo_make_32 : decode prog_14_method_19_code 32 = .ok (.iload_n 2, 1) := by decide +kernel
theorem d_Mo_make_33 : decode prog_14_method_19_code 33 = .ok (.iload 4, 2) := by decide +kernel
theorem d_Mo_make_35 : decode prog_14_method_19_code 35 = .ok (.ifCond .le 8, 3) := by decide +kernel
theorem d_Mo_make_38 : decode prog_14_method_19_code 38 = .ok (.iload 4, 2) := by decide +kernel
theorem d_Mo_make_40 : decode prog_14_method_19_code 40 = .ok (.goto 4, 3) := by decide +kernel
theorem d_Mo_make_43 : decode prog_14_method_19_code 43 = .ok (.iconst 0, 1) := by decide +kernel
theorem d_Mo_make_44 : decode prog_14_method_19_code 44 = .ok (.isub, 1) := by decide +kernel
theorem d_Mo_make_45 : decode prog_14_method_19_code 45 = .ok (.istore_n 2, 1) := by decide +kernel
theorem d_Mo_make_46 : decode prog_14_method_19_code 46 = .ok (.iload_n 3, 1) := by decide +kernel
theorem d_Mo_make_47 : decode prog_14_method_19_code 47 = .ok (.iconst 2, 1) := by decide +kernel
theorem d_Mo_make_48 : decode prog_14_method_19_code 48 = .ok (.idiv, 1) := by decide +kernel
theorem d_Mo_make_49 : decode prog_14_method_19_code 49 = .ok (.istore_n 3, 1) := by decide +kernel
theorem d_Mo_make_50 : decode prog_14_method_19_code 50 = .ok (.goto (-45), 3) := by decide +kernel
theorem d_Mo_make_53 : decode prog_14_method_19_code 53 = .ok (.iconst 0, 1) := by decide +kernel
theorem d_Mo_make_54 : decode prog_14_method_19_code 54 = .ok (.istore_n 3, 1) := by decide +kernel
theorem d_Mo_make_55 : decode prog_14_method_19_code 55 = .ok (.iload_n 3, 1) := by decide +kernel
theorem d_Mo_make_56 : decode prog_14_method_19_code 56 = .ok (.aload_n 0, 1) := by decide +kernel
theorem d_Mo_make_57 : decode prog_14_method_19_code 57 = .ok (.getfield 55, 3) := by decide +kernel
theorem d_Mo_make_60 : decode prog_14_method_19_code 60 = .ok (.if_icmp .ge 96, 3) := by decide +kernel
theorem d_Mo_make_63 : decode prog_14_method_19_code 63 = .ok (.aload_n 0, 1) := by decide +kernel
theorem d_Mo_make_64 : decode prog_14_method_19_code 64 = .ok (.getfield 59, 3) := by decide +kernel
theorem d_Mo_make_67 : decode prog_14_method_19_code 67 = .ok (.iload_n 3, 1) := by decide +kernel
theorem d_Mo_make_68 : decode prog_14_method_19_code 68 = .ok (.iaload, 1) := by decide +kernel
theorem d_Mo_make_69 : decode prog_14_method_19_code 69 = .ok (.istore 4, 2) := by decide +kernel
theorem d_Mo_make_71 : decode prog_14_method_19_code 71 = .ok (.iload 4, 2) := by decide +kernel
theorem d_Mo_make_73 : decode prog_14_method_19_code 73 = .ok (.ifCond .ne 7, 3) := by decide +kernel
theorem d_Mo_make_76 : decode prog_14_method_19_code 76 = .ok (.iconst 0, 1) := by decide +kernel
theorem d_Mo_make_77 : decode prog_14_method_19_code 77 = .ok (.goto 24, 3) := by decide +kernel
theorem d_Mo_make_80 : decode prog_14_method_19_code 80 = .ok (.iload 4, 2) := by decide +kernel
theorem d_Mo_make_82 : decode prog_14_method_19_code 82 = .ok (.iconst 1, 1) := by decide +kernel
theorem d_Mo_make_83 : decode prog_14_method_19_code 83 = .ok (.if_icmp .ne 7, 3) := by decide +kernel
theorem d_Mo_make_86 : decode prog_14_method_19_code 86 = .ok (.iconst 1, 1) := by decide +kernel
theorem d_Mo_make_87 : decode prog_14_method_19_code 87 = .ok (.goto 14, 3) := by decide +kernel
theorem d_Mo_make_90 : decode prog_14_method_19_code 90 = .ok (.iload 4, 2) := by decide +kernel
theorem d_Mo_make_92 : decode prog_14_method_19_code 92 = .ok (.iconst 2, 1) := by decide +kernel
theorem d_Mo_make_93 : decode prog_14_method_19_code 93 = .ok (.if_icmp .ne 7, 3) := by decide +kernel
theorem d_Mo_make_96 : decode prog_14_method_19_code 96 = .ok (.iconst 2, 1) := by decide +kernel
theorem d_Mo_make_97 : decode prog_14_method_19_code 97 = .ok (.goto 4, 3) := by decide +kernel
theorem d_Mo_make_100 : decode prog_14_method_19_code 100 = .ok (.iconst 3, 1) := by decide +kernel
theorem d_Mo_make_101 : decode prog_14_method_19_code 101 = .ok (.istore 5, 2) := by decide +kernel
theorem d_Mo_make_103 : decode prog_14_method_19_code 103 = .ok (.iload_n 2, 1) := by decide +kernel
theorem d_Mo_make_104 : decode prog_14_method_19_code 104 = .ok (.iload 5, 2) := by decide +kernel
theorem d_Mo_make_106 : decode prog_14_method_19_code 106 = .ok (.if_icmp .ge 39, 3) := by decide +kernel
theorem d_Mo_make_109 : decode prog_14_method_19_code 109 = .ok (.aload_n 0, 1) := by decide +kernel
theorem d_Mo_make_110 : decode prog_14_method_19_code 110 = .ok (.invokevirtual 190, 3) := by decide +kernel
theorem d_Mo_make_113 : decode prog_14_method_19_code 113 = .ok (.aload_n 0, 1) := by decide +kernel
theorem d_Mo_make_114 : decode prog_14_method_19_code 114 = .ok (.getfield 31, 3) := by decide +kernel
theorem d_Mo_make_117 : decode prog_14_method_19_code 117 = .ok (.iload_n 3, 1) := by decide +kernel
theorem d_Mo_make_118 : decode prog_14_method_19_code 118 = .ok (.iload_n 2, 1) := by decide +kernel
theorem d_Mo_make_119 : decode prog_14_method_19_code 119 = .ok (.ifCond .ne 7, 3) := by decide +kernel
theorem d_Mo_make_122 : decode prog_14_method_19_code 122 = .ok (.iconst 0, 1) := by decide +kernel
theorem d_Mo_make_123 : decode prog_14_method_19_code 123 = .ok (.goto 19, 3) := by decide +kernel
theorem d_Mo_make_126 : decode prog_14_method_19_code 126 = .ok (.iload_n 2, 1) := by decide +kernel
theorem d_Mo_make_127 : decode prog_14_method_19_code 127 = .ok (.iconst 1, 1) := by decide +kernel
theorem d_Mo_make_128 : decode prog_14_method_19_code 128 = .ok (.if_icmp .ne 10, 3) := by decide +kernel
theorem d_Mo_make_131 : decode prog_14_method_19_code 131 = .ok (.iload 4, 2) := by decide +kernel
theorem d_Mo_make_133 : decode prog_14_method_19_code 133 = .ok (.iconst 2, 1) := by decide +kernel
theorem d_Mo_make_134 : decode prog_14_method_19_code 134 = .ok (.idiv, 1) := by decide +kernel
theorem d_Mo_make_135 : decode prog_14_method_19_code 135 = .ok (.goto 7, 3) := by decide +kernel
theorem d_Mo_make_138 : decode prog_14_method_19_code 138 = .ok (.iload 4, 2) := by decide +kernel
theorem d_Mo_make_140 : decode prog_14_method_19_code 140 = .ok (.iconst 1, 1) := by decide +kernel
theorem d_Mo_make_141 : decode prog_14_method_19_code 141 = .ok (.isub, 1) := by decide +kernel
theorem d_Mo_make_142 : decode prog_14_method_19_code 142 = .ok (.iastore, 1) := by decide +kernel
theorem d_Mo_make_143 : decode prog_14_method_19_code 143 = .ok (.iconst 1, 1) := by decide +kernel
theorem d_Mo_make_144 : decode prog_14_method_19_code 144 = .ok (.ireturn, 1) := by decide +kernel
theorem d_Mo_make_145 : decode prog_14_method_19_code 145 = .ok (.iload_n 2, 1) := by decide +kernel
theorem d_Mo_make_146 : decode prog_14_method_19_code 146 = .ok (.iload 5, 2) := by decide +kernel
theorem d_Mo_make_148 : decode prog_14_method_19_code 148 = .ok (.isub, 1) := by decide +kernel
theorem d_Mo_make_149 : decode prog_14_method_19_code 149 = .ok (.istore_n 2, 1) := by decide +kernel
theorem d_Mo_make_150 : decode prog_14_method_19_code 150 = .ok (.iinc 3 1, 3) := by decide +kernel
theorem d_Mo_make_153 : decode prog_14_method_19_code 153 = .ok (.goto (-98), 3) := by decide +kernel
theorem d_Mo_make_156 : decode prog_14_method_19_code 156 = .ok (.iconst 0, 1) := by decide +kernel
theorem d_Mo_make_157 : decode prog_14_method_19_code 157 = .ok (.istore_n 3, 1) := by decide +kernel
theorem d_Mo_make_158 : decode prog_14_method_19_code 158 = .ok (.iload_n 3, 1) := by decide +kernel
theorem d_Mo_make_159 : decode prog_14_method_19_code 159 = .ok (.iconst 1, 1) := by decide +kernel
theorem d_Mo_make_160 : decode prog_14_method_19_code 160 = .ok (.iadd, 1) := by decide +kernel
theorem d_Mo_make_161 : decode prog_14_method_19_code 161 = .ok (.aload_n 0, 1) := by decide +kernel
theorem d_Mo_make_162 : decode prog_14_method_19_code 162 = .ok (.getfield 55, 3) := by decide +kernel
theorem d_Mo_make_165 : decode prog_14_method_19_code 165 = .ok (.if_icmp .ge 70, 3) := by decide +kernel
theorem d_Mo_make_168 : decode prog_14_method_19_code 168 = .ok (.aload_n 0, 1) := by decide +kernel
theorem d_Mo_make_169 : decode prog_14_method_19_code 169 = .ok (.getfield 59, 3) := by decide +kernel
theorem d_Mo_make_172 : decode prog_14_method_19_code 172 = .ok (.iload_n 3, 1) := by decide +kernel
theorem d_Mo_make_173 : decode prog_14_method_19_code 173 = .ok (.iaload, 1) := by decide +kernel
theorem d_Mo_make_174 : decode prog_14_method_19_code 174 = .ok (.aload_n 0, 1) := by decide +kernel
theorem d_Mo_make_175 : decode prog_14_method_19_code 175 = .ok (.getfield 59, 3) := by decide +kernel
theorem d_Mo_make_178 : decode prog_14_method_19_code 178 = .ok (.iload_n 3, 1) := by decide +kernel
theorem d_Mo_make_179 : decode prog_14_method_19_code 179 = .ok (.iconst 1, 1) := by decide +kernel
theorem d_Mo_make_180 : decode prog_14_method_19_code 180 = .ok (.iadd, 1) := by decide +kernel
theorem d_Mo_make_181 : decode prog_14_method_19_code 181 = .ok (.iaload, 1) := by decide +kernel
theorem d_Mo_make_182 : decode prog_14_method_19_code 182 = .ok (.if_icmp .gt 6, 3) := by decide +kernel
theorem d_Mo_make_185 : decode prog_14_method_19_code 185 = .ok (.goto 44, 3) := by decide +kernel
theorem d_Mo_make_188 : decode prog_14_method_19_code 188 = .ok (.iload_n 2, 1) := by decide +kernel
theorem d_Mo_make_189 : decode prog_14_method_19_code 189 = .ok (.ifCond .ne 37, 3) := by decide +kernel
theorem d_Mo_make_192 : decode prog_14_method_19_code 192 = .ok (.aload_n 0, 1) := by decide +kernel
theorem d_Mo_make_193 : decode prog_14_method_19_code 193 = .ok (.invokevirtual 190, 3) := by decide +kernel
theorem d_Mo_make_196 : decode prog_14_method_19_code 196 = .ok (.aload_n 0, 1) := by decide +kernel
theorem d_Mo_make_197 : decode prog_14_method_19_code 197 = .ok (.getfield 31, 3) := by decide +kernel
theorem d_Mo_make_200 : decode prog_14_method_19_code 200 = .ok (.iload_n 3, 1) := by decide +kernel
theorem d_Mo_make_201 : decode prog_14_method_19_code 201 = .ok (.aload_n 0, 1) := by decide +kernel
theorem d_Mo_make_202 : decode prog_14_method_19_code 202 = .ok (.getfield 59, 3) := by decide +kernel
theorem d_Mo_make_205 : decode prog_14_method_19_code 205 = .ok (.iload_n 3, 1) := by decide +kernel
theorem d_Mo_make_206 : decode prog_14_method_19_code 206 = .ok (.iconst 1, 1) := by decide +kernel
theorem d_Mo_make_207 : decode prog_14_method_19_code 207 = .ok (.iadd, 1) := by decide +kernel
theorem d_Mo_make_208 : decode prog_14_method_19_code 208 = .ok (.iaload, 1) := by decide +kernel
theorem d_Mo_make_209 : decode prog_14_method_19_code 209 = .ok (.iastore, 1) := by decide +kernel
theorem d_Mo_make_210 : decode prog_14_method_19_code 210 = .ok (.aload_n 0, 1) := by decide +kernel
theorem d_Mo_make_211 : decode prog_14_method_19_code 211 = .ok (.getfield 31, 3) := by decide +kernel
theorem d_Mo_make_214 : decode prog_14_method_19_code 214 = .ok (.iload_n 3, 1) := by decide +kernel
theorem d_Mo_make_215 : decode prog_14_method_19_code 215 = .ok (.iconst 1, 1) := by decide +kernel
theorem d_Mo_make_216 : decode prog_14_method_19_code 216 = .ok (.iadd, 1) := by decide +kernel
theorem d_Mo_make_217 : decode prog_14_method_19_code 217 = .ok (.aload_n 0, 1) := by decide +kernel
theorem d_Mo_make_218 : decode prog_14_method_19_code 218 = .ok (.getfield 59, 3) := by decide +kernel
theorem d_Mo_make_221 : decode prog_14_method_19_code 221 = .ok (.iload_n 3, 1) := by decide +kernel
theorem d_Mo_make_222 : decode prog_14_method_19_code 222 = .ok (.iaload, 1) := by decide +kernel
theorem d_Mo_make_223 : decode prog_14_method_19_code 223 = .ok (.iastore, 1) := by decide +kernel
theorem d_Mo_make_224 : decode prog_14_method_19_code 224 = .ok (.iconst 1, 1) := by decide +kernel
theorem d_Mo_make_225 : decode prog_14_method_19_code 225 = .ok (.ireturn, 1) := by decide +kernel
theorem d_Mo_make_226 : decode prog_14_method_19_code 226 = .ok (.iinc 2 (-1), 3) := by decide +kernel
theorem d_Mo_make_229 : decode prog_14_method_19_code 229 = .ok (.iinc 3 1, 3) := by decide +kernel
theorem d_Mo_make_232 : decode prog_14_method_19_code 232 = .ok (.goto (-74), 3) := by decide +kernel
theorem d_Mo_make_235 : decode prog_14_method_19_code 235 = .ok (.iconst 0, 1) := by decide +kernel
theorem d_Mo_make_236 : decode prog_14_method_19_code 236 = .ok (.ireturn, 1) := by decide +kernel
theorem d_Mo_drop_0 : decode prog_14_method_21_code 0 = .ok (.aload_n 0, 1) := by decide +kernel
theorem d_Mo_drop_1 : decode prog_14_method_21_code 1 = .ok (.aload_n 0, 1) := by decide +kernel
theorem d_Mo_drop_2 : decode prog_14_method_21_code 2 = .ok (.getfield 55, 3) := by decide +kernel
theorem d_Mo_drop_5 : decode prog_14_method_21_code 5 = .ok (.iload_n 1, 1) := by decide +kernel
theorem d_Mo_drop_6 : decode prog_14_method_21_code 6 = .ok (.isub, 1) := by decide +kernel
theorem d_Mo_drop_7 : decode prog_14_method_21_code 7 = .ok (.putfield 111, 3) := by decide +kernel
theorem d_Mo_drop_10 : decode prog_14_method_21_code 10 = .ok (.iconst 0, 1) := by decide +kernel
theorem d_Mo_drop_11 : decode prog_14_method_21_code 11 = .ok (.istore_n 3, 1) := by decide +kernel
theorem d_Mo_drop_12 : decode prog_14_method_21_code 12 = .ok (.iload_n 3, 1) := by decide +kernel
theorem d_Mo_drop_13 : decode prog_14_method_21_code 13 = .ok (.aload_n 0, 1) := by decide +kernel
theorem d_Mo_drop_14 : decode prog_14_method_21_code 14 = .ok (.getfield 111, 3) := by decide +kernel
theorem d_Mo_drop_17 : decode prog_14_method_21_code 17 = .ok (.if_icmp .ge 32, 3) := by decide +kernel
theorem d_Mo_drop_20 : decode prog_14_method_21_code 20 = .ok (.aload_n 0, 1) := by decide +kernel
theorem d_Mo_drop_21 : decode prog_14_method_21_code 21 = .ok (.getfield 31, 3) := by decide +kernel
theorem d_Mo_drop_24 : decode prog_14_method_21_code 24 = .ok (.iload_n 3, 1) := by decide +kernel
theorem d_Mo_drop_25 : decode prog_14_method_21_code 25 = .ok (.aload_n 0, 1) := by decide +kernel
theorem d_Mo_drop_26 : decode prog_14_method_21_code 26 = .ok (.getfield 59, 3) := by decide +kernel
theorem d_Mo_drop_29 : decode prog_14_method_21_code 29 = .ok (.iload_n 3, 1) := by decide +kernel
theorem d_Mo_drop_30 : decode prog_14_method_21_code 30 = .ok (.iload_n 2, 1) := by decide +kernel
theorem d_Mo_drop_31 : decode prog_14_method_21_code 31 = .ok (.if_icmp .ge 7, 3) := by decide +kernel
theorem d_Mo_drop_34 : decode prog_14_method_21_code 34 = .ok (.iload_n 3, 1) := by decide +kernel
theorem d_Mo_drop_35 : decode prog_14_method_21_code 35 = .ok (.goto 6, 3) := by decide +kernel
theorem d_Mo_drop_38 : decode prog_14_method_21_code 38 = .ok (.iload_n 3, 1) := by decide +kernel
theorem d_Mo_drop_39 : decode prog_14_method_21_code 39 = .ok (.iload_n 1, 1) := by decide +kernel
theorem d_Mo_drop_40 : decode prog_14_method_21_code 40 = .ok (.iadd, 1) := by decide +kernel
theorem d_Mo_drop_41 : decode prog_14_method_21_code 41 = .ok (.iaload, 1) := by decide +kernel
theorem d_Mo_drop_42 : decode prog_14_method_21_code 42 = .ok (.iastore, 1) := by decide +kernel
theorem d_Mo_drop_43 : decode prog_14_method_21_code 43 = .ok (.iinc 3 1, 3) := by decide +kernel
theorem d_Mo_drop_46 : decode prog_14_method_21_code 46 = .ok (.goto (-34), 3) := by decide +kernel
theorem d_Mo_drop_49 : decode prog_14_method_21_code 49 = .ok (.iconst 1, 1) := by decide +kernel
theorem d_Mo_drop_50 : decode prog_14_method_21_code 50 = .ok (.ireturn, 1) := by decide +kernel
theorem d_Mo_copy_0 : decode prog_14_method_20_code 0 = .ok (.aload_n 0, 1) := by decide +kernel
theorem d_Mo_copy_1 : decode prog_14_method_20_code 1 = .ok (.aload_n 0, 1) := by decide +kernel
theorem d_Mo_copy_2 : decode prog_14_method_20_code 2 = .ok (.getfield 55, 3) := by decide +kernel
theorem d_Mo_copy_5 : decode prog_14_method_20_code 5 = .ok (.putfield 111, 3) := by decide +kernel
theorem d_Mo_copy_8 : decode prog_14_method_20_code 8 = .ok (.iconst 0, 1) := by decide +kernel
theorem d_Mo_copy_9 : decode prog_14_method_20_code 9 = .ok (.istore_n 1, 1) := by decide +kernel
theorem d_Mo_copy_10 : decode prog_14_method_20_code 10 = .ok (.iload_n 1, 1) := by decide +kernel
theorem d_Mo_copy_11 : decode prog_14_method_20_code 11 = .ok (.aload_n 0, 1) := by decide +kernel
theorem d_Mo_copy_12 : decode prog_14_method_20_code 12 = .ok (.getfield 55, 3) := by decide +kernel
theorem d_Mo_copy_15 : decode prog_14_method_20_code 15 = .ok (.if_icmp .ge 21, 3) := by decide +kernel
theorem d_Mo_copy_18 : decode prog_14_method_20_code 18 = .ok (.aload_n 0, 1) := by decide +kernel
theorem d_Mo_copy_19 : decode prog_14_method_20_code 19 = .ok (.getfield 31, 3) := by decide +kernel
theorem d_Mo_copy_22 : decode prog_14_method_20_code 22 = .ok (.iload_n 1, 1) := by decide +kernel
theorem d_Mo_copy_23 : decode prog_14_method_20_code 23 = .ok (.aload_n 0, 1) := by decide +kernel
theorem d_Mo_copy_24 : decode prog_14_method_20_code 24 = .ok (.getfield 59, 3) := by decide +kernel
theorem d_Mo_copy_27 : decode prog_14_method_20_code 27 = .ok (.iload_n 1, 1) := by decide +kernel
theorem d_Mo_copy_28 : decode prog_14_method_20_code 28 = .ok (.iaload, 1) := by decide +kernel
theorem d_Mo_copy_29 : decode prog_14_method_20_code 29 = .ok (.iastore, 1) := by decide +kernel
theorem d_Mo_copy_30 : decode prog_14_method_20_code 30 = .ok (.iinc 1 1, 3) := by decide +kernel
theorem d_Mo_copy_33 : decode prog_14_method_20_code 33 = .ok (.goto (-23), 3) := by decide +kernel
theorem d_Mo_copy_36 : decode prog_14_method_20_code 36 = .ok (.return_, 1) := by decide +kernel
theorem d_Mo_least_0 : decode prog_14_method_23_code 0 = .ok (.aload_n 0, 1) := by decide +kernel
theorem d_Mo_least_1 : decode prog_14_method_23_code 1 = .ok (.iconst 0, 1) := by decide +kernel
theorem d_Mo_least_2 : decode prog_14_method_23_code 2 = .ok (.putfield 80, 3) := by decide +kernel
theorem d_Mo_least_5 : decode prog_14_method_23_code 5 = .ok (.aload_n 0, 1) := by decide +kernel
theorem d_Mo_least_6 : decode prog_14_method_23_code 6 = .ok (.getfield 181, 3) := by decide +kernel
theorem d_Mo_least_9 : decode prog_14_method_23_code 9 = .ok (.ireturn, 1) := by decide +kernel
theorem d_Mo_put_0 : decode prog_14_method_24_code 0 = .ok (.aload_n 0, 1) := by decide +kernel
theorem d_Mo_put_1 : decode prog_14_method_24_code 1 = .ok (.iconst 0, 1) := by decide +kernel
theorem d_Mo_put_2 : decode prog_14_method_24_code 2 = .ok (.putfield 80, 3) := by decide +kernel
theorem d_Mo_put_5 : decode prog_14_method_24_code 5 = .ok (.iload_n 1, 1) := by decide +kernel
theorem d_Mo_put_6 : decode prog_14_method_24_code 6 = .ok (.ifCond .lt 12, 3) := by decide +kernel
theorem d_Mo_put_9 : decode prog_14_method_24_code 9 = .ok (.aload_n 0, 1) := by decide +kernel
theorem d_Mo_put_10 : decode prog_14_method_24_code 10 = .ok (.getfield 196, 3) := by decide +kernel
theorem d_Mo_put_13 : decode prog_14_method_24_code 13 = .ok (.bipush 60, 2) := by decide +kernel
theorem d_Mo_put_15 : decode prog_14_method_24_code 15 = .ok (.if_icmp .ne 5, 3) := by decide +kernel
theorem d_Mo_put_18 : decode prog_14_method_24_code 18 = .ok (.iconst 0, 1) := by decide +kernel
theorem d_Mo_put_19 : decode prog_14_method_24_code 19 = .ok (.ireturn, 1) := by decide +kernel
theorem d_Mo_put_20 : decode prog_14_method_24_code 20 = .ok (.aload_n 0, 1) := by decide +kernel
theorem d_Mo_put_21 : decode prog_14_method_24_code 21 = .ok (.getfield 77, 3) := by decide +kernel
theorem d_Mo_put_24 : decode prog_14_method_24_code 24 = .ok (.aload_n 0, 1) := by decide +kernel
theorem d_Mo_put_25 : decode prog_14_method_24_code 25 = .ok (.getfield 196, 3) := by decide +kernel
theorem d_Mo_put_28 : decode prog_14_method_24_code 28 = .ok (.iload_n 1, 1) := by decide +kernel
theorem d_Mo_put_29 : decode prog_14_method_24_code 29 = .ok (.iastore, 1) := by decide +kernel
theorem d_Mo_put_30 : decode prog_14_method_24_code 30 = .ok (.aload_n 0, 1) := by decide +kernel
theorem d_Mo_put_31 : decode prog_14_method_24_code 31 = .ok (.dup, 1) := by decide +kernel
theorem d_Mo_put_32 : decode prog_14_method_24_code 32 = .ok (.getfield 196, 3) := by decide +kernel
theorem d_Mo_put_35 : decode prog_14_method_24_code 35 = .ok (.iconst 1, 1) := by decide +kernel
theorem d_Mo_put_36 : decode prog_14_method_24_code 36 = .ok (.iadd, 1) := by decide +kernel
theorem d_Mo_put_37 : decode prog_14_method_24_code 37 = .ok (.putfield 196, 3) := by decide +kernel
theorem d_Mo_put_40 : decode prog_14_method_24_code 40 = .ok (.iconst 1, 1) := by decide +kernel
theorem d_Mo_put_41 : decode prog_14_method_24_code 41 = .ok (.ireturn, 1) := by decide +kernel
theorem d_Mo_replay_0 : decode prog_14_method_25_code 0 = .ok (.aload_n 0, 1) := by decide +kernel
theorem d_Mo_replay_1 : decode prog_14_method_25_code 1 = .ok (.iconst 0, 1) := by decide +kernel
theorem d_Mo_replay_2 : decode prog_14_method_25_code 2 = .ok (.putfield 80, 3) := by decide +kernel
theorem d_Mo_replay_5 : decode prog_14_method_25_code 5 = .ok (.aload_n 0, 1) := by decide +kernel
theorem d_Mo_replay_6 : decode prog_14_method_25_code 6 = .ok (.iload_n 1, 1) := by decide +kernel
theorem d_Mo_replay_7 : decode prog_14_method_25_code 7 = .ok (.invokevirtual 90, 3) := by decide +kernel
theorem d_Mo_replay_10 : decode prog_14_method_25_code 10 = .ok (.ifCond .eq 15, 3) := by decide +kernel
theorem d_Mo_replay_13 : decode prog_14_method_25_code 13 = .ok (.iload_n 2, 1) := by decide +kernel
theorem d_Mo_replay_14 : decode prog_14_method_25_code 14 = .ok (.ifCond .lt 11, 3) := by decide +kernel
theorem d_Mo_replay_17 : decode prog_14_method_25_code 17 = .ok (.iload_n 2, 1) := by decide +kernel
theorem d_Mo_replay_18 : decode prog_14_method_25_code 18 = .ok (.aload_n 0, 1) := by decide +kernel
theorem d_Mo_replay_19 : decode prog_14_method_25_code 19 = .ok (.getfield 94, 3) := by decide +kernel
theorem d_Mo_replay_22 : decode prog_14_method_25_code 22 = .ok (.if_icmp .lt 5, 3) := by decide +kernel
theorem d_Mo_replay_25 : decode prog_14_method_25_code 25 = .ok (.iconst (-1), 1) := by decide +kernel
theorem d_Mo_replay_26 : decode prog_14_method_25_code 26 = .ok (.ireturn, 1) := by decide +kernel
theorem d_Mo_replay_27 : decode prog_14_method_25_code 27 = .ok (.aload_n 0, 1) := by decide +kernel
theorem d_Mo_replay_28 : decode prog_14_method_25_code 28 = .ok (.aload_n 0, 1) := by decide +kernel
theorem d_Mo_replay_29 : decode prog_14_method_25_code 29 = .ok (.getfield 196, 3) := by decide +kernel
theorem d_Mo_replay_32 : decode prog_14_method_25_code 32 = .ok (.putfield 111, 3) := by decide +kernel
theorem d_Mo_replay_35 : decode prog_14_method_25_code 35 = .ok (.iconst 0, 1) := by decide +kernel
theorem d_Mo_replay_36 : decode prog_14_method_25_code 36 = .ok (.istore_n 3, 1) := by decide +kernel
theorem d_Mo_replay_37 : decode prog_14_method_25_code 37 = .ok (.iload_n 3, 1) := by decide +kernel
theorem d_Mo_replay_38 : decode prog_14_method_25_code 38 = .ok (.aload_n 0, 1) := by decide +kernel
theorem d_Mo_replay_39 : decode prog_14_method_25_code 39 = .ok (.getfield 196, 3) := by decide +kernel
theorem d_Mo_replay_42 : decode prog_14_method_25_code 42 = .ok (.if_icmp .ge 21, 3) := by decide +kernel
theorem d_Mo_replay_45 : decode prog_14_method_25_code 45 = .ok (.aload_n 0, 1) := by decide +kernel
theorem d_Mo_replay_46 : decode prog_14_method_25_code 46 = .ok (.getfield 31, 3) := by decide +kernel
theorem d_Mo_replay_49 : decode prog_14_method_25_code 49 = .ok (.iload_n 3, 1) := by decide +kernel
theorem d_Mo_replay_50 : decode prog_14_method_25_code 50 = .ok (.aload_n 0, 1) := by decide +kernel
theorem d_Mo_replay_51 : decode prog_14_method_25_code 51 = .ok (.getfield 77, 3) := by decide +kernel
theorem d_Mo_replay_54 : decode prog_14_method_25_code 54 = .ok (.iload_n 3, 1) := by decide +kernel
theorem d_Mo_replay_55 : decode prog_14_method_25_code 55 = .ok (.iaload, 1) := by decide +kernel
theorem d_Mo_replay_56 : decode prog_14_method_25_code 56 = .ok (.iastore, 1) := by decide +kernel
theorem d_Mo_replay_57 : decode prog_14_method_25_code 57 = .ok (.iinc 3 1, 3) := by decide +kernel
theorem d_Mo_replay_60 : decode prog_14_method_25_code 60 = .ok (.goto (-23), 3) := by decide +kernel
theorem d_Mo_replay_63 : decode prog_14_method_25_code 63 = .ok (.aload_n 0, 1) := by decide +kernel
theorem d_Mo_replay_64 : decode prog_14_method_25_code 64 = .ok (.iconst 0, 1) := by decide +kernel
theorem d_Mo_replay_65 : decode prog_14_method_25_code 65 = .ok (.putfield 196, 3) := by decide +kernel
theorem d_Mo_replay_68 : decode prog_14_method_25_code 68 = .ok (.aload_n 0, 1) := by decide +kernel
theorem d_Mo_replay_69 : decode prog_14_method_25_code 69 = .ok (.iload_n 1, 1) := by decide +kernel
theorem d_Mo_replay_70 : decode prog_14_method_25_code 70 = .ok (.iconst 0, 1) := by decide +kernel
theorem d_Mo_replay_71 : decode prog_14_method_25_code 71 = .ok (.invokevirtual 161, 3) := by decide +kernel
theorem d_Mo_replay_74 : decode prog_14_method_25_code 74 = .ok (.aload_n 0, 1) := by decide +kernel
theorem d_Mo_replay_75 : decode prog_14_method_25_code 75 = .ok (.invokevirtual 155, 3) := by decide +kernel
theorem d_Mo_replay_78 : decode prog_14_method_25_code 78 = .ok (.aload_n 0, 1) := by decide +kernel
theorem d_Mo_replay_79 : decode prog_14_method_25_code 79 = .ok (.iload_n 2, 1) := by decide +kernel
theorem d_Mo_replay_80 : decode prog_14_method_25_code 80 = .ok (.invokevirtual 164, 3) := by decide +kernel
theorem d_Mo_replay_83 : decode prog_14_method_25_code 83 = .ok (.ireturn, 1) := by decide +kernel
theorem d_Mo_choice_0 : decode prog_14_method_26_code 0 = .ok (.aload_n 0, 1) := by decide +kernel
theorem d_Mo_choice_1 : decode prog_14_method_26_code 1 = .ok (.iconst 0, 1) := by decide +kernel
theorem d_Mo_choice_2 : decode prog_14_method_26_code 2 = .ok (.putfield 80, 3) := by decide +kernel
theorem d_Mo_choice_5 : decode prog_14_method_26_code 5 = .ok (.iload_n 1, 1) := by decide +kernel
theorem d_Mo_choice_6 : decode prog_14_method_26_code 6 = .ok (.ifCond .lt 11, 3) := by decide +kernel
theorem d_Mo_choice_9 : decode prog_14_method_26_code 9 = .ok (.iload_n 1, 1) := by decide +kernel
theorem d_Mo_choice_10 : decode prog_14_method_26_code 10 = .ok (.aload_n 0, 1) := by decide +kernel
theorem d_Mo_choice_11 : decode prog_14_method_26_code 11 = .ok (.getfield 55, 3) := by decide +kernel
theorem d_Mo_choice_14 : decode prog_14_method_26_code 14 = .ok (.if_icmp .lt 7, 3) := by decide +kernel
theorem d_Mo_choice_17 : decode prog_14_method_26_code 17 = .ok (.iconst (-1), 1) := by decide +kernel
theorem d_Mo_choice_18 : decode prog_14_method_26_code 18 = .ok (.goto 9, 3) := by decide +kernel
theorem d_Mo_choice_21 : decode prog_14_method_26_code 21 = .ok (.aload_n 0, 1) := by decide +kernel
theorem d_Mo_choice_22 : decode prog_14_method_26_code 22 = .ok (.getfield 59, 3) := by decide +kernel
theorem d_Mo_choice_25 : decode prog_14_method_26_code 25 = .ok (.iload_n 1, 1) := by decide +kernel
theorem d_Mo_choice_26 : decode prog_14_method_26_code 26 = .ok (.iaload, 1) := by decide +kernel
theorem d_Mo_choice_27 : decode prog_14_method_26_code 27 = .ok (.ireturn, 1) := by decide +kernel
theorem d_Mo_size_0 : decode prog_14_method_27_code 0 = .ok (.aload_n 0, 1) := by decide +kernel
theorem d_Mo_size_1 : decode prog_14_method_27_code 1 = .ok (.iconst 0, 1) := by decide +kernel
theorem d_Mo_size_2 : decode prog_14_method_27_code 2 = .ok (.putfield 80, 3) := by decide +kernel
theorem d_Mo_size_5 : decode prog_14_method_27_code 5 = .ok (.iload_n 1, 1) := by decide +kernel
theorem d_Mo_size_6 : decode prog_14_method_27_code 6 = .ok (.ifCond .ne 22, 3) := by decide +kernel
theorem d_Mo_size_9 : decode prog_14_method_27_code 9 = .ok (.aload_n 0, 1) := by decide +kernel
theorem d_Mo_size_10 : decode prog_14_method_27_code 10 = .ok (.getfield 55, 3) := by decide +kernel
theorem d_Mo_size_13 : decode prog_14_method_27_code 13 = .ok (.iconst (-1), 1) := by decide +kernel
theorem d_Mo_size_14 : decode prog_14_method_27_code 14 = .ok (.if_icmp .ne 7, 3) := by decide +kernel
theorem d_Mo_size_17 : decode prog_14_method_27_code 17 = .ok (.iconst 0, 1) := by decide +kernel
theorem d_Mo_size_18 : decode prog_14_method_27_code 18 = .ok (.goto 47, 3) := by decide +kernel
theorem d_Mo_size_21 : decode prog_14_method_27_code 21 = .ok (.aload_n 0, 1) := by decide +kernel
theorem d_Mo_size_22 : decode prog_14_method_27_code 22 = .ok (.getfield 55, 3) := by decide +kernel
theorem d_Mo_size_25 : decode prog_14_method_27_code 25 = .ok (.goto 40, 3) := by decide +kernel
theorem d_Mo_size_28 : decode prog_14_method_27_code 28 = .ok (.iload_n 1, 1) := by decide +kernel
theorem d_Mo_size_29 : decode prog_14_method_27_code 29 = .ok (.iconst 1, 1) := by decide +kernel
theorem d_Mo_size_30 : decode prog_14_method_27_code 30 = .ok (.if_icmp .ne 10, 3) := by decide +kernel
theorem d_Mo_size_33 : decode prog_14_method_27_code 33 = .ok (.aload_n 0, 1) := by decide +kernel
theorem d_Mo_size_34 : decode prog_14_method_27_code 34 = .ok (.getfield 143, 3) := by decide +kernel
theorem d_Mo_size_37 : decode prog_14_method_27_code 37 = .ok (.goto 28, 3) := by decide +kernel
theorem d_Mo_size_40 : decode prog_14_method_27_code 40 = .ok (.iload_n 1, 1) := by decide +kernel
theorem d_Mo_size_41 : decode prog_14_method_27_code 41 = .ok (.iconst 2, 1) := by decide +kernel
theorem d_Mo_size_42 : decode prog_14_method_27_code 42 = .ok (.if_icmp .ne 10, 3) := by decide +kernel
theorem d_Mo_size_45 : decode prog_14_method_27_code 45 = .ok (.aload_n 0, 1) := by decide +kernel
theorem d_Mo_size_46 : decode prog_14_method_27_code 46 = .ok (.getfield 158, 3) := by decide +kernel
theorem d_Mo_size_49 : decode prog_14_method_27_code 49 = .ok (.goto 16, 3) := by decide +kernel
theorem d_Mo_size_52 : decode prog_14_method_27_code 52 = .ok (.iload_n 1, 1) := by decide +kernel
theorem d_Mo_size_53 : decode prog_14_method_27_code 53 = .ok (.iconst 3, 1) := by decide +kernel
theorem d_Mo_size_54 : decode prog_14_method_27_code 54 = .ok (.if_icmp .ne 10, 3) := by decide +kernel
theorem d_Mo_size_57 : decode prog_14_method_27_code 57 = .ok (.aload_n 0, 1) := by decide +kernel
theorem d_Mo_size_58 : decode prog_14_method_27_code 58 = .ok (.getfield 174, 3) := by decide +kernel
theorem d_Mo_size_61 : decode prog_14_method_27_code 61 = .ok (.goto 4, 3) := by decide +kernel
theorem d_Mo_size_64 : decode prog_14_method_27_code 64 = .ok (.iconst (-1), 1) := by decide +kernel
theorem d_Mo_size_65 : decode prog_14_method_27_code 65 = .ok (.ireturn, 1) := by decide +kernel
theorem d_Mo_number_0 : decode prog_14_method_28_code 0 = .ok (.aload_n 0, 1) := by decide +kernel
theorem d_Mo_number_1 : decode prog_14_method_28_code 1 = .ok (.iconst 0, 1) := by decide +kernel
theorem d_Mo_number_2 : decode prog_14_method_28_code 2 = .ok (.putfield 80, 3) := by decide +kernel
theorem d_Mo_number_5 : decode prog_14_method_28_code 5 = .ok (.iload_n 1, 1) := by decide +kernel
theorem d_Mo_number_6 : decode prog_14_method_28_code 6 = .ok (.ifCond .lt 11, 3) := by decide +kernel
theorem d_Mo_number_9 : decode prog_14_method_28_code 9 = .ok (.iload_n 1, 1) := by decide +kernel
theorem d_Mo_number_10 : decode prog_14_method_28_code 10 = .ok (.aload_n 0, 1) := by decide +kernel
theorem d_Mo_number_11 : decode prog_14_method_28_code 11 = .ok (.getfield 143, 3) := by decide +kernel
theorem d_Mo_number_14 : decode prog_14_method_28_code 14 = .ok (.if_icmp .lt 7, 3) := by decide +kernel
theorem d_Mo_number_17 : decode prog_14_method_28_code 17 = .ok (.iconst 0, 1) := by decide +kernel
theorem d_Mo_number_18 : decode prog_14_method_28_code 18 = .ok (.goto 9, 3) := by decide +kernel
theorem d_Mo_number_21 : decode prog_14_method_28_code 21 = .ok (.aload_n 0, 1) := by decide +kernel
theorem d_Mo_number_22 : decode prog_14_method_28_code 22 = .ok (.getfield 74, 3) := by decide +kernel
theorem d_Mo_number_25 : decode prog_14_method_28_code 25 = .ok (.iload_n 1, 1) := by decide +kernel
theorem d_Mo_number_26 : decode prog_14_method_28_code 26 = .ok (.iaload, 1) := by decide +kernel
theorem d_Mo_number_27 : decode prog_14_method_28_code 27 = .ok (.ireturn, 1) := by decide +kernel
theorem d_Mo_all_0 : decode prog_14_method_30_code 0 = .ok (.aload_n 0, 1) := by decide +kernel
theorem d_Mo_all_1 : decode prog_14_method_30_code 1 = .ok (.iconst 0, 1) := by decide +kernel
theorem d_Mo_all_2 : decode prog_14_method_30_code 2 = .ok (.putfield 80, 3) := by decide +kernel
theorem d_Mo_all_5 : decode prog_14_method_30_code 5 = .ok (.aload_n 0, 1) := by decide +kernel
theorem d_Mo_all_6 : decode prog_14_method_30_code 6 = .ok (.iload_n 1, 1) := by decide +kernel
theorem d_Mo_all_7 : decode prog_14_method_30_code 7 = .ok (.invokevirtual 90, 3) := by decide +kernel
theorem d_Mo_all_10 : decode prog_14_method_30_code 10 = .ok (.ifCond .eq 15, 3) := by decide +kernel
theorem d_Mo_all_13 : decode prog_14_method_30_code 13 = .ok (.iload_n 2, 1) := by decide +kernel
theorem d_Mo_all_14 : decode prog_14_method_30_code 14 = .ok (.iconst 1, 1) := by decide +kernel
theorem d_Mo_all_15 : decode prog_14_method_30_code 15 = .ok (.if_icmp .lt 10, 3) := by decide +kernel
theorem d_Mo_all_18 : decode prog_14_method_30_code 18 = .ok (.iload_n 2, 1) := by decide +kernel
theorem d_Mo_all_19 : decode prog_14_method_30_code 19 = .ok (.sipush 200, 3) := by decide +kernel
theorem d_Mo_all_22 : decode prog_14_method_30_code 22 = .ok (.if_icmp .le 5, 3) := by decide +kernel
theorem d_Mo_all_25 : decode prog_14_method_30_code 25 = .ok (.iconst (-1), 1) := by decide +kernel
theorem d_Mo_all_26 : decode prog_14_method_30_code 26 = .ok (.ireturn, 1) := by decide +kernel
theorem d_Mo_all_27 : decode prog_14_method_30_code 27 = .ok (.aload_n 0, 1) := by decide +kernel
theorem d_Mo_all_28 : decode prog_14_method_30_code 28 = .ok (.lconst 0, 1) := by decide +kernel
theorem d_Mo_all_29 : decode prog_14_method_30_code 29 = .ok (.putfield 199, 3) := by decide +kernel
theorem d_Mo_all_32 : decode prog_14_method_30_code 32 = .ok (.aload_n 0, 1) := by decide +kernel
theorem d_Mo_all_33 : decode prog_14_method_30_code 33 = .ok (.iconst 0, 1) := by decide +kernel
theorem d_Mo_all_34 : decode prog_14_method_30_code 34 = .ok (.putfield 111, 3) := by decide +kernel
theorem d_Mo_all_37 : decode prog_14_method_30_code 37 = .ok (.iconst 0, 1) := by decide +kernel
theorem d_Mo_all_38 : decode prog_14_method_30_code 38 = .ok (.istore_n 3, 1) := by decide +kernel
theorem d_Mo_all_39 : decode prog_14_method_30_code 39 = .ok (.iconst 0, 1) := by decide +kernel
theorem d_Mo_all_40 : decode prog_14_method_30_code 40 = .ok (.istore 4, 2) := by decide +kernel
theorem d_Mo_all_42 : decode prog_14_method_30_code 42 = .ok (.iconst 1, 1) := by decide +kernel
theorem d_Mo_all_43 : decode prog_14_method_30_code 43 = .ok (.istore 5, 2) := by decide +kernel
theorem d_Mo_all_45 : decode prog_14_method_30_code 45 = .ok (.iload 5, 2) := by decide +kernel
theorem d_Mo_all_47 : decode prog_14_method_30_code 47 = .ok (.ifCond .eq 106, 3) := by decide +kernel
theorem d_Mo_all_50 : decode prog_14_method_30_code 50 = .ok (.iload_n 3, 1) := by decide +kernel
theorem d_Mo_all_51 : decode prog_14_method_30_code 51 = .ok (.iload_n 2, 1) := by decide +kernel
theorem d_Mo_all_52 : decode prog_14_method_30_code 52 = .ok (.if_icmp .ge 101, 3) := by decide +kernel
theorem d_Mo_all_55 : decode prog_14_method_30_code 55 = .ok (.iload 4, 2) := by decide +kernel
theorem d_Mo_all_57 : decode prog_14_method_30_code 57 = .ok (.sipush 2000, 3) := by decide +kernel
theorem d_Mo_all_60 : decode prog_14_method_30_code 60 = .ok (.if_icmp .ge 93, 3) := by decide +kernel
theorem d_Mo_all_63 : decode prog_14_method_30_code 63 = .ok (.aload_n 0, 1) := by decide +kernel
theorem d_Mo_all_64 : decode prog_14_method_30_code 64 = .ok (.iload_n 1, 1) := by decide +kernel
theorem d_Mo_all_65 : decode prog_14_method_30_code 65 = .ok (.iconst 2, 1) := by decide +kernel
theorem d_Mo_all_66 : decode prog_14_method_30_code 66 = .ok (.invokevirtual 161, 3) := by decide +kernel
theorem d_Mo_all_69 : decode prog_14_method_30_code 69 = .ok (.iinc 4 1, 3) := by decide +kernel
theorem d_Mo_all_72 : decode prog_14_method_30_code 72 = .ok (.iconst 0, 1) := by decide +kernel
theorem d_Mo_all_73 : decode prog_14_method_30_code 73 = .ok (.istore 6, 2) := by decide +kernel
theorem d_Mo_all_75 : decode prog_14_method_30_code 75 = .ok (.iload 6, 2) := by decide +kernel
theorem d_Mo_all_77 : decode prog_14_method_30_code 77 = .ok (.aload_n 0, 1) := by decide +kernel
theorem d_Mo_all_78 : decode prog_14_method_30_code 78 = .ok (.getfield 124, 3) := by decide +kernel
theorem d_Mo_all_81 : decode prog_14_method_30_code 81 = .ok (.if_icmp .ge 37, 3) := by decide +kernel
theorem d_Mo_all_84 : decode prog_14_method_30_code 84 = .ok (.aload_n 0, 1) := by decide +kernel
theorem d_Mo_all_85 : decode prog_14_method_30_code 85 = .ok (.getfield 114, 3) := by decide +kernel
theorem d_Mo_all_88 : decode prog_14_method_30_code 88 = .ok (.ifCond .ne 30, 3) := by decide +kernel
theorem d_Mo_all_91 : decode prog_14_method_30_code 91 = .ok (.aload_n 0, 1) := by decide +kernel
theorem d_Mo_all_92 : decode prog_14_method_30_code 92 = .ok (.ldc2_w 202, 3) := by decide +kernel
theorem d_Mo_all_95 : decode prog_14_method_30_code 95 = .ok (.aload_n 0, 1) := by decide +kernel
theorem d_Mo_all_96 : decode prog_14_method_30_code 96 = .ok (.getfield 199, 3) := by decide +kernel
theorem d_Mo_all_99 : decode prog_14_method_30_code 99 = .ok (.lmul, 1) := by decide +kernel
theorem d_Mo_all_100 : decode prog_14_method_30_code 100 = .ok (.aload_n 0, 1) := by decide +kernel
theorem d_Mo_all_101 : decode prog_14_method_30_code 101 = .ok (.getfield 40, 3) := by decide +kernel
theorem d_Mo_all_104 : decode prog_14_method_30_code 104 = .ok (.iload 6, 2) := by decide +kernel
theorem d_Mo_all_106 : decode prog_14_method_30_code 106 = .ok (.iaload, 1) := by decide +kernel
theorem d_Mo_all_107 : decode prog_14_method_30_code 107 = .ok (.i2l, 1) := by decide +kernel
theorem d_Mo_all_108 : decode prog_14_method_30_code 108 = .ok (.ladd, 1) := by decide +kernel
theorem d_Mo_all_109 : decode prog_14_method_30_code 109 = .ok (.putfield 199, 3) := by decide +kernel
theorem d_Mo_all_112 : decode prog_14_method_30_code 112 = .ok (.iinc 6 1, 3) := by decide +kernel
theorem d_Mo_all_115 : decode prog_14_method_30_code 115 = .ok (.goto (-40), 3) := by decide +kernel
theorem d_Mo_all_118 : decode prog_14_method_30_code 118 = .ok (.aload_n 0, 1) := by decide +kernel
theorem d_Mo_all_119 : decode prog_14_method_30_code 119 = .ok (.getfield 114, 3) := by decide +kernel
theorem d_Mo_all_122 : decode prog_14_method_30_code 122 = .ok (.ifCond .ne 22, 3) := by decide +kernel
theorem d_Mo_all_125 : decode prog_14_method_30_code 125 = .ok (.aload_n 0, 1) := by decide +kernel
theorem d_Mo_all_126 : decode prog_14_method_30_code 126 = .ok (.ldc2_w 202, 3) := by decide +kernel
theorem d_Mo_all_129 : decode prog_14_method_30_code 129 = .ok (.aload_n 0, 1) := by decide +kernel
theorem d_Mo_all_130 : decode prog_14_method_30_code 130 = .ok (.getfield 199, 3) := by decide +kernel
theorem d_Mo_all_133 : decode prog_14_method_30_code 133 = .ok (.lmul, 1) := by decide +kernel
theorem d_Mo_all_134 : decode prog_14_method_30_code 134 = .ok (.ldc2_w 204, 3) := by decide +kernel
theorem d_Mo_all_137 : decode prog_14_method_30_code 137 = .ok (.ladd, 1) := by decide +kernel
theorem d_Mo_all_138 : decode prog_14_method_30_code 138 = .ok (.putfield 199, 3) := by decide +kernel
theorem d_Mo_all_141 : decode prog_14_method_30_code 141 = .ok (.iinc 3 1, 3) := by decide +kernel
theorem d_Mo_all_144 : decode prog_14_method_30_code 144 = .ok (.aload_n 0, 1) := by decide +kernel
theorem d_Mo_all_145 : decode prog_14_method_30_code 145 = .ok (.invokevirtual 206, 3) := by decide +kernel
theorem d_Mo_all_148 : decode prog_14_method_30_code 148 = .ok (.istore 5, 2) := by decide +kernel
theorem d_Mo_all_150 : decode prog_14_method_30_code 150 = .ok (.goto (-105), 3) := by decide +kernel
theorem d_Mo_all_153 : decode prog_14_method_30_code 153 = .ok (.iload_n 3, 1) := by decide +kernel
theorem d_Mo_all_154 : decode prog_14_method_30_code 154 = .ok (.ireturn, 1) := by decide +kernel
theorem d_Mo_raise_0 : decode prog_14_method_29_code 0 = .ok (.aload_n 0, 1) := by decide +kernel
theorem d_Mo_raise_1 : decode prog_14_method_29_code 1 = .ok (.getfield 108, 3) := by decide +kernel
theorem d_Mo_raise_4 : decode prog_14_method_29_code 4 = .ok (.iconst 1, 1) := by decide +kernel
theorem d_Mo_raise_5 : decode prog_14_method_29_code 5 = .ok (.isub, 1) := by decide +kernel
theorem d_Mo_raise_6 : decode prog_14_method_29_code 6 = .ok (.istore_n 1, 1) := by decide +kernel
theorem d_Mo_raise_7 : decode prog_14_method_29_code 7 = .ok (.iload_n 1, 1) := by decide +kernel
theorem d_Mo_raise_8 : decode prog_14_method_29_code 8 = .ok (.ifCond .lt 24, 3) := by decide +kernel
theorem d_Mo_raise_11 : decode prog_14_method_29_code 11 = .ok (.aload_n 0, 1) := by decide +kernel
theorem d_Mo_raise_12 : decode prog_14_method_29_code 12 = .ok (.getfield 34, 3) := by decide +kernel
theorem d_Mo_raise_15 : decode prog_14_method_29_code 15 = .ok (.iload_n 1, 1) := by decide +kernel
theorem d_Mo_raise_16 : decode prog_14_method_29_code 16 = .ok (.iaload, 1) := by decide +kernel
theorem d_Mo_raise_17 : decode prog_14_method_29_code 17 = .ok (.aload_n 0, 1) := by decide +kernel
theorem d_Mo_raise_18 : decode prog_14_method_29_code 18 = .ok (.getfield 37, 3) := by decide +kernel
theorem d_Mo_raise_21 : decode prog_14_method_29_code 21 = .ok (.iload_n 1, 1) := by decide +kernel
theorem d_Mo_raise_22 : decode prog_14_method_29_code 22 = .ok (.iaload, 1) := by decide +kernel
theorem d_Mo_raise_23 : decode prog_14_method_29_code 23 = .ok (.if_icmp .ne 9, 3) := by decide +kernel
theorem d_Mo_raise_26 : decode prog_14_method_29_code 26 = .ok (.iinc 1 (-1), 3) := by decide +kernel
theorem d_Mo_raise_29 : decode prog_14_method_29_code 29 = .ok (.goto (-22), 3) := by decide +kernel
theorem d_Mo_raise_32 : decode prog_14_method_29_code 32 = .ok (.iload_n 1, 1) := by decide +kernel
theorem d_Mo_raise_33 : decode prog_14_method_29_code 33 = .ok (.ifCond .ge 5, 3) := by decide +kernel
theorem d_Mo_raise_36 : decode prog_14_method_29_code 36 = .ok (.iconst 0, 1) := by decide +kernel
theorem d_Mo_raise_37 : decode prog_14_method_29_code 37 = .ok (.ireturn, 1) := by decide +kernel
theorem d_Mo_raise_38 : decode prog_14_method_29_code 38 = .ok (.iconst 0, 1) := by decide +kernel
theorem d_Mo_raise_39 : decode prog_14_method_29_code 39 = .ok (.istore_n 2, 1) := by decide +kernel
theorem d_Mo_raise_40 : decode prog_14_method_29_code 40 = .ok (.iload_n 2, 1) := by decide +kernel
theorem d_Mo_raise_41 : decode prog_14_method_29_code 41 = .ok (.iload_n 1, 1) := by decide +kernel
theorem d_Mo_raise_42 : decode prog_14_method_29_code 42 = .ok (.if_icmp .ge 21, 3) := by decide +kernel
theorem d_Mo_raise_45 : decode prog_14_method_29_code 45 = .ok (.aload_n 0, 1) := by decide +kernel
theorem d_Mo_raise_46 : decode prog_14_method_29_code 46 = .ok (.getfield 31, 3) := by decide +kernel
theorem d_Mo_raise_49 : decode prog_14_method_29_code 49 = .ok (.iload_n 2, 1) := by decide +kernel
theorem d_Mo_raise_50 : decode prog_14_method_29_code 50 = .ok (.aload_n 0, 1) := by decide +kernel
theorem d_Mo_raise_51 : decode prog_14_method_29_code 51 = .ok (.getfield 34, 3) := by decide +kernel
theorem d_Mo_raise_54 : decode prog_14_method_29_code 54 = .ok (.iload_n 2, 1) := by decide +kernel
theorem d_Mo_raise_55 : decode prog_14_method_29_code 55 = .ok (.iaload, 1) := by decide +kernel
theorem d_Mo_raise_56 : decode prog_14_method_29_code 56 = .ok (.iastore, 1) := by decide +kernel
theorem d_Mo_raise_57 : decode prog_14_method_29_code 57 = .ok (.iinc 2 1, 3) := by decide +kernel
theorem d_Mo_raise_60 : decode prog_14_method_29_code 60 = .ok (.goto (-20), 3) := by decide +kernel
theorem d_Mo_raise_63 : decode prog_14_method_29_code 63 = .ok (.aload_n 0, 1) := by decide +kernel
theorem d_Mo_raise_64 : decode prog_14_method_29_code 64 = .ok (.getfield 31, 3) := by decide +kernel
theorem d_Mo_raise_67 : decode prog_14_method_29_code 67 = .ok (.iload_n 1, 1) := by decide +kernel
theorem d_Mo_raise_68 : decode prog_14_method_29_code 68 = .ok (.aload_n 0, 1) := by decide +kernel
theorem d_Mo_raise_69 : decode prog_14_method_29_code 69 = .ok (.getfield 34, 3) := by decide +kernel
theorem d_Mo_raise_72 : decode prog_14_method_29_code 72 = .ok (.iload_n 1, 1) := by decide +kernel
theorem d_Mo_raise_73 : decode prog_14_method_29_code 73 = .ok (.iaload, 1) := by decide +kernel
theorem d_Mo_raise_74 : decode prog_14_method_29_code 74 = .ok (.iconst 1, 1) := by decide +kernel
theorem d_Mo_raise_75 : decode prog_14_method_29_code 75 = .ok (.iadd, 1) := by decide +kernel
theorem d_Mo_raise_76 : decode prog_14_method_29_code 76 = .ok (.iastore, 1) := by decide +kernel
theorem d_Mo_raise_77 : decode prog_14_method_29_code 77 = .ok (.aload_n 0, 1) := by decide +kernel
theorem d_Mo_raise_78 : decode prog_14_method_29_code 78 = .ok (.iload_n 1, 1) := by decide +kernel
theorem d_Mo_raise_79 : decode prog_14_method_29_code 79 = .ok (.iconst 1, 1) := by decide +kernel
theorem d_Mo_raise_80 : decode prog_14_method_29_code 80 = .ok (.iadd, 1) := by decide +kernel
theorem d_Mo_raise_81 : decode prog_14_method_29_code 81 = .ok (.putfield 111, 3) := by decide +kernel
theorem d_Mo_raise_84 : decode prog_14_method_29_code 84 = .ok (.iconst 1, 1) := by decide +kernel
theorem d_Mo_raise_85 : decode prog_14_method_29_code 85 = .ok (.ireturn, 1) := by decide +kernel
theorem d_Mo_sum_0 : decode prog_14_method_31_code 0 = .ok (.aload_n 0, 1) := by decide +kernel
theorem d_Mo_sum_1 : decode prog_14_method_31_code 1 = .ok (.iconst 0, 1) := by decide +kernel
theorem d_Mo_sum_2 : decode prog_14_method_31_code 2 = .ok (.putfield 80, 3) := by decide +kernel
theorem d_Mo_sum_5 : decode prog_14_method_31_code 5 = .ok (.aload_n 0, 1) := by decide +kernel
theorem d_Mo_sum_6 : decode prog_14_method_31_code 6 = .ok (.getfield 199, 3) := by decide +kernel
theorem d_Mo_sum_9 : decode prog_14_method_31_code 9 = .ok (.lreturn, 1) := by decide +kernel
