/-! decode rows -/
theorem d_In_init_0 : decode prog_6_method_1_code 0 = .ok (.aload_n 0, 1) := by decide +kernel
theorem d_In_init_1 : decode prog_6_method_1_code 1 = .ok (.invokespecial 3, 3) := by decide +kernel
theorem d_In_init_4 : decode prog_6_method_1_code 4 = .ok (.aload_n 0, 1) := by decide +kernel
theorem d_In_init_5 : decode prog_6_method_1_code 5 = .ok (.bipush 60, 2) := by decide +kernel
theorem d_In_init_7 : decode prog_6_method_1_code 7 = .ok (.newarray .int, 2) := by decide +kernel
theorem d_In_init_9 : decode prog_6_method_1_code 9 = .ok (.putfield 9, 3) := by decide +kernel
theorem d_In_init_12 : decode prog_6_method_1_code 12 = .ok (.return_, 1) := by decide +kernel
theorem d_Dr_init_0 : decode prog_3_method_1_code 0 = .ok (.aload_n 0, 1) := by decide +kernel
theorem d_Dr_init_1 : decode prog_3_method_1_code 1 = .ok (.invokespecial 3, 3) := by decide +kernel
theorem d_Dr_init_4 : decode prog_3_method_1_code 4 = .ok (.aload_n 0, 1) := by decide +kernel
theorem d_Dr_init_5 : decode prog_3_method_1_code 5 = .ok (.new 9, 3) := by decide +kernel
theorem d_Dr_init_8 : decode prog_3_method_1_code 8 = .ok (.dup, 1) := by decide +kernel
theorem d_Dr_init_9 : decode prog_3_method_1_code 9 = .ok (.invokespecial 11, 3) := by decide +kernel
theorem d_Dr_init_12 : decode prog_3_method_1_code 12 = .ok (.putfield 12, 3) := by decide +kernel
theorem d_Dr_init_15 : decode prog_3_method_1_code 15 = .ok (.aload_n 0, 1) := by decide +kernel
theorem d_Dr_init_16 : decode prog_3_method_1_code 16 = .ok (.new 9, 3) := by decide +kernel
theorem d_Dr_init_19 : decode prog_3_method_1_code 19 = .ok (.dup, 1) := by decide +kernel
theorem d_Dr_init_20 : decode prog_3_method_1_code 20 = .ok (.invokespecial 11, 3) := by decide +kernel
theorem d_Dr_init_23 : decode prog_3_method_1_code 23 = .ok (.putfield 18, 3) := by decide +kernel
theorem d_Dr_init_26 : decode prog_3_method_1_code 26 = .ok (.aload_n 0, 1) := by decide +kernel
theorem d_Dr_init_27 : decode prog_3_method_1_code 27 = .ok (.bipush 60, 2) := by decide +kernel
theorem d_Dr_init_29 : decode prog_3_method_1_code 29 = .ok (.newarray .int, 2) := by decide +kernel
theorem d_Dr_init_31 : decode prog_3_method_1_code 31 = .ok (.putfield 21, 3) := by decide +kernel
theorem d_Dr_init_34 : decode prog_3_method_1_code 34 = .ok (.aload_n 0, 1) := by decide +kernel
theorem d_Dr_init_35 : decode prog_3_method_1_code 35 = .ok (.new 9, 3) := by decide +kernel
theorem d_Dr_init_38 : decode prog_3_method_1_code 38 = .ok (.dup, 1) := by decide +kernel
theorem d_Dr_init_39 : decode prog_3_method_1_code 39 = .ok (.invokespecial 11, 3) := by decide +kernel
theorem d_Dr_init_42 : decode prog_3_method_1_code 42 = .ok (.putfield 25, 3) := by decide +kernel
theorem d_Dr_init_45 : decode prog_3_method_1_code 45 = .ok (.aload_n 0, 1) := by decide +kernel
theorem d_Dr_init_46 : decode prog_3_method_1_code 46 = .ok (.iconst 0, 1) := by decide +kernel
theorem d_Dr_init_47 : decode prog_3_method_1_code 47 = .ok (.putfield 28, 3) := by decide +kernel
theorem d_Dr_init_50 : decode prog_3_method_1_code 50 = .ok (.return_, 1) := by decide +kernel
theorem d_IR_init_0 : decode prog_5_method_1_code 0 = .ok (.aload_n 0, 1) := by decide +kernel
theorem d_IR_init_1 : decode prog_5_method_1_code 1 = .ok (.iconst 1, 1) := by decide +kernel
theorem d_IR_init_2 : decode prog_5_method_1_code 2 = .ok (.invokespecial 1, 3) := by decide +kernel
theorem d_IR_init_5 : decode prog_5_method_1_code 5 = .ok (.aload_n 0, 1) := by decide +kernel
theorem d_IR_init_6 : decode prog_5_method_1_code 6 = .ok (.iload_n 1, 1) := by decide +kernel
theorem d_IR_init_7 : decode prog_5_method_1_code 7 = .ok (.putfield 7, 3) := by decide +kernel
theorem d_IR_init_10 : decode prog_5_method_1_code 10 = .ok (.aload_n 0, 1) := by decide +kernel
theorem d_IR_init_11 : decode prog_5_method_1_code 11 = .ok (.iload_n 2, 1) := by decide +kernel
theorem d_IR_init_12 : decode prog_5_method_1_code 12 = .ok (.putfield 13, 3) := by decide +kernel
theorem d_IR_init_15 : decode prog_5_method_1_code 15 = .ok (.return_, 1) := by decide +kernel
theorem d_Ge_init_0 : decode prog_4_method_1_code 0 = .ok (.aload_n 0, 1) := by decide +kernel
theorem d_Ge_init_1 : decode prog_4_method_1_code 1 = .ok (.invokespecial 1, 3) := by decide +kernel
theorem d_Ge_init_4 : decode prog_4_method_1_code 4 = .ok (.aload_n 0, 1) := by decide +kernel
theorem d_Ge_init_5 : decode prog_4_method_1_code 5 = .ok (.iload_n 1, 1) := by decide +kernel
theorem d_Ge_init_6 : decode prog_4_method_1_code 6 = .ok (.putfield 7, 3) := by decide +kernel
theorem d_Ge_init_9 : decode prog_4_method_1_code 9 = .ok (.return_, 1) := by decide +kernel
theorem d_LO_init_0 : decode prog_9_method_1_code 0 = .ok (.aload_n 0, 1) := by decide +kernel
theorem d_LO_init_1 : decode prog_9_method_1_code 1 = .ok (.aload_n 1, 1) := by decide +kernel
theorem d_LO_init_2 : decode prog_9_method_1_code 2 = .ok (.getfield 1, 3) := by decide +kernel
theorem d_LO_init_5 : decode prog_9_method_1_code 5 = .ok (.iconst 1, 1) := by decide +kernel
theorem d_LO_init_6 : decode prog_9_method_1_code 6 = .ok (.iadd, 1) := by decide +kernel
theorem d_LO_init_7 : decode prog_9_method_1_code 7 = .ok (.invokespecial 7, 3) := by decide +kernel
theorem d_LO_init_10 : decode prog_9_method_1_code 10 = .ok (.aload_n 0, 1) := by decide +kernel
theorem d_LO_init_11 : decode prog_9_method_1_code 11 = .ok (.aload_n 1, 1) := by decide +kernel
theorem d_LO_init_12 : decode prog_9_method_1_code 12 = .ok (.putfield 11, 3) := by decide +kernel
theorem d_LO_init_15 : decode prog_9_method_1_code 15 = .ok (.aload_n 0, 1) := by decide +kernel
theorem d_LO_init_16 : decode prog_9_method_1_code 16 = .ok (.iload_n 2, 1) := by decide +kernel
theorem d_LO_init_17 : decode prog_9_method_1_code 17 = .ok (.putfield 17, 3) := by decide +kernel
theorem d_LO_init_20 : decode prog_9_method_1_code 20 = .ok (.return_, 1) := by decide +kernel
theorem d_KO_init_0 : decode prog_7_method_1_code 0 = .ok (.aload_n 0, 1) := by decide +kernel
theorem d_KO_init_1 : decode prog_7_method_1_code 1 = .ok (.aload_n 1, 1) := by decide +kernel
theorem d_KO_init_2 : decode prog_7_method_1_code 2 = .ok (.getfield 3, 3) := by decide +kernel
theorem d_KO_init_5 : decode prog_7_method_1_code 5 = .ok (.iconst 1, 1) := by decide +kernel
theorem d_KO_init_6 : decode prog_7_method_1_code 6 = .ok (.iadd, 1) := by decide +kernel
theorem d_KO_init_7 : decode prog_7_method_1_code 7 = .ok (.invokespecial 9, 3) := by decide +kernel
theorem d_KO_init_10 : decode prog_7_method_1_code 10 = .ok (.aload_n 0, 1) := by decide +kernel
theorem d_KO_init_11 : decode prog_7_method_1_code 11 = .ok (.aload_n 1, 1) := by decide +kernel
theorem d_KO_init_12 : decode prog_7_method_1_code 12 = .ok (.putfield 13, 3) := by decide +kernel
theorem d_KO_init_15 : decode prog_7_method_1_code 15 = .ok (.aload_n 0, 1) := by decide +kernel
theorem d_KO_init_16 : decode prog_7_method_1_code 16 = .ok (.iload_n 2, 1) := by decide +kernel
theorem d_KO_init_17 : decode prog_7_method_1_code 17 = .ok (.putfield 19, 3) := by decide +kernel
theorem d_KO_init_20 : decode prog_7_method_1_code 20 = .ok (.return_, 1) := by decide +kernel
theorem d_AT_init_0 : decode prog_2_method_1_code 0 = .ok (.aload_n 0, 1) := by decide +kernel
theorem d_AT_init_1 : decode prog_2_method_1_code 1 = .ok (.aload_n 1, 1) := by decide +kernel
theorem d_AT_init_2 : decode prog_2_method_1_code 2 = .ok (.getfield 1, 3) := by decide +kernel
theorem d_AT_init_5 : decode prog_2_method_1_code 5 = .ok (.iconst 1, 1) := by decide +kernel
theorem d_AT_init_6 : decode prog_2_method_1_code 6 = .ok (.iadd, 1) := by decide +kernel
theorem d_AT_init_7 : decode prog_2_method_1_code 7 = .ok (.invokespecial 7, 3) := by decide +kernel
theorem d_AT_init_10 : decode prog_2_method_1_code 10 = .ok (.aload_n 0, 1) := by decide +kernel
theorem d_AT_init_11 : decode prog_2_method_1_code 11 = .ok (.aload_n 1, 1) := by decide +kernel
theorem d_AT_init_12 : decode prog_2_method_1_code 12 = .ok (.putfield 11, 3) := by decide +kernel
theorem d_AT_init_15 : decode prog_2_method_1_code 15 = .ok (.aload_n 0, 1) := by decide +kernel
theorem d_AT_init_16 : decode prog_2_method_1_code 16 = .ok (.iload_n 2, 1) := by decide +kernel
theorem d_AT_init_17 : decode prog_2_method_1_code 17 = .ok (.putfield 17, 3) := by decide +kernel
theorem d_AT_init_20 : decode prog_2_method_1_code 20 = .ok (.return_, 1) := by decide +kernel
theorem d_PO_init_0 : decode prog_11_method_1_code 0 = .ok (.aload_n 0, 1) := by decide +kernel
theorem d_PO_init_1 : decode prog_11_method_1_code 1 = .ok (.aload_n 1, 1) := by decide +kernel
theorem d_PO_init_2 : decode prog_11_method_1_code 2 = .ok (.getfield 1, 3) := by decide +kernel
theorem d_PO_init_5 : decode prog_11_method_1_code 5 = .ok (.aload_n 2, 1) := by decide +kernel
theorem d_PO_init_6 : decode prog_11_method_1_code 6 = .ok (.getfield 1, 3) := by decide +kernel
theorem d_PO_init_9 : decode prog_11_method_1_code 9 = .ok (.invokestatic 7, 3) := by decide +kernel
theorem d_PO_init_12 : decode prog_11_method_1_code 12 = .ok (.iconst 1, 1) := by decide +kernel
theorem d_PO_init_13 : decode prog_11_method_1_code 13 = .ok (.iadd, 1) := by decide +kernel
theorem d_PO_init_14 : decode prog_11_method_1_code 14 = .ok (.invokespecial 13, 3) := by decide +kernel
theorem d_PO_init_17 : decode prog_11_method_1_code 17 = .ok (.aload_n 0, 1) := by decide +kernel
theorem d_PO_init_18 : decode prog_11_method_1_code 18 = .ok (.aload_n 1, 1) := by decide +kernel
theorem d_PO_init_19 : decode prog_11_method_1_code 19 = .ok (.putfield 17, 3) := by decide +kernel
theorem d_PO_init_22 : decode prog_11_method_1_code 22 = .ok (.aload_n 0, 1) := by decide +kernel
theorem d_PO_init_23 : decode prog_11_method_1_code 23 = .ok (.aload_n 2, 1) := by decide +kernel
theorem d_PO_init_24 : decode prog_11_method_1_code 24 = .ok (.putfield 23, 3) := by decide +kernel
theorem d_PO_init_27 : decode prog_11_method_1_code 27 = .ok (.return_, 1) := by decide +kernel
theorem d_OO_init_0 : decode prog_10_method_1_code 0 = .ok (.aload_n 0, 1) := by decide +kernel
theorem d_OO_init_1 : decode prog_10_method_1_code 1 = .ok (.aload_n 1, 1) := by decide +kernel
theorem d_OO_init_2 : decode prog_10_method_1_code 2 = .ok (.getfield 1, 3) := by decide +kernel
theorem d_OO_init_5 : decode prog_10_method_1_code 5 = .ok (.aload_n 2, 1) := by decide +kernel
theorem d_OO_init_6 : decode prog_10_method_1_code 6 = .ok (.getfield 1, 3) := by decide +kernel
theorem d_OO_init_9 : decode prog_10_method_1_code 9 = .ok (.invokestatic 7, 3) := by decide +kernel
theorem d_OO_init_12 : decode prog_10_method_1_code 12 = .ok (.iconst 1, 1) := by decide +kernel
theorem d_OO_init_13 : decode prog_10_method_1_code 13 = .ok (.iadd, 1) := by decide +kernel
theorem d_OO_init_14 : decode prog_10_method_1_code 14 = .ok (.invokespecial 13, 3) := by decide +kernel
theorem d_OO_init_17 : decode prog_10_method_1_code 17 = .ok (.aload_n 0, 1) := by decide +kernel
theorem d_OO_init_18 : decode prog_10_method_1_code 18 = .ok (.aload_n 1, 1) := by decide +kernel
theorem d_OO_init_19 : decode prog_10_method_1_code 19 = .ok (.putfield 17, 3) := by decide +kernel
theorem d_OO_init_22 : decode prog_10_method_1_code 22 = .ok (.aload_n 0, 1) := by decide +kernel
theorem d_OO_init_23 : decode prog_10_method_1_code 23 = .ok (.aload_n 2, 1) := by decide +kernel
theorem d_OO_init_24 : decode prog_10_method_1_code 24 = .ok (.putfield 23, 3) := by decide +kernel
theorem d_OO_init_27 : decode prog_10_method_1_code 27 = .ok (.return_, 1) := by decide +kernel
theorem d_Pr_init_0 : decode prog_12_method_1_code 0 = .ok (.aload_n 0, 1) := by decide +kernel
theorem d_Pr_init_1 : decode prog_12_method_1_code 1 = .ok (.invokespecial 3, 3) := by decide +kernel
theorem d_Pr_init_4 : decode prog_12_method_1_code 4 = .ok (.aload_n 0, 1) := by decide +kernel
theorem d_Pr_init_5 : decode prog_12_method_1_code 5 = .ok (.iload_n 1, 1) := by decide +kernel
theorem d_Pr_init_6 : decode prog_12_method_1_code 6 = .ok (.putfield 9, 3) := by decide +kernel
theorem d_Pr_init_9 : decode prog_12_method_1_code 9 = .ok (.aload_n 0, 1) := by decide +kernel
theorem d_Pr_init_10 : decode prog_12_method_1_code 10 = .ok (.iload_n 2, 1) := by decide +kernel
theorem d_Pr_init_11 : decode prog_12_method_1_code 11 = .ok (.putfield 15, 3) := by decide +kernel
theorem d_Pr_init_14 : decode prog_12_method_1_code 14 = .ok (.aload_n 0, 1) := by decide +kernel
theorem d_Pr_init_15 : decode prog_12_method_1_code 15 = .ok (.iload_n 3, 1) := by decide +kernel
theorem d_Pr_init_16 : decode prog_12_method_1_code 16 = .ok (.putfield 18, 3) := by decide +kernel
theorem d_Pr_init_19 : decode prog_12_method_1_code 19 = .ok (.return_, 1) := by decide +kernel
theorem d_Dr_beginRow_0 : decode prog_3_method_3_code 0 = .ok (.aload_n 0, 1) := by decide +kernel
theorem d_Dr_beginRow_1 : decode prog_3_method_3_code 1 = .ok (.getfield 25, 3) := by decide +kernel
theorem d_Dr_beginRow_4 : decode prog_3_method_3_code 4 = .ok (.aload_n 1, 1) := by decide +kernel
theorem d_Dr_beginRow_5 : decode prog_3_method_3_code 5 = .ok (.invokevirtual 40, 3) := by decide +kernel
theorem d_Dr_beginRow_8 : decode prog_3_method_3_code 8 = .ok (.aload_n 0, 1) := by decide +kernel
theorem d_Dr_beginRow_9 : decode prog_3_method_3_code 9 = .ok (.iconst 0, 1) := by decide +kernel
theorem d_Dr_beginRow_10 : decode prog_3_method_3_code 10 = .ok (.invokevirtual 44, 3) := by decide +kernel
theorem d_Dr_beginRow_13 : decode prog_3_method_3_code 13 = .ok (.return_, 1) := by decide +kernel
theorem d_In_copyFrom_0 : decode prog_6_method_7_code 0 = .ok (.aload_n 0, 1) := by decide +kernel
theorem d_In_copyFrom_1 : decode prog_6_method_7_code 1 = .ok (.aload_n 1, 1) := by decide +kernel
theorem d_In_copyFrom_2 : decode prog_6_method_7_code 2 = .ok (.iconst 0, 1) := by decide +kernel
theorem d_In_copyFrom_3 : decode prog_6_method_7_code 3 = .ok (.iconst 0, 1) := by decide +kernel
theorem d_In_copyFrom_4 : decode prog_6_method_7_code 4 = .ok (.invokevirtual 28, 3) := by decide +kernel
theorem d_In_copyFrom_7 : decode prog_6_method_7_code 7 = .ok (.return_, 1) := by decide +kernel
theorem d_In_copyWithout_0 : decode prog_6_method_8_code 0 = .ok (.aload_n 0, 1) := by decide +kernel
theorem d_In_copyWithout_1 : decode prog_6_method_8_code 1 = .ok (.iconst 0, 1) := by decide +kernel
theorem d_In_copyWithout_2 : decode prog_6_method_8_code 2 = .ok (.putfield 15, 3) := by decide +kernel
theorem d_In_copyWithout_5 : decode prog_6_method_8_code 5 = .ok (.iconst 0, 1) := by decide +kernel
theorem d_In_copyWithout_6 : decode prog_6_method_8_code 6 = .ok (.istore 4, 2) := by decide +kernel
theorem d_In_copyWithout_8 : decode prog_6_method_8_code 8 = .ok (.iload 4, 2) := by decide +kernel
theorem d_In_copyWithout_10 : decode prog_6_method_8_code 10 = .ok (.aload_n 1, 1) := by decide +kernel
theorem d_In_copyWithout_11 : decode prog_6_method_8_code 11 = .ok (.getfield 15, 3) := by decide +kernel
theorem d_In_copyWithout_14 : decode prog_6_method_8_code 14 = .ok (.if_icmp .ge 35, 3) := by decide +kernel
theorem d_In_copyWithout_17 : decode prog_6_method_8_code 17 = .ok (.iload 4, 2) := by decide +kernel
theorem d_In_copyWithout_19 : decode prog_6_method_8_code 19 = .ok (.iload_n 2, 1) := by decide +kernel
theorem d_In_copyWithout_20 : decode prog_6_method_8_code 20 = .ok (.if_icmp .lt 11, 3) := by decide +kernel
theorem d_In_copyWithout_23 : decode prog_6_method_8_code 23 = .ok (.iload 4, 2) := by decide +kernel
theorem d_In_copyWithout_25 : decode prog_6_method_8_code 25 = .ok (.iload_n 2, 1) := by decide +kernel
theorem d_In_copyWithout_26 : decode prog_6_method_8_code 26 = .ok (.iload_n 3, 1) := by decide +kernel
theorem d_In_copyWithout_27 : decode prog_6_method_8_code 27 = .ok (.iadd, 1) := by decide +kernel
theorem d_In_copyWithout_28 : decode prog_6_method_8_code 28 = .ok (.if_icmp .lt 15, 3) := by decide +kernel
theorem d_In_copyWithout_31 : decode prog_6_method_8_code 31 = .ok (.aload_n 0, 1) := by decide +kernel
theorem d_In_copyWithout_32 : decode prog_6_method_8_code 32 = .ok (.aload_n 1, 1) := by decide +kernel
theorem d_In_copyWithout_33 : decode prog_6_method_8_code 33 = .ok (.iload 4, 2) := by decide +kernel
theorem d_In_copyWithout_35 : decode prog_6_method_8_code 35 = .ok (.iconst 0, 1) := by decide +kernel
theorem d_In_copyWithout_36 : decode prog_6_method_8_code 36 = .ok (.invokevirtual 32, 3) := by decide +kernel
theorem d_In_copyWithout_39 : decode prog_6_method_8_code 39 = .ok (.invokevirtual 35, 3) := by decide +kernel
theorem d_In_copyWithout_42 : decode prog_6_method_8_code 42 = .ok (.pop, 1) := by decide +kernel
theorem d_In_copyWithout_43 : decode prog_6_method_8_code 43 = .ok (.iinc 4 1, 3) := by decide +kernel
theorem d_In_copyWithout_46 : decode prog_6_method_8_code 46 = .ok (.goto (-38), 3) := by decide +kernel
theorem d_In_copyWithout_49 : decode prog_6_method_8_code 49 = .ok (.return_, 1) := by decide +kernel
theorem d_In_at_0 : decode prog_6_method_3_code 0 = .ok (.iload_n 1, 1) := by decide +kernel
theorem d_In_at_1 : decode prog_6_method_3_code 1 = .ok (.ifCond .lt 29, 3) := by decide +kernel
theorem d_In_at_4 : decode prog_6_method_3_code 4 = .ok (.iload_n 1, 1) := by decide +kernel
theorem d_In_at_5 : decode prog_6_method_3_code 5 = .ok (.aload_n 0, 1) := by decide +kernel
theorem d_In_at_6 : decode prog_6_method_3_code 6 = .ok (.getfield 15, 3) := by decide +kernel
theorem d_In_at_9 : decode prog_6_method_3_code 9 = .ok (.if_icmp .ge 21, 3) := by decide +kernel
theorem d_In_at_12 : decode prog_6_method_3_code 12 = .ok (.iload_n 1, 1) := by decide +kernel
theorem d_In_at_13 : decode prog_6_method_3_code 13 = .ok (.aload_n 0, 1) := by decide +kernel
theorem d_In_at_14 : decode prog_6_method_3_code 14 = .ok (.getfield 9, 3) := by decide +kernel
theorem d_In_at_17 : decode prog_6_method_3_code 17 = .ok (.arraylength, 1) := by decide +kernel
theorem d_In_at_18 : decode prog_6_method_3_code 18 = .ok (.if_icmp .ge 12, 3) := by decide +kernel
theorem d_In_at_21 : decode prog_6_method_3_code 21 = .ok (.aload_n 0, 1) := by decide +kernel
theorem d_In_at_22 : decode prog_6_method_3_code 22 = .ok (.getfield 9, 3) := by decide +kernel
theorem d_In_at_25 : decode prog_6_method_3_code 25 = .ok (.iload_n 1, 1) := by decide +kernel
theorem d_In_at_26 : decode prog_6_method_3_code 26 = .ok (.iaload, 1) := by decide +kernel
theorem d_In_at_27 : decode prog_6_method_3_code 27 = .ok (.goto 4, 3) := by decide +kernel
theorem d_In_at_30 : decode prog_6_method_3_code 30 = .ok (.iload_n 2, 1) := by decide +kernel
theorem d_In_at_31 : decode prog_6_method_3_code 31 = .ok (.ireturn, 1) := by decide +kernel
theorem d_In_add_0 : decode prog_6_method_5_code 0 = .ok (.aload_n 0, 1) := by decide +kernel
theorem d_In_add_1 : decode prog_6_method_5_code 1 = .ok (.getfield 15, 3) := by decide +kernel
theorem d_In_add_4 : decode prog_6_method_5_code 4 = .ok (.ifCond .lt 15, 3) := by decide +kernel
theorem d_In_add_7 : decode prog_6_method_5_code 7 = .ok (.aload_n 0, 1) := by decide +kernel
theorem d_In_add_8 : decode prog_6_method_5_code 8 = .ok (.getfield 15, 3) := by decide +kernel
theorem d_In_add_11 : decode prog_6_method_5_code 11 = .ok (.aload_n 0, 1) := by decide +kernel
theorem d_In_add_12 : decode prog_6_method_5_code 12 = .ok (.getfield 9, 3) := by decide +kernel
theorem d_In_add_15 : decode prog_6_method_5_code 15 = .ok (.arraylength, 1) := by decide +kernel
theorem d_In_add_16 : decode prog_6_method_5_code 16 = .ok (.if_icmp .lt 5, 3) := by decide +kernel
theorem d_In_add_19 : decode prog_6_method_5_code 19 = .ok (.iconst 0, 1) := by decide +kernel
theorem d_In_add_20 : decode prog_6_method_5_code 20 = .ok (.ireturn, 1) := by decide +kernel
theorem d_In_add_21 : decode prog_6_method_5_code 21 = .ok (.aload_n 0, 1) := by decide +kernel
theorem d_In_add_22 : decode prog_6_method_5_code 22 = .ok (.getfield 9, 3) := by decide +kernel
theorem d_In_add_25 : decode prog_6_method_5_code 25 = .ok (.aload_n 0, 1) := by decide +kernel
theorem d_In_add_26 : decode prog_6_method_5_code 26 = .ok (.getfield 15, 3) := by decide +kernel
theorem d_In_add_29 : decode prog_6_method_5_code 29 = .ok (.iload_n 1, 1) := by decide +kernel
theorem d_In_add_30 : decode prog_6_method_5_code 30 = .ok (.iastore, 1) := by decide +kernel
theorem d_In_add_31 : decode prog_6_method_5_code 31 = .ok (.aload_n 0, 1) := by decide +kernel
theorem d_In_add_32 : decode prog_6_method_5_code 32 = .ok (.dup, 1) := by decide +kernel
theorem d_In_add_33 : decode prog_6_method_5_code 33 = .ok (.getfield 15, 3) := by decide +kernel
theorem d_In_add_36 : decode prog_6_method_5_code 36 = .ok (.iconst 1, 1) := by decide +kernel
theorem d_In_add_37 : decode prog_6_method_5_code 37 = .ok (.iadd, 1) := by decide +kernel
theorem d_In_add_38 : decode prog_6_method_5_code 38 = .ok (.putfield 15, 3) := by decide +kernel
theorem d_In_add_41 : decode prog_6_method_5_code 41 = .ok (.iconst 1, 1) := by decide +kernel
theorem d_In_add_42 : decode prog_6_method_5_code 42 = .ok (.ireturn, 1) := by decide +kernel
theorem d_Dr_begin_0 : decode prog_3_method_2_code 0 = .ok (.aload_n 0, 1) := by decide +kernel
theorem d_Dr_begin_1 : decode prog_3_method_2_code 1 = .ok (.iload_n 1, 1) := by decide +kernel
theorem d_Dr_begin_2 : decode prog_3_method_2_code 2 = .ok (.putfield 28, 3) := by decide +kernel
theorem d_Dr_begin_5 : decode prog_3_method_2_code 5 = .ok (.aload_n 0, 1) := by decide +kernel
theorem d_Dr_begin_6 : decode prog_3_method_2_code 6 = .ok (.getfield 12, 3) := by decide +kernel
theorem d_Dr_begin_9 : decode prog_3_method_2_code 9 = .ok (.iconst 0, 1) := by decide +kernel
theorem d_Dr_begin_10 : decode prog_3_method_2_code 10 = .ok (.invokevirtual 32, 3) := by decide +kernel
theorem d_Dr_begin_13 : decode prog_3_method_2_code 13 = .ok (.aload_n 0, 1) := by decide +kernel
theorem d_Dr_begin_14 : decode prog_3_method_2_code 14 = .ok (.getfield 18, 3) := by decide +kernel
theorem d_Dr_begin_17 : decode prog_3_method_2_code 17 = .ok (.iconst 0, 1) := by decide +kernel
theorem d_Dr_begin_18 : decode prog_3_method_2_code 18 = .ok (.invokevirtual 32, 3) := by decide +kernel
theorem d_Dr_begin_21 : decode prog_3_method_2_code 21 = .ok (.aload_n 0, 1) := by decide +kernel
theorem d_Dr_begin_22 : decode prog_3_method_2_code 22 = .ok (.iconst 0, 1) := by decide +kernel
theorem d_Dr_begin_23 : decode prog_3_method_2_code 23 = .ok (.putfield 36, 3) := by decide +kernel
theorem d_Dr_begin_26 : decode prog_3_method_2_code 26 = .ok (.return_, 1) := by decide +kernel
theorem d_In_cutTo_0 : decode prog_6_method_6_code 0 = .ok (.aload_n 0, 1) := by decide +kernel
theorem d_In_cutTo_1 : decode prog_6_method_6_code 1 = .ok (.iconst 0, 1) := by decide +kernel
theorem d_In_cutTo_2 : decode prog_6_method_6_code 2 = .ok (.aload_n 0, 1) := by decide +kernel
theorem d_In_cutTo_3 : decode prog_6_method_6_code 3 = .ok (.getfield 15, 3) := by decide +kernel
theorem d_In_cutTo_6 : decode prog_6_method_6_code 6 = .ok (.iload_n 1, 1) := by decide +kernel
theorem d_In_cutTo_7 : decode prog_6_method_6_code 7 = .ok (.invokestatic 19, 3) := by decide +kernel
theorem d_In_cutTo_10 : decode prog_6_method_6_code 10 = .ok (.invokestatic 25, 3) := by decide +kernel
theorem d_In_cutTo_13 : decode prog_6_method_6_code 13 = .ok (.putfield 15, 3) := by decide +kernel
theorem d_In_cutTo_16 : decode prog_6_method_6_code 16 = .ok (.return_, 1) := by decide +kernel
theorem d_AT_give_0 : decode prog_2_method_2_code 0 = .ok (.aload_n 1, 1) := by decide +kernel
theorem d_AT_give_1 : decode prog_2_method_2_code 1 = .ok (.getfield 20, 3) := by decide +kernel
theorem d_AT_give_4 : decode prog_2_method_2_code 4 = .ok (.invokevirtual 26, 3) := by decide +kernel
theorem d_AT_give_7 : decode prog_2_method_2_code 7 = .ok (.istore_n 2, 1) := by decide +kernel
theorem d_AT_give_8 : decode prog_2_method_2_code 8 = .ok (.aload_n 0, 1) := by decide +kernel
theorem d_AT_give_9 : decode prog_2_method_2_code 9 = .ok (.getfield 11, 3) := by decide +kernel
theorem d_AT_give_12 : decode prog_2_method_2_code 12 = .ok (.aload_n 1, 1) := by decide +kernel
theorem d_AT_give_13 : decode prog_2_method_2_code 13 = .ok (.invokevirtual 32, 3) := by decide +kernel
theorem d_AT_give_16 : decode prog_2_method_2_code 16 = .ok (.aload_n 1, 1) := by decide +kernel
theorem d_AT_give_17 : decode prog_2_method_2_code 17 = .ok (.getfield 20, 3) := by decide +kernel
theorem d_AT_give_20 : decode prog_2_method_2_code 20 = .ok (.iload_n 2, 1) := by decide +kernel
theorem d_AT_give_21 : decode prog_2_method_2_code 21 = .ok (.aload_n 0, 1) := by decide +kernel
theorem d_AT_give_22 : decode prog_2_method_2_code 22 = .ok (.getfield 17, 3) := by decide +kernel
theorem d_AT_give_25 : decode prog_2_method_2_code 25 = .ok (.invokevirtual 36, 3) := by decide +kernel
theorem d_AT_give_28 : decode prog_2_method_2_code 28 = .ok (.return_, 1) := by decide +kernel
theorem d_In_length_0 : decode prog_6_method_2_code 0 = .ok (.aload_n 0, 1) := by decide +kernel
theorem d_In_length_1 : decode prog_6_method_2_code 1 = .ok (.getfield 15, 3) := by decide +kernel
theorem d_In_length_4 : decode prog_6_method_2_code 4 = .ok (.ireturn, 1) := by decide +kernel
theorem d_IR_give_0 : decode prog_5_method_2_code 0 = .ok (.aload_n 0, 1) := by decide +kernel
theorem d_IR_give_1 : decode prog_5_method_2_code 1 = .ok (.getfield 13, 3) := by decide +kernel
theorem d_IR_give_4 : decode prog_5_method_2_code 4 = .ok (.aload_n 0, 1) := by decide +kernel
theorem d_IR_give_5 : decode prog_5_method_2_code 5 = .ok (.getfield 7, 3) := by decide +kernel
theorem d_IR_give_8 : decode prog_5_method_2_code 8 = .ok (.isub, 1) := by decide +kernel
theorem d_IR_give_9 : decode prog_5_method_2_code 9 = .ok (.istore_n 2, 1) := by decide +kernel
theorem d_IR_give_10 : decode prog_5_method_2_code 10 = .ok (.aload_n 1, 1) := by decide +kernel
theorem d_IR_give_11 : decode prog_5_method_2_code 11 = .ok (.aload_n 0, 1) := by decide +kernel
theorem d_IR_give_12 : decode prog_5_method_2_code 12 = .ok (.getfield 7, 3) := by decide +kernel
theorem d_IR_give_15 : decode prog_5_method_2_code 15 = .ok (.aload_n 1, 1) := by decide +kernel
theorem d_IR_give_16 : decode prog_5_method_2_code 16 = .ok (.iload_n 2, 1) := by decide +kernel
theorem d_IR_give_17 : decode prog_5_method_2_code 17 = .ok (.aload_n 1, 1) := by decide +kernel
theorem d_IR_give_18 : decode prog_5_method_2_code 18 = .ok (.iload_n 2, 1) := by decide +kernel
theorem d_IR_give_19 : decode prog_5_method_2_code 19 = .ok (.invokevirtual 16, 3) := by decide +kernel
theorem d_IR_give_22 : decode prog_5_method_2_code 22 = .ok (.invokevirtual 22, 3) := by decide +kernel
theorem d_IR_give_25 : decode prog_5_method_2_code 25 = .ok (.iadd, 1) := by decide +kernel
theorem d_IR_give_26 : decode prog_5_method_2_code 26 = .ok (.invokevirtual 26, 3) := by decide +kernel
theorem d_IR_give_29 : decode prog_5_method_2_code 29 = .ok (.return_, 1) := by decide +kernel
theorem d_Dr_sizedSpan_0 : decode prog_3_method_9_code 0 = .ok (.iload_n 1, 1) := by decide +kernel
theorem d_Dr_sizedSpan_1 : decode prog_3_method_9_code 1 = .ok (.aload_n 0, 1) := by decide +kernel
theorem d_Dr_sizedSpan_2 : decode prog_3_method_9_code 2 = .ok (.getfield 51, 3) := by decide +kernel
theorem d_Dr_sizedSpan_5 : decode prog_3_method_9_code 5 = .ok (.iconst 1, 1) := by decide +kernel
theorem d_Dr_sizedSpan_6 : decode prog_3_method_9_code 6 = .ok (.iadd, 1) := by decide +kernel
theorem d_Dr_sizedSpan_7 : decode prog_3_method_9_code 7 = .ok (.if_icmp .le 12, 3) := by decide +kernel
theorem d_Dr_sizedSpan_10 : decode prog_3_method_9_code 10 = .ok (.aload_n 0, 1) := by decide +kernel
theorem d_Dr_sizedSpan_11 : decode prog_3_method_9_code 11 = .ok (.getfield 51, 3) := by decide +kernel
theorem d_Dr_sizedSpan_14 : decode prog_3_method_9_code 14 = .ok (.iconst 2, 1) := by decide +kernel
theorem d_Dr_sizedSpan_15 : decode prog_3_method_9_code 15 = .ok (.iadd, 1) := by decide +kernel
theorem d_Dr_sizedSpan_16 : decode prog_3_method_9_code 16 = .ok (.goto 6, 3) := by decide +kernel
theorem d_Dr_sizedSpan_19 : decode prog_3_method_9_code 19 = .ok (.iload_n 1, 1) := by decide +kernel
theorem d_Dr_sizedSpan_20 : decode prog_3_method_9_code 20 = .ok (.iconst 1, 1) := by decide +kernel
theorem d_Dr_sizedSpan_21 : decode prog_3_method_9_code 21 = .ok (.iadd, 1) := by decide +kernel
theorem d_Dr_sizedSpan_22 : decode prog_3_method_9_code 22 = .ok (.ireturn, 1) := by decide +kernel
theorem d_Dr_draw_0 : decode prog_3_method_8_code 0 = .ok (.aload_n 0, 1) := by decide +kernel
theorem d_Dr_draw_1 : decode prog_3_method_8_code 1 = .ok (.getfield 36, 3) := by decide +kernel
theorem d_Dr_draw_4 : decode prog_3_method_8_code 4 = .ok (.ifCond .eq 5, 3) := by decide +kernel
theorem d_Dr_draw_7 : decode prog_3_method_8_code 7 = .ok (.iconst 0, 1) := by decide +kernel
theorem d_Dr_draw_8 : decode prog_3_method_8_code 8 = .ok (.ireturn, 1) := by decide +kernel
theorem d_Dr_draw_9 : decode prog_3_method_8_code 9 = .ok (.aload_n 0, 1) := by decide +kernel
theorem d_Dr_draw_10 : decode prog_3_method_8_code 10 = .ok (.getfield 12, 3) := by decide +kernel
theorem d_Dr_draw_13 : decode prog_3_method_8_code 13 = .ok (.invokevirtual 54, 3) := by decide +kernel
theorem d_Dr_draw_16 : decode prog_3_method_8_code 16 = .ok (.istore_n 3, 1) := by decide +kernel
theorem d_Dr_draw_17 : decode prog_3_method_8_code 17 = .ok (.aload_n 0, 1) := by decide +kernel
theorem d_Dr_draw_18 : decode prog_3_method_8_code 18 = .ok (.iload_n 3, 1) := by decide +kernel
theorem d_Dr_draw_19 : decode prog_3_method_8_code 19 = .ok (.iload_n 2, 1) := by decide +kernel
theorem d_Dr_draw_20 : decode prog_3_method_8_code 20 = .ok (.invokevirtual 66, 3) := by decide +kernel
theorem d_Dr_draw_23 : decode prog_3_method_8_code 23 = .ok (.istore 4, 2) := by decide +kernel
theorem d_Dr_draw_25 : decode prog_3_method_8_code 25 = .ok (.iload 4, 2) := by decide +kernel
theorem d_Dr_draw_27 : decode prog_3_method_8_code 27 = .ok (.ifCond .lt 30, 3) := by decide +kernel
theorem d_Dr_draw_30 : decode prog_3_method_8_code 30 = .ok (.iload 4, 2) := by decide +kernel
theorem d_Dr_draw_32 : decode prog_3_method_8_code 32 = .ok (.iload_n 1, 1) := by decide +kernel
theorem d_Dr_draw_33 : decode prog_3_method_8_code 33 = .ok (.if_icmp .gt 24, 3) := by decide +kernel
theorem d_Dr_draw_36 : decode prog_3_method_8_code 36 = .ok (.iload_n 3, 1) := by decide +kernel
theorem d_Dr_draw_37 : decode prog_3_method_8_code 37 = .ok (.aload_n 0, 1) := by decide +kernel
theorem d_Dr_draw_38 : decode prog_3_method_8_code 38 = .ok (.getfield 21, 3) := by decide +kernel
theorem d_Dr_draw_41 : decode prog_3_method_8_code 41 = .ok (.arraylength, 1) := by decide +kernel
theorem d_Dr_draw_42 : decode prog_3_method_8_code 42 = .ok (.if_icmp .ge 15, 3) := by decide +kernel
theorem d_Dr_draw_45 : decode prog_3_method_8_code 45 = .ok (.aload_n 0, 1) := by decide +kernel
theorem d_Dr_draw_46 : decode prog_3_method_8_code 46 = .ok (.getfield 12, 3) := by decide +kernel
theorem d_Dr_draw_49 : decode prog_3_method_8_code 49 = .ok (.iload 4, 2) := by decide +kernel
theorem d_Dr_draw_51 : decode prog_3_method_8_code 51 = .ok (.invokevirtual 62, 3) := by decide +kernel
theorem d_Dr_draw_54 : decode prog_3_method_8_code 54 = .ok (.ifCond .ne 10, 3) := by decide +kernel
theorem d_Dr_draw_57 : decode prog_3_method_8_code 57 = .ok (.aload_n 0, 1) := by decide +kernel
theorem d_Dr_draw_58 : decode prog_3_method_8_code 58 = .ok (.iconst 1, 1) := by decide +kernel
theorem d_Dr_draw_59 : decode prog_3_method_8_code 59 = .ok (.putfield 36, 3) := by decide +kernel
theorem d_Dr_draw_62 : decode prog_3_method_8_code 62 = .ok (.iconst 0, 1) := by decide +kernel
theorem d_Dr_draw_63 : decode prog_3_method_8_code 63 = .ok (.ireturn, 1) := by decide +kernel
theorem d_Dr_draw_64 : decode prog_3_method_8_code 64 = .ok (.aload_n 0, 1) := by decide +kernel
theorem d_Dr_draw_65 : decode prog_3_method_8_code 65 = .ok (.getfield 21, 3) := by decide +kernel
theorem d_Dr_draw_68 : decode prog_3_method_8_code 68 = .ok (.iload_n 3, 1) := by decide +kernel
theorem d_Dr_draw_69 : decode prog_3_method_8_code 69 = .ok (.iload_n 1, 1) := by decide +kernel
theorem d_Dr_draw_70 : decode prog_3_method_8_code 70 = .ok (.iastore, 1) := by decide +kernel
theorem d_Dr_draw_71 : decode prog_3_method_8_code 71 = .ok (.iload 4, 2) := by decide +kernel
theorem d_Dr_draw_73 : decode prog_3_method_8_code 73 = .ok (.ireturn, 1) := by decide +kernel
theorem d_Dr_pick_0 : decode prog_3_method_10_code 0 = .ok (.aload_n 0, 1) := by decide +kernel
theorem d_Dr_pick_1 : decode prog_3_method_10_code 1 = .ok (.getfield 28, 3) := by decide +kernel
theorem d_Dr_pick_4 : decode prog_3_method_10_code 4 = .ok (.lookupswitch 75 #[(1, 28), (2, 65)], 28) := by decide +kernel
theorem d_Dr_pick_32 : decode prog_3_method_10_code 32 = .ok (.aload_n 0, 1) := by decide +kernel
theorem d_Dr_pick_33 : decode prog_3_method_10_code 33 = .ok (.aload_n 0, 1) := by decide +kernel
theorem d_Dr_pick_34 : decode prog_3_method_10_code 34 = .ok (.getfield 47, 3) := by decide +kernel
theorem d_Dr_pick_37 : decode prog_3_method_10_code 37 = .ok (.ldc2_w 69, 3) := by decide +kernel
theorem d_Dr_pick_40 : decode prog_3_method_10_code 40 = .ok (.lmul, 1) := by decide +kernel
theorem d_Dr_pick_41 : decode prog_3_method_10_code 41 = .ok (.ldc2_w 71, 3) := by decide +kernel
theorem d_Dr_pick_44 : decode prog_3_method_10_code 44 = .ok (.ladd, 1) := by decide +kernel
theorem d_Dr_pick_45 : decode prog_3_method_10_code 45 = .ok (.putfield 47, 3) := by decide +kernel
theorem d_Dr_pick_48 : decode prog_3_method_10_code 48 = .ok (.iload_n 2, 1) := by decide +kernel
theorem d_Dr_pick_49 : decode prog_3_method_10_code 49 = .ok (.iconst 1, 1) := by decide +kernel
theorem d_Dr_pick_50 : decode prog_3_method_10_code 50 = .ok (.if_icmp .ge 7, 3) := by decide +kernel
theorem d_Dr_pick_53 : decode prog_3_method_10_code 53 = .ok (.iconst (-1), 1) := by decide +kernel
theorem d_Dr_pick_54 : decode prog_3_method_10_code 54 = .ok (.goto 14, 3) := by decide +kernel
theorem d_Dr_pick_57 : decode prog_3_method_10_code 57 = .ok (.aload_n 0, 1) := by decide +kernel
theorem d_Dr_pick_58 : decode prog_3_method_10_code 58 = .ok (.getfield 47, 3) := by decide +kernel
theorem d_Dr_pick_61 : decode prog_3_method_10_code 61 = .ok (.bipush 33, 2) := by decide +kernel
theorem d_Dr_pick_63 : decode prog_3_method_10_code 63 = .ok (.lushr, 1) := by decide +kernel
theorem d_Dr_pick_64 : decode prog_3_method_10_code 64 = .ok (.iload_n 2, 1) := by decide +kernel
theorem d_Dr_pick_65 : decode prog_3_method_10_code 65 = .ok (.i2l, 1) := by decide +kernel
theorem d_Dr_pick_66 : decode prog_3_method_10_code 66 = .ok (.lrem, 1) := by decide +kernel
theorem d_Dr_pick_67 : decode prog_3_method_10_code 67 = .ok (.l2i, 1) := by decide +kernel
theorem d_Dr_pick_68 : decode prog_3_method_10_code 68 = .ok (.ireturn, 1) := by decide +kernel
theorem d_Dr_pick_69 : decode prog_3_method_10_code 69 = .ok (.aload_n 0, 1) := by decide +kernel
theorem d_Dr_pick_70 : decode prog_3_method_10_code 70 = .ok (.getfield 25, 3) := by decide +kernel
theorem d_Dr_pick_73 : decode prog_3_method_10_code 73 = .ok (.iload_n 1, 1) := by decide +kernel
theorem d_Dr_pick_74 : decode prog_3_method_10_code 74 = .ok (.iconst 0, 1) := by decide +kernel
theorem d_Dr_pick_75 : decode prog_3_method_10_code 75 = .ok (.invokevirtual 58, 3) := by decide +kernel
theorem d_Dr_pick_78 : decode prog_3_method_10_code 78 = .ok (.ireturn, 1) := by decide +kernel
theorem d_Dr_pick_79 : decode prog_3_method_10_code 79 = .ok (.aload_n 0, 1) := by decide +kernel
theorem d_Dr_pick_80 : decode prog_3_method_10_code 80 = .ok (.getfield 25, 3) := by decide +kernel
theorem d_Dr_pick_83 : decode prog_3_method_10_code 83 = .ok (.iload_n 1, 1) := by decide +kernel
theorem d_Dr_pick_84 : decode prog_3_method_10_code 84 = .ok (.iconst (-1), 1) := by decide +kernel
theorem d_Dr_pick_85 : decode prog_3_method_10_code 85 = .ok (.invokevirtual 58, 3) := by decide +kernel
theorem d_Dr_pick_88 : decode prog_3_method_10_code 88 = .ok (.ireturn, 1) := by decide +kernel
theorem d_Dr_giveNumber_0 : decode prog_3_method_11_code 0 = .ok (.aload_n 0, 1) := by decide +kernel
theorem d_Dr_giveNumber_1 : decode prog_3_method_11_code 1 = .ok (.getfield 36, 3) := by decide +kernel
theorem d_Dr_giveNumber_4 : decode prog_3_method_11_code 4 = .ok (.ifCond .ne 14, 3) := by decide +kernel
theorem d_Dr_giveNumber_7 : decode prog_3_method_11_code 7 = .ok (.aload_n 0, 1) := by decide +kernel
theorem d_Dr_giveNumber_8 : decode prog_3_method_11_code 8 = .ok (.getfield 18, 3) := by decide +kernel
theorem d_Dr_giveNumber_11 : decode prog_3_method_11_code 11 = .ok (.iload_n 1, 1) := by decide +kernel
theorem d_Dr_giveNumber_12 : decode prog_3_method_11_code 12 = .ok (.invokevirtual 62, 3) := by decide +kernel
theorem d_Dr_giveNumber_15 : decode prog_3_method_11_code 15 = .ok (.ifCond .ne 8, 3) := by decide +kernel
theorem d_Dr_giveNumber_18 : decode prog_3_method_11_code 18 = .ok (.aload_n 0, 1) := by decide +kernel
theorem d_Dr_giveNumber_19 : decode prog_3_method_11_code 19 = .ok (.iconst 1, 1) := by decide +kernel
theorem d_Dr_giveNumber_20 : decode prog_3_method_11_code 20 = .ok (.putfield 36, 3) := by decide +kernel
theorem d_Dr_giveNumber_23 : decode prog_3_method_11_code 23 = .ok (.return_, 1) := by decide +kernel
theorem d_KO_give_0 : decode prog_7_method_2_code 0 = .ok (.aload_n 1, 1) := by decide +kernel
theorem d_KO_give_1 : decode prog_7_method_2_code 1 = .ok (.getfield 22, 3) := by decide +kernel
theorem d_KO_give_4 : decode prog_7_method_2_code 4 = .ok (.invokevirtual 28, 3) := by decide +kernel
theorem d_KO_give_7 : decode prog_7_method_2_code 7 = .ok (.istore_n 2, 1) := by decide +kernel
theorem d_KO_give_8 : decode prog_7_method_2_code 8 = .ok (.iconst 0, 1) := by decide +kernel
theorem d_KO_give_9 : decode prog_7_method_2_code 9 = .ok (.istore_n 3, 1) := by decide +kernel
theorem d_KO_give_10 : decode prog_7_method_2_code 10 = .ok (.iload_n 3, 1) := by decide +kernel
theorem d_KO_give_11 : decode prog_7_method_2_code 11 = .ok (.iconst 3, 1) := by decide +kernel
theorem d_KO_give_12 : decode prog_7_method_2_code 12 = .ok (.if_icmp .ge 52, 3) := by decide +kernel
theorem d_KO_give_15 : decode prog_7_method_2_code 15 = .ok (.aload_n 1, 1) := by decide +kernel
theorem d_KO_give_16 : decode prog_7_method_2_code 16 = .ok (.getfield 34, 3) := by decide +kernel
theorem d_KO_give_19 : decode prog_7_method_2_code 19 = .ok (.ifCond .ne 45, 3) := by decide +kernel
theorem d_KO_give_22 : decode prog_7_method_2_code 22 = .ok (.aload_n 1, 1) := by decide +kernel
theorem d_KO_give_23 : decode prog_7_method_2_code 23 = .ok (.getfield 22, 3) := by decide +kernel
theorem d_KO_give_26 : decode prog_7_method_2_code 26 = .ok (.iload_n 2, 1) := by decide +kernel
theorem d_KO_give_27 : decode prog_7_method_2_code 27 = .ok (.invokevirtual 38, 3) := by decide +kernel
theorem d_KO_give_30 : decode prog_7_method_2_code 30 = .ok (.aload_n 0, 1) := by decide +kernel
theorem d_KO_give_31 : decode prog_7_method_2_code 31 = .ok (.getfield 13, 3) := by decide +kernel
theorem d_KO_give_34 : decode prog_7_method_2_code 34 = .ok (.aload_n 1, 1) := by decide +kernel
theorem d_KO_give_35 : decode prog_7_method_2_code 35 = .ok (.invokevirtual 41, 3) := by decide +kernel
theorem d_KO_give_38 : decode prog_7_method_2_code 38 = .ok (.aload_n 1, 1) := by decide +kernel
theorem d_KO_give_39 : decode prog_7_method_2_code 39 = .ok (.getfield 22, 3) := by decide +kernel
theorem d_KO_give_42 : decode prog_7_method_2_code 42 = .ok (.iload_n 2, 1) := by decide +kernel
theorem d_KO_give_43 : decode prog_7_method_2_code 43 = .ok (.invokevirtual 45, 3) := by decide +kernel
theorem d_KO_give_46 : decode prog_7_method_2_code 46 = .ok (.lconst 1, 1) := by decide +kernel
theorem d_KO_give_47 : decode prog_7_method_2_code 47 = .ok (.land, 1) := by decide +kernel
theorem d_KO_give_48 : decode prog_7_method_2_code 48 = .ok (.aload_n 0, 1) := by decide +kernel
theorem d_KO_give_49 : decode prog_7_method_2_code 49 = .ok (.getfield 19, 3) := by decide +kernel
theorem d_KO_give_52 : decode prog_7_method_2_code 52 = .ok (.i2l, 1) := by decide +kernel
theorem d_KO_give_53 : decode prog_7_method_2_code 53 = .ok (.lcmp, 1) := by decide +kernel
theorem d_KO_give_54 : decode prog_7_method_2_code 54 = .ok (.ifCond .ne 4, 3) := by decide +kernel
theorem d_KO_give_57 : decode prog_7_method_2_code 57 = .ok (.return_, 1) := by decide +kernel
theorem d_KO_give_58 : decode prog_7_method_2_code 58 = .ok (.iinc 3 1, 3) := by decide +kernel
theorem d_KO_give_61 : decode prog_7_method_2_code 61 = .ok (.goto (-51), 3) := by decide +kernel
theorem d_KO_give_64 : decode prog_7_method_2_code 64 = .ok (.aload_n 1, 1) := by decide +kernel
theorem d_KO_give_65 : decode prog_7_method_2_code 65 = .ok (.iconst 1, 1) := by decide +kernel
theorem d_KO_give_66 : decode prog_7_method_2_code 66 = .ok (.putfield 34, 3) := by decide +kernel
theorem d_KO_give_69 : decode prog_7_method_2_code 69 = .ok (.return_, 1) := by decide +kernel
theorem d_LO_give_0 : decode prog_9_method_2_code 0 = .ok (.iconst 0, 1) := by decide +kernel
theorem d_LO_give_1 : decode prog_9_method_2_code 1 = .ok (.istore_n 2, 1) := by decide +kernel
theorem d_LO_give_2 : decode prog_9_method_2_code 2 = .ok (.iload_n 2, 1) := by decide +kernel
theorem d_LO_give_3 : decode prog_9_method_2_code 3 = .ok (.aload_n 0, 1) := by decide +kernel
theorem d_LO_give_4 : decode prog_9_method_2_code 4 = .ok (.getfield 17, 3) := by decide +kernel
theorem d_LO_give_7 : decode prog_9_method_2_code 7 = .ok (.if_icmp .ge 27, 3) := by decide +kernel
theorem d_LO_give_10 : decode prog_9_method_2_code 10 = .ok (.aload_n 1, 1) := by decide +kernel
theorem d_LO_give_11 : decode prog_9_method_2_code 11 = .ok (.iconst 1, 1) := by decide +kernel
theorem d_LO_give_12 : decode prog_9_method_2_code 12 = .ok (.iconst 2, 1) := by decide +kernel
theorem d_LO_give_13 : decode prog_9_method_2_code 13 = .ok (.invokevirtual 20, 3) := by decide +kernel
theorem d_LO_give_16 : decode prog_9_method_2_code 16 = .ok (.iconst 1, 1) := by decide +kernel
theorem d_LO_give_17 : decode prog_9_method_2_code 17 = .ok (.if_icmp .ne 17, 3) := by decide +kernel
theorem d_LO_give_20 : decode prog_9_method_2_code 20 = .ok (.aload_n 0, 1) := by decide +kernel
theorem d_LO_give_21 : decode prog_9_method_2_code 21 = .ok (.getfield 11, 3) := by decide +kernel
theorem d_LO_give_24 : decode prog_9_method_2_code 24 = .ok (.aload_n 1, 1) := by decide +kernel
theorem d_LO_give_25 : decode prog_9_method_2_code 25 = .ok (.invokevirtual 26, 3) := by decide +kernel
theorem d_LO_give_28 : decode prog_9_method_2_code 28 = .ok (.iinc 2 1, 3) := by decide +kernel
theorem d_LO_give_31 : decode prog_9_method_2_code 31 = .ok (.goto (-29), 3) := by decide +kernel
theorem d_LO_give_34 : decode prog_9_method_2_code 34 = .ok (.return_, 1) := by decide +kernel
theorem d_OO_give_0 : decode prog_10_method_2_code 0 = .ok (.aload_n 1, 1) := by decide +kernel
theorem d_OO_give_1 : decode prog_10_method_2_code 1 = .ok (.iconst 1, 1) := by decide +kernel
theorem d_OO_give_2 : decode prog_10_method_2_code 2 = .ok (.iconst 2, 1) := by decide +kernel
theorem d_OO_give_3 : decode prog_10_method_2_code 3 = .ok (.invokevirtual 26, 3) := by decide +kernel
theorem d_OO_give_6 : decode prog_10_method_2_code 6 = .ok (.istore_n 2, 1) := by decide +kernel
theorem d_OO_give_7 : decode prog_10_method_2_code 7 = .ok (.aload_n 1, 1) := by decide +kernel
theorem d_OO_give_8 : decode prog_10_method_2_code 8 = .ok (.getfield 31, 3) := by decide +kernel
theorem d_OO_give_11 : decode prog_10_method_2_code 11 = .ok (.ifCond .eq 4, 3) := by decide +kernel
theorem d_OO_give_14 : decode prog_10_method_2_code 14 = .ok (.return_, 1) := by decide +kernel
theorem d_OO_give_15 : decode prog_10_method_2_code 15 = .ok (.iload_n 2, 1) := by decide +kernel
theorem d_OO_give_16 : decode prog_10_method_2_code 16 = .ok (.ifCond .ne 14, 3) := by decide +kernel
theorem d_OO_give_19 : decode prog_10_method_2_code 19 = .ok (.aload_n 0, 1) := by decide +kernel
theorem d_OO_give_20 : decode prog_10_method_2_code 20 = .ok (.getfield 17, 3) := by decide +kernel
theorem d_OO_give_23 : decode prog_10_method_2_code 23 = .ok (.aload_n 1, 1) := by decide +kernel
theorem d_OO_give_24 : decode prog_10_method_2_code 24 = .ok (.invokevirtual 35, 3) := by decide +kernel
theorem d_OO_give_27 : decode prog_10_method_2_code 27 = .ok (.goto 11, 3) := by decide +kernel
theorem d_OO_give_30 : decode prog_10_method_2_code 30 = .ok (.aload_n 0, 1) := by decide +kernel
theorem d_OO_give_31 : decode prog_10_method_2_code 31 = .ok (.getfield 23, 3) := by decide +kernel
theorem d_OO_give_34 : decode prog_10_method_2_code 34 = .ok (.aload_n 1, 1) := by decide +kernel
theorem d_OO_give_35 : decode prog_10_method_2_code 35 = .ok (.invokevirtual 35, 3) := by decide +kernel
theorem d_OO_give_38 : decode prog_10_method_2_code 38 = .ok (.return_, 1) := by decide +kernel
theorem d_PO_give_0 : decode prog_11_method_2_code 0 = .ok (.aload_n 0, 1) := by decide +kernel
theorem d_PO_give_1 : decode prog_11_method_2_code 1 = .ok (.getfield 17, 3) := by decide +kernel
theorem d_PO_give_4 : decode prog_11_method_2_code 4 = .ok (.aload_n 1, 1) := by decide +kernel
theorem d_PO_give_5 : decode prog_11_method_2_code 5 = .ok (.invokevirtual 26, 3) := by decide +kernel
theorem d_PO_give_8 : decode prog_11_method_2_code 8 = .ok (.aload_n 1, 1) := by decide +kernel
theorem d_PO_give_9 : decode prog_11_method_2_code 9 = .ok (.getfield 30, 3) := by decide +kernel
theorem d_PO_give_12 : decode prog_11_method_2_code 12 = .ok (.ifCond .ne 11, 3) := by decide +kernel
theorem d_PO_give_15 : decode prog_11_method_2_code 15 = .ok (.aload_n 0, 1) := by decide +kernel
theorem d_PO_give_16 : decode prog_11_method_2_code 16 = .ok (.getfield 23, 3) := by decide +kernel
theorem d_PO_give_19 : decode prog_11_method_2_code 19 = .ok (.aload_n 1, 1) := by decide +kernel
theorem d_PO_give_20 : decode prog_11_method_2_code 20 = .ok (.invokevirtual 26, 3) := by decide +kernel
theorem d_PO_give_23 : decode prog_11_method_2_code 23 = .ok (.return_, 1) := by decide +kernel
theorem d_In_totalFrom_0 : decode prog_6_method_9_code 0 = .ok (.lconst 0, 1) := by decide +kernel
theorem d_In_totalFrom_1 : decode prog_6_method_9_code 1 = .ok (.lstore_n 2, 1) := by decide +kernel
theorem d_In_totalFrom_2 : decode prog_6_method_9_code 2 = .ok (.iload_n 1, 1) := by decide +kernel
theorem d_In_totalFrom_3 : decode prog_6_method_9_code 3 = .ok (.istore 4, 2) := by decide +kernel
theorem d_In_totalFrom_5 : decode prog_6_method_9_code 5 = .ok (.iload 4, 2) := by decide +kernel
theorem d_In_totalFrom_7 : decode prog_6_method_9_code 7 = .ok (.aload_n 0, 1) := by decide +kernel
theorem d_In_totalFrom_8 : decode prog_6_method_9_code 8 = .ok (.getfield 15, 3) := by decide +kernel
theorem d_In_totalFrom_11 : decode prog_6_method_9_code 11 = .ok (.if_icmp .ge 20, 3) := by decide +kernel
theorem d_In_totalFrom_14 : decode prog_6_method_9_code 14 = .ok (.lload_n 2, 1) := by decide +kernel
theorem d_In_totalFrom_15 : decode prog_6_method_9_code 15 = .ok (.aload_n 0, 1) := by decide +kernel
theorem d_In_totalFrom_16 : decode prog_6_method_9_code 16 = .ok (.iload 4, 2) := by decide +kernel
theorem d_In_totalFrom_18 : decode prog_6_method_9_code 18 = .ok (.iconst 0, 1) := by decide +kernel
theorem d_In_totalFrom_19 : decode prog_6_method_9_code 19 = .ok (.invokevirtual 32, 3) := by decide +kernel
theorem d_In_totalFrom_22 : decode prog_6_method_9_code 22 = .ok (.i2l, 1) := by decide +kernel
theorem d_In_totalFrom_23 : decode prog_6_method_9_code 23 = .ok (.ladd, 1) := by decide +kernel
theorem d_In_totalFrom_24 : decode prog_6_method_9_code 24 = .ok (.lstore_n 2, 1) := by decide +kernel
theorem d_In_totalFrom_25 : decode prog_6_method_9_code 25 = .ok (.iinc 4 1, 3) := by decide +kernel
theorem d_In_totalFrom_28 : decode prog_6_method_9_code 28 = .ok (.goto (-23), 3) := by decide +kernel
theorem d_In_totalFrom_31 : decode prog_6_method_9_code 31 = .ok (.lload_n 2, 1) := by decide +kernel
theorem d_In_totalFrom_32 : decode prog_6_method_9_code 32 = .ok (.lreturn, 1) := by decide +kernel
theorem d_In_raiseFrom_0 : decode prog_6_method_10_code 0 = .ok (.iload_n 1, 1) := by decide +kernel
theorem d_In_raiseFrom_1 : decode prog_6_method_10_code 1 = .ok (.istore_n 3, 1) := by decide +kernel
theorem d_In_raiseFrom_2 : decode prog_6_method_10_code 2 = .ok (.iload_n 3, 1) := by decide +kernel
theorem d_In_raiseFrom_3 : decode prog_6_method_10_code 3 = .ok (.aload_n 0, 1) := by decide +kernel
theorem d_In_raiseFrom_4 : decode prog_6_method_10_code 4 = .ok (.getfield 15, 3) := by decide +kernel
theorem d_In_raiseFrom_7 : decode prog_6_method_10_code 7 = .ok (.if_icmp .ge 22, 3) := by decide +kernel
theorem d_In_raiseFrom_10 : decode prog_6_method_10_code 10 = .ok (.aload_n 0, 1) := by decide +kernel
theorem d_In_raiseFrom_11 : decode prog_6_method_10_code 11 = .ok (.iload_n 3, 1) := by decide +kernel
theorem d_In_raiseFrom_12 : decode prog_6_method_10_code 12 = .ok (.aload_n 0, 1) := by decide +kernel
theorem d_In_raiseFrom_13 : decode prog_6_method_10_code 13 = .ok (.iload_n 3, 1) := by decide +kernel
theorem d_In_raiseFrom_14 : decode prog_6_method_10_code 14 = .ok (.iconst 0, 1) := by decide +kernel
theorem d_In_raiseFrom_15 : decode prog_6_method_10_code 15 = .ok (.invokevirtual 32, 3) := by decide +kernel
theorem d_In_raiseFrom_18 : decode prog_6_method_10_code 18 = .ok (.iload_n 2, 1) := by decide +kernel
theorem d_In_raiseFrom_19 : decode prog_6_method_10_code 19 = .ok (.iadd, 1) := by decide +kernel
theorem d_In_raiseFrom_20 : decode prog_6_method_10_code 20 = .ok (.invokevirtual 39, 3) := by decide +kernel
theorem d_In_raiseFrom_23 : decode prog_6_method_10_code 23 = .ok (.iinc 3 1, 3) := by decide +kernel
theorem d_In_raiseFrom_26 : decode prog_6_method_10_code 26 = .ok (.goto (-24), 3) := by decide +kernel
theorem d_In_raiseFrom_29 : decode prog_6_method_10_code 29 = .ok (.return_, 1) := by decide +kernel
theorem d_In_set_0 : decode prog_6_method_4_code 0 = .ok (.iload_n 1, 1) := by decide +kernel
theorem d_In_set_1 : decode prog_6_method_4_code 1 = .ok (.ifCond .lt 27, 3) := by decide +kernel
theorem d_In_set_4 : decode prog_6_method_4_code 4 = .ok (.iload_n 1, 1) := by decide +kernel
theorem d_In_set_5 : decode prog_6_method_4_code 5 = .ok (.aload_n 0, 1) := by decide +kernel
theorem d_In_set_6 : decode prog_6_method_4_code 6 = .ok (.getfield 15, 3) := by decide +kernel
theorem d_In_set_9 : decode prog_6_method_4_code 9 = .ok (.if_icmp .ge 19, 3) := by decide +kernel
theorem d_In_set_12 : decode prog_6_method_4_code 12 = .ok (.iload_n 1, 1) := by decide +kernel
theorem d_In_set_13 : decode prog_6_method_4_code 13 = .ok (.aload_n 0, 1) := by decide +kernel
theorem d_In_set_14 : decode prog_6_method_4_code 14 = .ok (.getfield 9, 3) := by decide +kernel
theorem d_In_set_17 : decode prog_6_method_4_code 17 = .ok (.arraylength, 1) := by decide +kernel
theorem d_In_set_18 : decode prog_6_method_4_code 18 = .ok (.if_icmp .ge 10, 3) := by decide +kernel
theorem d_In_set_21 : decode prog_6_method_4_code 21 = .ok (.aload_n 0, 1) := by decide +kernel
theorem d_In_set_22 : decode prog_6_method_4_code 22 = .ok (.getfield 9, 3) := by decide +kernel
theorem d_In_set_25 : decode prog_6_method_4_code 25 = .ok (.iload_n 1, 1) := by decide +kernel
theorem d_In_set_26 : decode prog_6_method_4_code 26 = .ok (.iload_n 2, 1) := by decide +kernel
theorem d_In_set_27 : decode prog_6_method_4_code 27 = .ok (.iastore, 1) := by decide +kernel
theorem d_In_set_28 : decode prog_6_method_4_code 28 = .ok (.return_, 1) := by decide +kernel
theorem d_Pr_judge_0 : decode prog_12_method_2_code 0 = .ok (.aload_n 1, 1) := by decide +kernel
theorem d_Pr_judge_1 : decode prog_12_method_2_code 1 = .ok (.invokevirtual 21, 3) := by decide +kernel
theorem d_Pr_judge_4 : decode prog_12_method_2_code 4 = .ok (.aload_n 0, 1) := by decide +kernel
theorem d_Pr_judge_5 : decode prog_12_method_2_code 5 = .ok (.getfield 18, 3) := by decide +kernel
theorem d_Pr_judge_8 : decode prog_12_method_2_code 8 = .ok (.if_icmp .ge 5, 3) := by decide +kernel
theorem d_Pr_judge_11 : decode prog_12_method_2_code 11 = .ok (.iconst 3, 1) := by decide +kernel
theorem d_Pr_judge_12 : decode prog_12_method_2_code 12 = .ok (.ireturn, 1) := by decide +kernel
theorem d_Pr_judge_13 : decode prog_12_method_2_code 13 = .ok (.aload_n 0, 1) := by decide +kernel
theorem d_Pr_judge_14 : decode prog_12_method_2_code 14 = .ok (.getfield 9, 3) := by decide +kernel
theorem d_Pr_judge_17 : decode prog_12_method_2_code 17 = .ok (.tableswitch 98 0 3 #[31, 51, 68, 81], 31) := by decide +kernel
theorem d_Pr_judge_48 : decode prog_12_method_2_code 48 = .ok (.aload_n 1, 1) := by decide +kernel
theorem d_Pr_judge_49 : decode prog_12_method_2_code 49 = .ok (.iconst 0, 1) := by decide +kernel
theorem d_Pr_judge_50 : decode prog_12_method_2_code 50 = .ok (.invokevirtual 27, 3) := by decide +kernel
theorem d_Pr_judge_53 : decode prog_12_method_2_code 53 = .ok (.aload_n 0, 1) := by decide +kernel
theorem d_Pr_judge_54 : decode prog_12_method_2_code 54 = .ok (.getfield 15, 3) := by decide +kernel
theorem d_Pr_judge_57 : decode prog_12_method_2_code 57 = .ok (.i2l, 1) := by decide +kernel
theorem d_Pr_judge_58 : decode prog_12_method_2_code 58 = .ok (.lcmp, 1) := by decide +kernel
theorem d_Pr_judge_59 : decode prog_12_method_2_code 59 = .ok (.ifCond .le 7, 3) := by decide +kernel
theorem d_Pr_judge_62 : decode prog_12_method_2_code 62 = .ok (.iconst 1, 1) := by decide +kernel
theorem d_Pr_judge_63 : decode prog_12_method_2_code 63 = .ok (.goto 4, 3) := by decide +kernel
theorem d_Pr_judge_66 : decode prog_12_method_2_code 66 = .ok (.iconst 0, 1) := by decide +kernel
theorem d_Pr_judge_67 : decode prog_12_method_2_code 67 = .ok (.ireturn, 1) := by decide +kernel
theorem d_Pr_judge_68 : decode prog_12_method_2_code 68 = .ok (.aload_n 1, 1) := by decide +kernel
theorem d_Pr_judge_69 : decode prog_12_method_2_code 69 = .ok (.aload_n 0, 1) := by decide +kernel
theorem d_Pr_judge_70 : decode prog_12_method_2_code 70 = .ok (.getfield 15, 3) := by decide +kernel
theorem d_Pr_judge_73 : decode prog_12_method_2_code 73 = .ok (.invokevirtual 31, 3) := by decide +kernel
theorem d_Pr_judge_76 : decode prog_12_method_2_code 76 = .ok (.ifCond .eq 7, 3) := by decide +kernel
theorem d_Pr_judge_79 : decode prog_12_method_2_code 79 = .ok (.iconst 1, 1) := by decide +kernel
theorem d_Pr_judge_80 : decode prog_12_method_2_code 80 = .ok (.goto 4, 3) := by decide +kernel
theorem d_Pr_judge_83 : decode prog_12_method_2_code 83 = .ok (.iconst 0, 1) := by decide +kernel
theorem d_Pr_judge_84 : decode prog_12_method_2_code 84 = .ok (.ireturn, 1) := by decide +kernel
theorem d_Pr_judge_85 : decode prog_12_method_2_code 85 = .ok (.aload_n 1, 1) := by decide +kernel
theorem d_Pr_judge_86 : decode prog_12_method_2_code 86 = .ok (.invokevirtual 35, 3) := by decide +kernel
theorem d_Pr_judge_89 : decode prog_12_method_2_code 89 = .ok (.ifCond .eq 7, 3) := by decide +kernel
theorem d_Pr_judge_92 : decode prog_12_method_2_code 92 = .ok (.iconst 1, 1) := by decide +kernel
theorem d_Pr_judge_93 : decode prog_12_method_2_code 93 = .ok (.goto 4, 3) := by decide +kernel
theorem d_Pr_judge_96 : decode prog_12_method_2_code 96 = .ok (.iconst 0, 1) := by decide +kernel
theorem d_Pr_judge_97 : decode prog_12_method_2_code 97 = .ok (.ireturn, 1) := by decide +kernel
theorem d_Pr_judge_98 : decode prog_12_method_2_code 98 = .ok (.aload_n 1, 1) := by decide +kernel
theorem d_Pr_judge_99 : decode prog_12_method_2_code 99 = .ok (.invokevirtual 21, 3) := by decide +kernel
theorem d_Pr_judge_102 : decode prog_12_method_2_code 102 = .ok (.aload_n 0, 1) := by decide +kernel
theorem d_Pr_judge_103 : decode prog_12_method_2_code 103 = .ok (.getfield 15, 3) := by decide +kernel
theorem d_Pr_judge_106 : decode prog_12_method_2_code 106 = .ok (.if_icmp .lt 7, 3) := by decide +kernel
theorem d_Pr_judge_109 : decode prog_12_method_2_code 109 = .ok (.iconst 1, 1) := by decide +kernel
theorem d_Pr_judge_110 : decode prog_12_method_2_code 110 = .ok (.goto 4, 3) := by decide +kernel
theorem d_Pr_judge_113 : decode prog_12_method_2_code 113 = .ok (.iconst 0, 1) := by decide +kernel
theorem d_Pr_judge_114 : decode prog_12_method_2_code 114 = .ok (.ireturn, 1) := by decide +kernel
theorem d_Pr_judge_115 : decode prog_12_method_2_code 115 = .ok (.aload_n 1, 1) := by decide +kernel
theorem d_Pr_judge_116 : decode prog_12_method_2_code 116 = .ok (.aload_n 0, 1) := by decide +kernel
theorem d_Pr_judge_117 : decode prog_12_method_2_code 117 = .ok (.getfield 15, 3) := by decide +kernel
theorem d_Pr_judge_120 : decode prog_12_method_2_code 120 = .ok (.invokevirtual 31, 3) := by decide +kernel
theorem d_Pr_judge_123 : decode prog_12_method_2_code 123 = .ok (.ifCond .eq 7, 3) := by decide +kernel
theorem d_Pr_judge_126 : decode prog_12_method_2_code 126 = .ok (.iconst 2, 1) := by decide +kernel
theorem d_Pr_judge_127 : decode prog_12_method_2_code 127 = .ok (.goto 4, 3) := by decide +kernel
theorem d_Pr_judge_130 : decode prog_12_method_2_code 130 = .ok (.iconst 0, 1) := by decide +kernel
theorem d_Pr_judge_131 : decode prog_12_method_2_code 131 = .ok (.ireturn, 1) := by decide +kernel
theorem d_In_has_0 : decode prog_6_method_11_code 0 = .ok (.iconst 0, 1) := by decide +kernel
theorem d_In_has_1 : decode prog_6_method_11_code 1 = .ok (.istore_n 2, 1) := by decide +kernel
theorem d_In_has_2 : decode prog_6_method_11_code 2 = .ok (.iload_n 2, 1) := by decide +kernel
theorem d_In_has_3 : decode prog_6_method_11_code 3 = .ok (.aload_n 0, 1) := by decide +kernel
theorem d_In_has_4 : decode prog_6_method_11_code 4 = .ok (.getfield 15, 3) := by decide +kernel
theorem d_In_has_7 : decode prog_6_method_11_code 7 = .ok (.if_icmp .ge 21, 3) := by decide +kernel
theorem d_In_has_10 : decode prog_6_method_11_code 10 = .ok (.aload_n 0, 1) := by decide +kernel
theorem d_In_has_11 : decode prog_6_method_11_code 11 = .ok (.iload_n 2, 1) := by decide +kernel
theorem d_In_has_12 : decode prog_6_method_11_code 12 = .ok (.iconst 0, 1) := by decide +kernel
theorem d_In_has_13 : decode prog_6_method_11_code 13 = .ok (.invokevirtual 32, 3) := by decide +kernel
theorem d_In_has_16 : decode prog_6_method_11_code 16 = .ok (.iload_n 1, 1) := by decide +kernel
theorem d_In_has_17 : decode prog_6_method_11_code 17 = .ok (.if_icmp .ne 5, 3) := by decide +kernel
theorem d_In_has_20 : decode prog_6_method_11_code 20 = .ok (.iconst 1, 1) := by decide +kernel
theorem d_In_has_21 : decode prog_6_method_11_code 21 = .ok (.ireturn, 1) := by decide +kernel
theorem d_In_has_22 : decode prog_6_method_11_code 22 = .ok (.iinc 2 1, 3) := by decide +kernel
theorem d_In_has_25 : decode prog_6_method_11_code 25 = .ok (.goto (-23), 3) := by decide +kernel
theorem d_In_has_28 : decode prog_6_method_11_code 28 = .ok (.iconst 0, 1) := by decide +kernel
theorem d_In_has_29 : decode prog_6_method_11_code 29 = .ok (.ireturn, 1) := by decide +kernel
theorem d_In_falls_0 : decode prog_6_method_12_code 0 = .ok (.iconst 1, 1) := by decide +kernel
theorem d_In_falls_1 : decode prog_6_method_12_code 1 = .ok (.istore_n 1, 1) := by decide +kernel
theorem d_In_falls_2 : decode prog_6_method_12_code 2 = .ok (.iload_n 1, 1) := by decide +kernel
theorem d_In_falls_3 : decode prog_6_method_12_code 3 = .ok (.aload_n 0, 1) := by decide +kernel
theorem d_In_falls_4 : decode prog_6_method_12_code 4 = .ok (.getfield 15, 3) := by decide +kernel
theorem d_In_falls_7 : decode prog_6_method_12_code 7 = .ok (.if_icmp .ge 28, 3) := by decide +kernel
theorem d_In_falls_10 : decode prog_6_method_12_code 10 = .ok (.aload_n 0, 1) := by decide +kernel
theorem d_In_falls_11 : decode prog_6_method_12_code 11 = .ok (.iload_n 1, 1) := by decide +kernel
theorem d_In_falls_12 : decode prog_6_method_12_code 12 = .ok (.iconst 0, 1) := by decide +kernel
theorem d_In_falls_13 : decode prog_6_method_12_code 13 = .ok (.invokevirtual 32, 3) := by decide +kernel
theorem d_In_falls_16 : decode prog_6_method_12_code 16 = .ok (.aload_n 0, 1) := by decide +kernel
theorem d_In_falls_17 : decode prog_6_method_12_code 17 = .ok (.iload_n 1, 1) := by decide +kernel
theorem d_In_falls_18 : decode prog_6_method_12_code 18 = .ok (.iconst 1, 1) := by decide +kernel
theorem d_In_falls_19 : decode prog_6_method_12_code 19 = .ok (.isub, 1) := by decide +kernel
theorem d_In_falls_20 : decode prog_6_method_12_code 20 = .ok (.iconst 0, 1) := by decide +kernel
theorem d_In_falls_21 : decode prog_6_method_12_code 21 = .ok (.invokevirtual 32, 3) := by decide +kernel
theorem d_In_falls_24 : decode prog_6_method_12_code 24 = .ok (.if_icmp .ge 5, 3) := by decide +kernel
theorem d_In_falls_27 : decode prog_6_method_12_code 27 = .ok (.iconst 1, 1) := by decide +kernel
theorem d_In_falls_28 : decode prog_6_method_12_code 28 = .ok (.ireturn, 1) := by decide +kernel
theorem d_In_falls_29 : decode prog_6_method_12_code 29 = .ok (.iinc 1 1, 3) := by decide +kernel
theorem d_In_falls_32 : decode prog_6_method_12_code 32 = .ok (.goto (-30), 3) := by decide +kernel
theorem d_In_falls_35 : decode prog_6_method_12_code 35 = .ok (.iconst 0, 1) := by decide +kernel
theorem d_In_falls_36 : decode prog_6_method_12_code 36 = .ok (.ireturn, 1) := by decide +kernel
theorem d_Dr_sow_0 : decode prog_3_method_4_code 0 = .ok (.aload_n 0, 1) := by decide +kernel
theorem d_Dr_sow_1 : decode prog_3_method_4_code 1 = .ok (.lload_n 1, 1) := by decide +kernel
theorem d_Dr_sow_2 : decode prog_3_method_4_code 2 = .ok (.putfield 47, 3) := by decide +kernel
theorem d_Dr_sow_5 : decode prog_3_method_4_code 5 = .ok (.return_, 1) := by decide +kernel
theorem d_Dr_beginTry_0 : decode prog_3_method_5_code 0 = .ok (.aload_n 0, 1) := by decide +kernel
theorem d_Dr_beginTry_1 : decode prog_3_method_5_code 1 = .ok (.iload_n 1, 1) := by decide +kernel
theorem d_Dr_beginTry_2 : decode prog_3_method_5_code 2 = .ok (.putfield 51, 3) := by decide +kernel
theorem d_Dr_beginTry_5 : decode prog_3_method_5_code 5 = .ok (.aload_n 0, 1) := by decide +kernel
theorem d_Dr_beginTry_6 : decode prog_3_method_5_code 6 = .ok (.iconst 1, 1) := by decide +kernel
theorem d_Dr_beginTry_7 : decode prog_3_method_5_code 7 = .ok (.invokevirtual 44, 3) := by decide +kernel
theorem d_Dr_beginTry_10 : decode prog_3_method_5_code 10 = .ok (.return_, 1) := by decide +kernel
theorem d_Kp_init_0 : decode prog_8_method_1_code 0 = .ok (.aload_n 0, 1) := by decide +kernel
theorem d_Kp_init_1 : decode prog_8_method_1_code 1 = .ok (.invokespecial 1, 3) := by decide +kernel
theorem d_Kp_init_4 : decode prog_8_method_1_code 4 = .ok (.aload_n 0, 1) := by decide +kernel
theorem d_Kp_init_5 : decode prog_8_method_1_code 5 = .ok (.new 7, 3) := by decide +kernel
theorem d_Kp_init_8 : decode prog_8_method_1_code 8 = .ok (.dup, 1) := by decide +kernel
theorem d_Kp_init_9 : decode prog_8_method_1_code 9 = .ok (.invokespecial 9, 3) := by decide +kernel
theorem d_Kp_init_12 : decode prog_8_method_1_code 12 = .ok (.putfield 10, 3) := by decide +kernel
theorem d_Kp_init_15 : decode prog_8_method_1_code 15 = .ok (.aload_n 0, 1) := by decide +kernel
theorem d_Kp_init_16 : decode prog_8_method_1_code 16 = .ok (.iload_n 1, 1) := by decide +kernel
theorem d_Kp_init_17 : decode prog_8_method_1_code 17 = .ok (.putfield 16, 3) := by decide +kernel
theorem d_Kp_init_20 : decode prog_8_method_1_code 20 = .ok (.aload_n 0, 1) := by decide +kernel
theorem d_Kp_init_21 : decode prog_8_method_1_code 21 = .ok (.iload_n 2, 1) := by decide +kernel
theorem d_Kp_init_22 : decode prog_8_method_1_code 22 = .ok (.putfield 20, 3) := by decide +kernel
theorem d_Kp_init_25 : decode prog_8_method_1_code 25 = .ok (.aload_n 0, 1) := by decide +kernel
theorem d_Kp_init_26 : decode prog_8_method_1_code 26 = .ok (.aload 4, 2) := by decide +kernel
theorem d_Kp_init_28 : decode prog_8_method_1_code 28 = .ok (.putfield 23, 3) := by decide +kernel
theorem d_Kp_init_31 : decode prog_8_method_1_code 31 = .ok (.aload_n 0, 1) := by decide +kernel
theorem d_Kp_init_32 : decode prog_8_method_1_code 32 = .ok (.getfield 10, 3) := by decide +kernel
theorem d_Kp_init_35 : decode prog_8_method_1_code 35 = .ok (.aload_n 3, 1) := by decide +kernel
theorem d_Kp_init_36 : decode prog_8_method_1_code 36 = .ok (.invokevirtual 27, 3) := by decide +kernel
theorem d_Kp_init_39 : decode prog_8_method_1_code 39 = .ok (.return_, 1) := by decide +kernel
theorem d_Dr_beginFirstTurn_0 : decode prog_3_method_6_code 0 = .ok (.aload_n 0, 1) := by decide +kernel
theorem d_Dr_beginFirstTurn_1 : decode prog_3_method_6_code 1 = .ok (.getfield 25, 3) := by decide +kernel
theorem d_Dr_beginFirstTurn_4 : decode prog_3_method_6_code 4 = .ok (.iconst 0, 1) := by decide +kernel
theorem d_Dr_beginFirstTurn_5 : decode prog_3_method_6_code 5 = .ok (.invokevirtual 32, 3) := by decide +kernel
theorem d_Dr_beginFirstTurn_8 : decode prog_3_method_6_code 8 = .ok (.aload_n 0, 1) := by decide +kernel
theorem d_Dr_beginFirstTurn_9 : decode prog_3_method_6_code 9 = .ok (.iconst 2, 1) := by decide +kernel
theorem d_Dr_beginFirstTurn_10 : decode prog_3_method_6_code 10 = .ok (.invokevirtual 44, 3) := by decide +kernel
theorem d_Dr_beginFirstTurn_13 : decode prog_3_method_6_code 13 = .ok (.return_, 1) := by decide +kernel
theorem d_Dr_beginNextTurn_0 : decode prog_3_method_7_code 0 = .ok (.aload_n 0, 1) := by decide +kernel
theorem d_Dr_beginNextTurn_1 : decode prog_3_method_7_code 1 = .ok (.getfield 12, 3) := by decide +kernel
theorem d_Dr_beginNextTurn_4 : decode prog_3_method_7_code 4 = .ok (.invokevirtual 54, 3) := by decide +kernel
theorem d_Dr_beginNextTurn_7 : decode prog_3_method_7_code 7 = .ok (.iconst 1, 1) := by decide +kernel
theorem d_Dr_beginNextTurn_8 : decode prog_3_method_7_code 8 = .ok (.isub, 1) := by decide +kernel
theorem d_Dr_beginNextTurn_9 : decode prog_3_method_7_code 9 = .ok (.istore_n 1, 1) := by decide +kernel
theorem d_Dr_beginNextTurn_10 : decode prog_3_method_7_code 10 = .ok (.iload_n 1, 1) := by decide +kernel
theorem d_Dr_beginNextTurn_11 : decode prog_3_method_7_code 11 = .ok (.ifCond .lt 75, 3) := by decide +kernel
theorem d_Dr_beginNextTurn_14 : decode prog_3_method_7_code 14 = .ok (.iload_n 1, 1) := by decide +kernel
theorem d_Dr_beginNextTurn_15 : decode prog_3_method_7_code 15 = .ok (.aload_n 0, 1) := by decide +kernel
theorem d_Dr_beginNextTurn_16 : decode prog_3_method_7_code 16 = .ok (.getfield 21, 3) := by decide +kernel
theorem d_Dr_beginNextTurn_19 : decode prog_3_method_7_code 19 = .ok (.arraylength, 1) := by decide +kernel
theorem d_Dr_beginNextTurn_20 : decode prog_3_method_7_code 20 = .ok (.if_icmp .ge 66, 3) := by decide +kernel
theorem d_Dr_beginNextTurn_23 : decode prog_3_method_7_code 23 = .ok (.aload_n 0, 1) := by decide +kernel
theorem d_Dr_beginNextTurn_24 : decode prog_3_method_7_code 24 = .ok (.getfield 12, 3) := by decide +kernel
theorem d_Dr_beginNextTurn_27 : decode prog_3_method_7_code 27 = .ok (.iload_n 1, 1) := by decide +kernel
theorem d_Dr_beginNextTurn_28 : decode prog_3_method_7_code 28 = .ok (.iconst 0, 1) := by decide +kernel
theorem d_Dr_beginNextTurn_29 : decode prog_3_method_7_code 29 = .ok (.invokevirtual 58, 3) := by decide +kernel
theorem d_Dr_beginNextTurn_32 : decode prog_3_method_7_code 32 = .ok (.istore_n 2, 1) := by decide +kernel
theorem d_Dr_beginNextTurn_33 : decode prog_3_method_7_code 33 = .ok (.iload_n 2, 1) := by decide +kernel
theorem d_Dr_beginNextTurn_34 : decode prog_3_method_7_code 34 = .ok (.aload_n 0, 1) := by decide +kernel
theorem d_Dr_beginNextTurn_35 : decode prog_3_method_7_code 35 = .ok (.getfield 21, 3) := by decide +kernel
theorem d_Dr_beginNextTurn_38 : decode prog_3_method_7_code 38 = .ok (.iload_n 1, 1) := by decide +kernel
theorem d_Dr_beginNextTurn_39 : decode prog_3_method_7_code 39 = .ok (.iaload, 1) := by decide +kernel
theorem d_Dr_beginNextTurn_40 : decode prog_3_method_7_code 40 = .ok (.if_icmp .ge 40, 3) := by decide +kernel
theorem d_Dr_beginNextTurn_43 : decode prog_3_method_7_code 43 = .ok (.aload_n 0, 1) := by decide +kernel
theorem d_Dr_beginNextTurn_44 : decode prog_3_method_7_code 44 = .ok (.getfield 25, 3) := by decide +kernel
theorem d_Dr_beginNextTurn_47 : decode prog_3_method_7_code 47 = .ok (.aload_n 0, 1) := by decide +kernel
theorem d_Dr_beginNextTurn_48 : decode prog_3_method_7_code 48 = .ok (.getfield 12, 3) := by decide +kernel
theorem d_Dr_beginNextTurn_51 : decode prog_3_method_7_code 51 = .ok (.invokevirtual 40, 3) := by decide +kernel
theorem d_Dr_beginNextTurn_54 : decode prog_3_method_7_code 54 = .ok (.aload_n 0, 1) := by decide +kernel
theorem d_Dr_beginNextTurn_55 : decode prog_3_method_7_code 55 = .ok (.getfield 25, 3) := by decide +kernel
theorem d_Dr_beginNextTurn_58 : decode prog_3_method_7_code 58 = .ok (.iload_n 1, 1) := by decide +kernel
theorem d_Dr_beginNextTurn_59 : decode prog_3_method_7_code 59 = .ok (.invokevirtual 32, 3) := by decide +kernel
theorem d_Dr_beginNextTurn_62 : decode prog_3_method_7_code 62 = .ok (.aload_n 0, 1) := by decide +kernel
theorem d_Dr_beginNextTurn_63 : decode prog_3_method_7_code 63 = .ok (.getfield 25, 3) := by decide +kernel
theorem d_Dr_beginNextTurn_66 : decode prog_3_method_7_code 66 = .ok (.iload_n 2, 1) := by decide +kernel
theorem d_Dr_beginNextTurn_67 : decode prog_3_method_7_code 67 = .ok (.iconst 1, 1) := by decide +kernel
theorem d_Dr_beginNextTurn_68 : decode prog_3_method_7_code 68 = .ok (.iadd, 1) := by decide +kernel
theorem d_Dr_beginNextTurn_69 : decode prog_3_method_7_code 69 = .ok (.invokevirtual 62, 3) := by decide +kernel
theorem d_Dr_beginNextTurn_72 : decode prog_3_method_7_code 72 = .ok (.pop, 1) := by decide +kernel
theorem d_Dr_beginNextTurn_73 : decode prog_3_method_7_code 73 = .ok (.aload_n 0, 1) := by decide +kernel
theorem d_Dr_beginNextTurn_74 : decode prog_3_method_7_code 74 = .ok (.iconst 2, 1) := by decide +kernel
theorem d_Dr_beginNextTurn_75 : decode prog_3_method_7_code 75 = .ok (.invokevirtual 44, 3) := by decide +kernel
theorem d_Dr_beginNextTurn_78 : decode prog_3_method_7_code 78 = .ok (.iconst 1, 1) := by decide +kernel
theorem d_Dr_beginNextTurn_79 : decode prog_3_method_7_code 79 = .ok (.ireturn, 1) := by decide +kernel
theorem d_Dr_beginNextTurn_80 : decode prog_3_method_7_code 80 = .ok (.iinc 1 (-1), 3) := by decide +kernel
theorem d_Dr_beginNextTurn_83 : decode prog_3_method_7_code 83 = .ok (.goto (-73), 3) := by decide +kernel
theorem d_Dr_beginNextTurn_86 : decode prog_3_method_7_code 86 = .ok (.iconst 0, 1) := by decide +kernel
theorem d_Dr_beginNextTurn_87 : decode prog_3_method_7_code 87 = .ok (.ireturn, 1) := by decide +kernel
