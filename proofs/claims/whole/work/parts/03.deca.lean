theorem d_M_init_0 : decode c_M_init 0 = .ok (.aload_n 0, 1) := by decide +kernel
theorem d_M_init_1 : decode c_M_init 1 = .ok (.invokespecial 1, 3) := by decide +kernel
theorem d_M_init_4 : decode c_M_init 4 = .ok (.aload_n 0, 1) := by decide +kernel
theorem d_M_init_5 : decode c_M_init 5 = .ok (.iconst 2, 1) := by decide +kernel
theorem d_M_init_6 : decode c_M_init 6 = .ok (.anewarray 9, 3) := by decide +kernel
theorem d_M_init_9 : decode c_M_init 9 = .ok (.putfield 11, 3) := by decide +kernel
theorem d_M_init_12 : decode c_M_init 12 = .ok (.aload_n 0, 1) := by decide +kernel
theorem d_M_init_13 : decode c_M_init 13 = .ok (.new 15, 3) := by decide +kernel
theorem d_M_init_16 : decode c_M_init 16 = .ok (.dup, 1) := by decide +kernel
theorem d_M_init_17 : decode c_M_init 17 = .ok (.invokespecial 17, 3) := by decide +kernel
theorem d_M_init_20 : decode c_M_init 20 = .ok (.putfield 18, 3) := by decide +kernel
theorem d_M_init_23 : decode c_M_init 23 = .ok (.aload_n 0, 1) := by decide +kernel
theorem d_M_init_24 : decode c_M_init 24 = .ok (.iconst 1, 1) := by decide +kernel
theorem d_M_init_25 : decode c_M_init 25 = .ok (.putfield 22, 3) := by decide +kernel
theorem d_M_init_28 : decode c_M_init 28 = .ok (.aload_n 0, 1) := by decide +kernel
theorem d_M_init_29 : decode c_M_init 29 = .ok (.iconst 1, 1) := by decide +kernel
theorem d_M_init_30 : decode c_M_init 30 = .ok (.putfield 26, 3) := by decide +kernel
theorem d_M_init_33 : decode c_M_init 33 = .ok (.aload_n 0, 1) := by decide +kernel
theorem d_M_init_34 : decode c_M_init 34 = .ok (.iconst 0, 1) := by decide +kernel
theorem d_M_init_35 : decode c_M_init 35 = .ok (.putfield 29, 3) := by decide +kernel
theorem d_M_init_38 : decode c_M_init 38 = .ok (.aload_n 0, 1) := by decide +kernel
theorem d_M_init_39 : decode c_M_init 39 = .ok (.iconst 0, 1) := by decide +kernel
theorem d_M_init_40 : decode c_M_init 40 = .ok (.putfield 32, 3) := by decide +kernel
theorem d_M_init_43 : decode c_M_init 43 = .ok (.aload_n 0, 1) := by decide +kernel
theorem d_M_init_44 : decode c_M_init 44 = .ok (.getfield 11, 3) := by decide +kernel
theorem d_M_init_47 : decode c_M_init 47 = .ok (.iconst 0, 1) := by decide +kernel
theorem d_M_init_48 : decode c_M_init 48 = .ok (.new 9, 3) := by decide +kernel
theorem d_M_init_51 : decode c_M_init 51 = .ok (.dup, 1) := by decide +kernel
theorem d_M_init_52 : decode c_M_init 52 = .ok (.invokespecial 36, 3) := by decide +kernel
theorem d_M_init_55 : decode c_M_init 55 = .ok (.aastore, 1) := by decide +kernel
theorem d_M_init_56 : decode c_M_init 56 = .ok (.aload_n 0, 1) := by decide +kernel
theorem d_M_init_57 : decode c_M_init 57 = .ok (.getfield 11, 3) := by decide +kernel
theorem d_M_init_60 : decode c_M_init 60 = .ok (.iconst 1, 1) := by decide +kernel
theorem d_M_init_61 : decode c_M_init 61 = .ok (.new 9, 3) := by decide +kernel
theorem d_M_init_64 : decode c_M_init 64 = .ok (.dup, 1) := by decide +kernel
theorem d_M_init_65 : decode c_M_init 65 = .ok (.invokespecial 36, 3) := by decide +kernel
theorem d_M_init_68 : decode c_M_init 68 = .ok (.aastore, 1) := by decide +kernel
theorem d_M_init_69 : decode c_M_init 69 = .ok (.aload_n 0, 1) := by decide +kernel
theorem d_M_init_70 : decode c_M_init 70 = .ok (.new 37, 3) := by decide +kernel
theorem d_M_init_73 : decode c_M_init 73 = .ok (.dup, 1) := by decide +kernel
theorem d_M_init_74 : decode c_M_init 74 = .ok (.iconst 2, 1) := by decide +kernel
theorem d_M_init_75 : decode c_M_init 75 = .ok (.bipush 50, 2) := by decide +kernel
theorem d_M_init_77 : decode c_M_init 77 = .ok (.iload_n 1, 1) := by decide +kernel
theorem d_M_init_78 : decode c_M_init 78 = .ok (.invokestatic 39, 3) := by decide +kernel
theorem d_M_init_81 : decode c_M_init 81 = .ok (.invokestatic 45, 3) := by decide +kernel
theorem d_M_init_84 : decode c_M_init 84 = .ok (.invokespecial 48, 3) := by decide +kernel
theorem d_M_init_87 : decode c_M_init 87 = .ok (.putfield 51, 3) := by decide +kernel
theorem d_M_init_90 : decode c_M_init 90 = .ok (.return_, 1) := by decide +kernel
theorem d_B_init_0 : decode c_B_init 0 = .ok (.aload_n 0, 1) := by decide +kernel
theorem d_B_init_1 : decode c_B_init 1 = .ok (.invokespecial 3, 3) := by decide +kernel
theorem d_B_init_4 : decode c_B_init 4 = .ok (.aload_n 0, 1) := by decide +kernel
theorem d_B_init_5 : decode c_B_init 5 = .ok (.iconst 3, 1) := by decide +kernel
theorem d_B_init_6 : decode c_B_init 6 = .ok (.newarray .int, 2) := by decide +kernel
theorem d_B_init_8 : decode c_B_init 8 = .ok (.putfield 9, 3) := by decide +kernel
theorem d_B_init_11 : decode c_B_init 11 = .ok (.aload_n 0, 1) := by decide +kernel
theorem d_B_init_12 : decode c_B_init 12 = .ok (.iconst 3, 1) := by decide +kernel
theorem d_B_init_13 : decode c_B_init 13 = .ok (.newarray .int, 2) := by decide +kernel
theorem d_B_init_15 : decode c_B_init 15 = .ok (.putfield 15, 3) := by decide +kernel
theorem d_B_init_18 : decode c_B_init 18 = .ok (.aload_n 0, 1) := by decide +kernel
theorem d_B_init_19 : decode c_B_init 19 = .ok (.iconst 0, 1) := by decide +kernel
theorem d_B_init_20 : decode c_B_init 20 = .ok (.putfield 18, 3) := by decide +kernel
theorem d_B_init_23 : decode c_B_init 23 = .ok (.return_, 1) := by decide +kernel
theorem d_N_init_0 : decode c_N_init 0 = .ok (.aload_n 0, 1) := by decide +kernel
theorem d_N_init_1 : decode c_N_init 1 = .ok (.invokespecial 1, 3) := by decide +kernel
theorem d_N_init_4 : decode c_N_init 4 = .ok (.aload_n 0, 1) := by decide +kernel
theorem d_N_init_5 : decode c_N_init 5 = .ok (.new 7, 3) := by decide +kernel
theorem d_N_init_8 : decode c_N_init 8 = .ok (.dup, 1) := by decide +kernel
theorem d_N_init_9 : decode c_N_init 9 = .ok (.invokespecial 9, 3) := by decide +kernel
theorem d_N_init_12 : decode c_N_init 12 = .ok (.putfield 10, 3) := by decide +kernel
theorem d_N_init_15 : decode c_N_init 15 = .ok (.aload_n 0, 1) := by decide +kernel
theorem d_N_init_16 : decode c_N_init 16 = .ok (.iconst 1, 1) := by decide +kernel
theorem d_N_init_17 : decode c_N_init 17 = .ok (.putfield 16, 3) := by decide +kernel
theorem d_N_init_20 : decode c_N_init 20 = .ok (.aload_n 0, 1) := by decide +kernel
theorem d_N_init_21 : decode c_N_init 21 = .ok (.iconst 0, 1) := by decide +kernel
theorem d_N_init_22 : decode c_N_init 22 = .ok (.putfield 20, 3) := by decide +kernel
theorem d_N_init_25 : decode c_N_init 25 = .ok (.aload_n 0, 1) := by decide +kernel
theorem d_N_init_26 : decode c_N_init 26 = .ok (.iconst 1, 1) := by decide +kernel
theorem d_N_init_27 : decode c_N_init 27 = .ok (.putfield 23, 3) := by decide +kernel
theorem d_N_init_30 : decode c_N_init 30 = .ok (.aload_n 0, 1) := by decide +kernel
theorem d_N_init_31 : decode c_N_init 31 = .ok (.iconst 0, 1) := by decide +kernel
theorem d_N_init_32 : decode c_N_init 32 = .ok (.putfield 27, 3) := by decide +kernel
theorem d_N_init_35 : decode c_N_init 35 = .ok (.aload_n 0, 1) := by decide +kernel
theorem d_N_init_36 : decode c_N_init 36 = .ok (.iconst 0, 1) := by decide +kernel
theorem d_N_init_37 : decode c_N_init 37 = .ok (.putfield 30, 3) := by decide +kernel
theorem d_N_init_40 : decode c_N_init 40 = .ok (.aload_n 0, 1) := by decide +kernel
theorem d_N_init_41 : decode c_N_init 41 = .ok (.iconst 0, 1) := by decide +kernel
theorem d_N_init_42 : decode c_N_init 42 = .ok (.putfield 33, 3) := by decide +kernel
theorem d_N_init_45 : decode c_N_init 45 = .ok (.aload_n 0, 1) := by decide +kernel
theorem d_N_init_46 : decode c_N_init 46 = .ok (.iconst 1, 1) := by decide +kernel
theorem d_N_init_47 : decode c_N_init 47 = .ok (.putfield 36, 3) := by decide +kernel
theorem d_N_init_50 : decode c_N_init 50 = .ok (.return_, 1) := by decide +kernel
theorem d_D_init_0 : decode c_D_init 0 = .ok (.aload_n 0, 1) := by decide +kernel
theorem d_D_init_1 : decode c_D_init 1 = .ok (.invokespecial 3, 3) := by decide +kernel
theorem d_D_init_4 : decode c_D_init 4 = .ok (.aload_n 0, 1) := by decide +kernel
theorem d_D_init_5 : decode c_D_init 5 = .ok (.bipush 32, 2) := by decide +kernel
theorem d_D_init_7 : decode c_D_init 7 = .ok (.newarray .int, 2) := by decide +kernel
theorem d_D_init_9 : decode c_D_init 9 = .ok (.putfield 9, 3) := by decide +kernel
theorem d_D_init_12 : decode c_D_init 12 = .ok (.aload_n 0, 1) := by decide +kernel
theorem d_D_init_13 : decode c_D_init 13 = .ok (.bipush 32, 2) := by decide +kernel
theorem d_D_init_15 : decode c_D_init 15 = .ok (.newarray .int, 2) := by decide +kernel
theorem d_D_init_17 : decode c_D_init 17 = .ok (.putfield 15, 3) := by decide +kernel
theorem d_D_init_20 : decode c_D_init 20 = .ok (.aload_n 0, 1) := by decide +kernel
theorem d_D_init_21 : decode c_D_init 21 = .ok (.iconst 0, 1) := by decide +kernel
theorem d_D_init_22 : decode c_D_init 22 = .ok (.putfield 18, 3) := by decide +kernel
theorem d_D_init_25 : decode c_D_init 25 = .ok (.return_, 1) := by decide +kernel
theorem d_H_min_0 : decode c_H_min 0 = .ok (.iload_n 0, 1) := by decide +kernel
theorem d_H_min_1 : decode c_H_min 1 = .ok (.iload_n 1, 1) := by decide +kernel
theorem d_H_min_2 : decode c_H_min 2 = .ok (.if_icmp .gt 7, 3) := by decide +kernel
theorem d_H_min_5 : decode c_H_min 5 = .ok (.iload_n 0, 1) := by decide +kernel
theorem d_H_min_6 : decode c_H_min 6 = .ok (.goto 4, 3) := by decide +kernel
theorem d_H_min_9 : decode c_H_min 9 = .ok (.iload_n 1, 1) := by decide +kernel
theorem d_H_min_10 : decode c_H_min 10 = .ok (.ireturn, 1) := by decide +kernel
theorem d_H_max_0 : decode c_H_max 0 = .ok (.iload_n 0, 1) := by decide +kernel
theorem d_H_max_1 : decode c_H_max 1 = .ok (.iload_n 1, 1) := by decide +kernel
theorem d_H_max_2 : decode c_H_max 2 = .ok (.if_icmp .lt 7, 3) := by decide +kernel
theorem d_H_max_5 : decode c_H_max 5 = .ok (.iload_n 0, 1) := by decide +kernel
theorem d_H_max_6 : decode c_H_max 6 = .ok (.goto 4, 3) := by decide +kernel
theorem d_H_max_9 : decode c_H_max 9 = .ok (.iload_n 1, 1) := by decide +kernel
theorem d_H_max_10 : decode c_H_max 10 = .ok (.ireturn, 1) := by decide +kernel
theorem d_T_init_0 : decode c_T_init 0 = .ok (.aload_n 0, 1) := by decide +kernel
theorem d_T_init_1 : decode c_T_init 1 = .ok (.invokespecial 3, 3) := by decide +kernel
theorem d_T_init_4 : decode c_T_init 4 = .ok (.aload_n 0, 1) := by decide +kernel
theorem d_T_init_5 : decode c_T_init 5 = .ok (.iconst 1, 1) := by decide +kernel
theorem d_T_init_6 : decode c_T_init 6 = .ok (.putfield 9, 3) := by decide +kernel
theorem d_T_init_9 : decode c_T_init 9 = .ok (.aload_n 0, 1) := by decide +kernel
theorem d_T_init_10 : decode c_T_init 10 = .ok (.iconst 0, 1) := by decide +kernel
theorem d_T_init_11 : decode c_T_init 11 = .ok (.putfield 15, 3) := by decide +kernel
theorem d_T_init_14 : decode c_T_init 14 = .ok (.aload_n 0, 1) := by decide +kernel
theorem d_T_init_15 : decode c_T_init 15 = .ok (.iconst 2, 1) := by decide +kernel
theorem d_T_init_16 : decode c_T_init 16 = .ok (.putfield 18, 3) := by decide +kernel
theorem d_T_init_19 : decode c_T_init 19 = .ok (.aload_n 0, 1) := by decide +kernel
theorem d_T_init_20 : decode c_T_init 20 = .ok (.iconst 0, 1) := by decide +kernel
theorem d_T_init_21 : decode c_T_init 21 = .ok (.putfield 21, 3) := by decide +kernel
theorem d_T_init_24 : decode c_T_init 24 = .ok (.aload_n 0, 1) := by decide +kernel
theorem d_T_init_25 : decode c_T_init 25 = .ok (.iload_n 1, 1) := by decide +kernel
theorem d_T_init_26 : decode c_T_init 26 = .ok (.putfield 24, 3) := by decide +kernel
theorem d_T_init_29 : decode c_T_init 29 = .ok (.return_, 1) := by decide +kernel
theorem d_M_stage_0 : decode c_M_stage 0 = .ok (.iload_n 1, 1) := by decide +kernel
theorem d_M_stage_1 : decode c_M_stage 1 = .ok (.invokestatic 55, 3) := by decide +kernel
theorem d_M_stage_4 : decode c_M_stage 4 = .ok (.ifCond .eq 11, 3) := by decide +kernel
theorem d_M_stage_7 : decode c_M_stage 7 = .ok (.aload_n 0, 1) := by decide +kernel
theorem d_M_stage_8 : decode c_M_stage 8 = .ok (.invokevirtual 59, 3) := by decide +kernel
theorem d_M_stage_11 : decode c_M_stage 11 = .ok (.iconst 2, 1) := by decide +kernel
theorem d_M_stage_12 : decode c_M_stage 12 = .ok (.if_icmp .ne 5, 3) := by decide +kernel
theorem d_M_stage_15 : decode c_M_stage 15 = .ok (.iconst (-1), 1) := by decide +kernel
theorem d_M_stage_16 : decode c_M_stage 16 = .ok (.ireturn, 1) := by decide +kernel
theorem d_M_stage_17 : decode c_M_stage 17 = .ok (.aload_n 0, 1) := by decide +kernel
theorem d_M_stage_18 : decode c_M_stage 18 = .ok (.getfield 18, 3) := by decide +kernel
theorem d_M_stage_21 : decode c_M_stage 21 = .ok (.getfield 63, 3) := by decide +kernel
theorem d_M_stage_24 : decode c_M_stage 24 = .ok (.iconst 3, 1) := by decide +kernel
theorem d_M_stage_25 : decode c_M_stage 25 = .ok (.if_icmp .ne 6, 3) := by decide +kernel
theorem d_M_stage_28 : decode c_M_stage 28 = .ok (.bipush (-2), 2) := by decide +kernel
theorem d_M_stage_30 : decode c_M_stage 30 = .ok (.ireturn, 1) := by decide +kernel
theorem d_M_stage_31 : decode c_M_stage 31 = .ok (.aload_n 0, 1) := by decide +kernel
theorem d_M_stage_32 : decode c_M_stage 32 = .ok (.getfield 18, 3) := by decide +kernel
theorem d_M_stage_35 : decode c_M_stage 35 = .ok (.iload_n 1, 1) := by decide +kernel
theorem d_M_stage_36 : decode c_M_stage 36 = .ok (.iload_n 2, 1) := by decide +kernel
theorem d_M_stage_37 : decode c_M_stage 37 = .ok (.invokevirtual 66, 3) := by decide +kernel
theorem d_M_stage_40 : decode c_M_stage 40 = .ok (.aload_n 0, 1) := by decide +kernel
theorem d_M_stage_41 : decode c_M_stage 41 = .ok (.getfield 18, 3) := by decide +kernel
theorem d_M_stage_44 : decode c_M_stage 44 = .ok (.getfield 63, 3) := by decide +kernel
theorem d_M_stage_47 : decode c_M_stage 47 = .ok (.ireturn, 1) := by decide +kernel
theorem d_M_isCell_0 : decode c_M_isCell 0 = .ok (.iload_n 0, 1) := by decide +kernel
theorem d_M_isCell_1 : decode c_M_isCell 1 = .ok (.ifCond .lt 13, 3) := by decide +kernel
theorem d_M_isCell_4 : decode c_M_isCell 4 = .ok (.iload_n 0, 1) := by decide +kernel
theorem d_M_isCell_5 : decode c_M_isCell 5 = .ok (.bipush 24, 2) := by decide +kernel
theorem d_M_isCell_7 : decode c_M_isCell 7 = .ok (.if_icmp .ge 7, 3) := by decide +kernel
theorem d_M_isCell_10 : decode c_M_isCell 10 = .ok (.iconst 1, 1) := by decide +kernel
theorem d_M_isCell_11 : decode c_M_isCell 11 = .ok (.goto 4, 3) := by decide +kernel
theorem d_M_isCell_14 : decode c_M_isCell 14 = .ok (.iconst 0, 1) := by decide +kernel
theorem d_M_isCell_15 : decode c_M_isCell 15 = .ok (.ireturn, 1) := by decide +kernel
theorem d_M_findPrimary_0 : decode c_M_findPrimary 0 = .ok (.aload_n 0, 1) := by decide +kernel
theorem d_M_findPrimary_1 : decode c_M_findPrimary 1 = .ok (.getfield 11, 3) := by decide +kernel
theorem d_M_findPrimary_4 : decode c_M_findPrimary 4 = .ok (.iconst 0, 1) := by decide +kernel
theorem d_M_findPrimary_5 : decode c_M_findPrimary 5 = .ok (.aaload, 1) := by decide +kernel
theorem d_M_findPrimary_6 : decode c_M_findPrimary 6 = .ok (.getfield 149, 3) := by decide +kernel
theorem d_M_findPrimary_9 : decode c_M_findPrimary 9 = .ok (.ifCond .eq 5, 3) := by decide +kernel
theorem d_M_findPrimary_12 : decode c_M_findPrimary 12 = .ok (.iconst 0, 1) := by decide +kernel
theorem d_M_findPrimary_13 : decode c_M_findPrimary 13 = .ok (.ireturn, 1) := by decide +kernel
theorem d_M_findPrimary_14 : decode c_M_findPrimary 14 = .ok (.aload_n 0, 1) := by decide +kernel
theorem d_M_findPrimary_15 : decode c_M_findPrimary 15 = .ok (.getfield 11, 3) := by decide +kernel
theorem d_M_findPrimary_18 : decode c_M_findPrimary 18 = .ok (.iconst 1, 1) := by decide +kernel
theorem d_M_findPrimary_19 : decode c_M_findPrimary 19 = .ok (.aaload, 1) := by decide +kernel
theorem d_M_findPrimary_20 : decode c_M_findPrimary 20 = .ok (.getfield 149, 3) := by decide +kernel
theorem d_M_findPrimary_23 : decode c_M_findPrimary 23 = .ok (.ifCond .eq 7, 3) := by decide +kernel
theorem d_M_findPrimary_26 : decode c_M_findPrimary 26 = .ok (.iconst 1, 1) := by decide +kernel
theorem d_M_findPrimary_27 : decode c_M_findPrimary 27 = .ok (.goto 4, 3) := by decide +kernel
theorem d_M_findPrimary_30 : decode c_M_findPrimary 30 = .ok (.iconst 2, 1) := by decide +kernel
theorem d_M_findPrimary_31 : decode c_M_findPrimary 31 = .ok (.ireturn, 1) := by decide +kernel
theorem d_B_append_0 : decode c_B_append 0 = .ok (.aload_n 0, 1) := by decide +kernel
theorem d_B_append_1 : decode c_B_append 1 = .ok (.getfield 18, 3) := by decide +kernel
theorem d_B_append_4 : decode c_B_append 4 = .ok (.iconst 3, 1) := by decide +kernel
theorem d_B_append_5 : decode c_B_append 5 = .ok (.if_icmp .lt 4, 3) := by decide +kernel
theorem d_B_append_8 : decode c_B_append 8 = .ok (.return_, 1) := by decide +kernel
theorem d_B_append_9 : decode c_B_append 9 = .ok (.aload_n 0, 1) := by decide +kernel
theorem d_B_append_10 : decode c_B_append 10 = .ok (.getfield 9, 3) := by decide +kernel
theorem d_B_append_13 : decode c_B_append 13 = .ok (.aload_n 0, 1) := by decide +kernel
theorem d_B_append_14 : decode c_B_append 14 = .ok (.getfield 18, 3) := by decide +kernel
theorem d_B_append_17 : decode c_B_append 17 = .ok (.iload_n 1, 1) := by decide +kernel
theorem d_B_append_18 : decode c_B_append 18 = .ok (.iastore, 1) := by decide +kernel
theorem d_B_append_19 : decode c_B_append 19 = .ok (.aload_n 0, 1) := by decide +kernel
theorem d_B_append_20 : decode c_B_append 20 = .ok (.getfield 15, 3) := by decide +kernel
theorem d_B_append_23 : decode c_B_append 23 = .ok (.aload_n 0, 1) := by decide +kernel
theorem d_B_append_24 : decode c_B_append 24 = .ok (.getfield 18, 3) := by decide +kernel
theorem d_B_append_27 : decode c_B_append 27 = .ok (.iload_n 2, 1) := by decide +kernel
theorem d_B_append_28 : decode c_B_append 28 = .ok (.iastore, 1) := by decide +kernel
theorem d_B_append_29 : decode c_B_append 29 = .ok (.aload_n 0, 1) := by decide +kernel
theorem d_B_append_30 : decode c_B_append 30 = .ok (.dup, 1) := by decide +kernel
theorem d_B_append_31 : decode c_B_append 31 = .ok (.getfield 18, 3) := by decide +kernel
theorem d_B_append_34 : decode c_B_append 34 = .ok (.iconst 1, 1) := by decide +kernel
theorem d_B_append_35 : decode c_B_append 35 = .ok (.iadd, 1) := by decide +kernel
theorem d_B_append_36 : decode c_B_append 36 = .ok (.putfield 18, 3) := by decide +kernel
theorem d_B_append_39 : decode c_B_append 39 = .ok (.return_, 1) := by decide +kernel
theorem d_M_commit_0 : decode c_M_commit 0 = .ok (.aload_n 0, 1) := by decide +kernel
theorem d_M_commit_1 : decode c_M_commit 1 = .ok (.invokevirtual 59, 3) := by decide +kernel
theorem d_M_commit_4 : decode c_M_commit 4 = .ok (.istore_n 3, 1) := by decide +kernel
theorem d_M_commit_5 : decode c_M_commit 5 = .ok (.iload_n 3, 1) := by decide +kernel
theorem d_M_commit_6 : decode c_M_commit 6 = .ok (.iconst 2, 1) := by decide +kernel
theorem d_M_commit_7 : decode c_M_commit 7 = .ok (.if_icmp .eq 13, 3) := by decide +kernel
theorem d_M_commit_10 : decode c_M_commit 10 = .ok (.aload_n 0, 1) := by decide +kernel
theorem d_M_commit_11 : decode c_M_commit 11 = .ok (.getfield 18, 3) := by decide +kernel
theorem d_M_commit_14 : decode c_M_commit 14 = .ok (.getfield 63, 3) := by decide +kernel
theorem d_M_commit_17 : decode c_M_commit 17 = .ok (.ifCond .ne 5, 3) := by decide +kernel
theorem d_M_commit_20 : decode c_M_commit 20 = .ok (.iconst (-1), 1) := by decide +kernel
theorem d_M_commit_21 : decode c_M_commit 21 = .ok (.ireturn, 1) := by decide +kernel
theorem d_M_commit_22 : decode c_M_commit 22 = .ok (.aload_n 0, 1) := by decide +kernel
theorem d_M_commit_23 : decode c_M_commit 23 = .ok (.iload_n 3, 1) := by decide +kernel
theorem d_M_commit_24 : decode c_M_commit 24 = .ok (.invokevirtual 70, 3) := by decide +kernel
theorem d_M_commit_27 : decode c_M_commit 27 = .ok (.ifCond .eq 23, 3) := by decide +kernel
theorem d_M_commit_30 : decode c_M_commit 30 = .ok (.aload_n 0, 1) := by decide +kernel
theorem d_M_commit_31 : decode c_M_commit 31 = .ok (.getfield 11, 3) := by decide +kernel
theorem d_M_commit_34 : decode c_M_commit 34 = .ok (.iload_n 3, 1) := by decide +kernel
theorem d_M_commit_35 : decode c_M_commit 35 = .ok (.aaload, 1) := by decide +kernel
theorem d_M_commit_36 : decode c_M_commit 36 = .ok (.getfield 73, 3) := by decide +kernel
theorem d_M_commit_39 : decode c_M_commit 39 = .ok (.ifCond .ne 6, 3) := by decide +kernel
theorem d_M_commit_42 : decode c_M_commit 42 = .ok (.bipush (-3), 2) := by decide +kernel
theorem d_M_commit_44 : decode c_M_commit 44 = .ok (.ireturn, 1) := by decide +kernel
theorem d_M_commit_45 : decode c_M_commit 45 = .ok (.aload_n 0, 1) := by decide +kernel
theorem d_M_commit_46 : decode c_M_commit 46 = .ok (.iload_n 3, 1) := by decide +kernel
theorem d_M_commit_47 : decode c_M_commit 47 = .ok (.invokevirtual 76, 3) := by decide +kernel
theorem d_M_commit_50 : decode c_M_commit 50 = .ok (.iconst 3, 1) := by decide +kernel
theorem d_M_commit_51 : decode c_M_commit 51 = .ok (.aload_n 0, 1) := by decide +kernel
theorem d_M_commit_52 : decode c_M_commit 52 = .ok (.getfield 18, 3) := by decide +kernel
theorem d_M_commit_55 : decode c_M_commit 55 = .ok (.getfield 63, 3) := by decide +kernel
theorem d_M_commit_58 : decode c_M_commit 58 = .ok (.imul, 1) := by decide +kernel
theorem d_M_commit_59 : decode c_M_commit 59 = .ok (.bipush 7, 2) := by decide +kernel
theorem d_M_commit_61 : decode c_M_commit 61 = .ok (.iadd, 1) := by decide +kernel
theorem d_M_commit_62 : decode c_M_commit 62 = .ok (.istore 4, 2) := by decide +kernel
theorem d_M_commit_64 : decode c_M_commit 64 = .ok (.iload_n 1, 1) := by decide +kernel
theorem d_M_commit_65 : decode c_M_commit 65 = .ok (.ifCond .lt 13, 3) := by decide +kernel
theorem d_M_commit_68 : decode c_M_commit 68 = .ok (.iload_n 1, 1) := by decide +kernel
theorem d_M_commit_69 : decode c_M_commit 69 = .ok (.iload 4, 2) := by decide +kernel
theorem d_M_commit_71 : decode c_M_commit 71 = .ok (.if_icmp .ge 7, 3) := by decide +kernel
theorem d_M_commit_74 : decode c_M_commit 74 = .ok (.iconst 1, 1) := by decide +kernel
theorem d_M_commit_75 : decode c_M_commit 75 = .ok (.goto 4, 3) := by decide +kernel
theorem d_M_commit_78 : decode c_M_commit 78 = .ok (.iconst 0, 1) := by decide +kernel
theorem d_M_commit_79 : decode c_M_commit 79 = .ok (.istore 5, 2) := by decide +kernel
theorem d_M_commit_81 : decode c_M_commit 81 = .ok (.iload 5, 2) := by decide +kernel
theorem d_M_commit_83 : decode c_M_commit 83 = .ok (.ifCond .eq 7, 3) := by decide +kernel
theorem d_M_commit_86 : decode c_M_commit 86 = .ok (.iload_n 1, 1) := by decide +kernel
theorem d_M_commit_87 : decode c_M_commit 87 = .ok (.goto 5, 3) := by decide +kernel
theorem d_M_commit_90 : decode c_M_commit 90 = .ok (.iload 4, 2) := by decide +kernel
theorem d_M_commit_92 : decode c_M_commit 92 = .ok (.istore 6, 2) := by decide +kernel
theorem d_M_commit_94 : decode c_M_commit 94 = .ok (.iconst 0, 1) := by decide +kernel
theorem d_M_commit_95 : decode c_M_commit 95 = .ok (.istore 7, 2) := by decide +kernel
theorem d_M_commit_97 : decode c_M_commit 97 = .ok (.iload 7, 2) := by decide +kernel
theorem d_M_commit_99 : decode c_M_commit 99 = .ok (.iload 6, 2) := by decide +kernel
theorem d_M_commit_101 : decode c_M_commit 101 = .ok (.if_icmp .ge 16, 3) := by decide +kernel
theorem d_M_commit_104 : decode c_M_commit 104 = .ok (.aload_n 0, 1) := by decide +kernel
theorem d_M_commit_105 : decode c_M_commit 105 = .ok (.iload_n 3, 1) := by decide +kernel
theorem d_M_commit_106 : decode c_M_commit 106 = .ok (.iload 7, 2) := by decide +kernel
theorem d_M_commit_108 : decode c_M_commit 108 = .ok (.invokevirtual 79, 3) := by decide +kernel
theorem d_M_commit_111 : decode c_M_commit 111 = .ok (.iinc 7 1, 3) := by decide +kernel
theorem d_M_commit_114 : decode c_M_commit 114 = .ok (.goto (-17), 3) := by decide +kernel
theorem d_M_commit_117 : decode c_M_commit 117 = .ok (.iload 5, 2) := by decide +kernel
theorem d_M_commit_119 : decode c_M_commit 119 = .ok (.ifCond .eq 12, 3) := by decide +kernel
theorem d_M_commit_122 : decode c_M_commit 122 = .ok (.aload_n 0, 1) := by decide +kernel
theorem d_M_commit_123 : decode c_M_commit 123 = .ok (.iload_n 3, 1) := by decide +kernel
theorem d_M_commit_124 : decode c_M_commit 124 = .ok (.iload_n 2, 1) := by decide +kernel
theorem d_M_commit_125 : decode c_M_commit 125 = .ok (.invokevirtual 82, 3) := by decide +kernel
theorem d_M_commit_128 : decode c_M_commit 128 = .ok (.bipush (-7), 2) := by decide +kernel
theorem d_M_commit_130 : decode c_M_commit 130 = .ok (.ireturn, 1) := by decide +kernel
theorem d_M_commit_131 : decode c_M_commit 131 = .ok (.aload_n 0, 1) := by decide +kernel
theorem d_M_commit_132 : decode c_M_commit 132 = .ok (.getfield 18, 3) := by decide +kernel
theorem d_M_commit_135 : decode c_M_commit 135 = .ok (.iconst 0, 1) := by decide +kernel
theorem d_M_commit_136 : decode c_M_commit 136 = .ok (.putfield 63, 3) := by decide +kernel
theorem d_M_commit_139 : decode c_M_commit 139 = .ok (.iconst 0, 1) := by decide +kernel
theorem d_M_commit_140 : decode c_M_commit 140 = .ok (.ireturn, 1) := by decide +kernel
theorem d_M_isUnpaired_0 : decode c_M_isUnpaired 0 = .ok (.aload_n 0, 1) := by decide +kernel
theorem d_M_isUnpaired_1 : decode c_M_isUnpaired 1 = .ok (.getfield 26, 3) := by decide +kernel
theorem d_M_isUnpaired_4 : decode c_M_isUnpaired 4 = .ok (.ifCond .ne 19, 3) := by decide +kernel
theorem d_M_isUnpaired_7 : decode c_M_isUnpaired 7 = .ok (.aload_n 0, 1) := by decide +kernel
theorem d_M_isUnpaired_8 : decode c_M_isUnpaired 8 = .ok (.getfield 11, 3) := by decide +kernel
theorem d_M_isUnpaired_11 : decode c_M_isUnpaired 11 = .ok (.iload_n 1, 1) := by decide +kernel
theorem d_M_isUnpaired_12 : decode c_M_isUnpaired 12 = .ok (.aaload, 1) := by decide +kernel
theorem d_M_isUnpaired_13 : decode c_M_isUnpaired 13 = .ok (.getfield 187, 3) := by decide +kernel
theorem d_M_isUnpaired_16 : decode c_M_isUnpaired 16 = .ok (.ifCond .ne 7, 3) := by decide +kernel
theorem d_M_isUnpaired_19 : decode c_M_isUnpaired 19 = .ok (.iconst 1, 1) := by decide +kernel
theorem d_M_isUnpaired_20 : decode c_M_isUnpaired 20 = .ok (.goto 4, 3) := by decide +kernel
theorem d_M_isUnpaired_23 : decode c_M_isUnpaired 23 = .ok (.iconst 0, 1) := by decide +kernel
theorem d_M_isUnpaired_24 : decode c_M_isUnpaired 24 = .ok (.ireturn, 1) := by decide +kernel
theorem d_M_goAlone_0 : decode c_M_goAlone 0 = .ok (.aload_n 0, 1) := by decide +kernel
theorem d_M_goAlone_1 : decode c_M_goAlone 1 = .ok (.getfield 51, 3) := by decide +kernel
theorem d_M_goAlone_4 : decode c_M_goAlone 4 = .ok (.dup, 1) := by decide +kernel
theorem d_M_goAlone_5 : decode c_M_goAlone 5 = .ok (.getfield 145, 3) := by decide +kernel
theorem d_M_goAlone_8 : decode c_M_goAlone 8 = .ok (.iconst 1, 1) := by decide +kernel
theorem d_M_goAlone_9 : decode c_M_goAlone 9 = .ok (.iadd, 1) := by decide +kernel
theorem d_M_goAlone_10 : decode c_M_goAlone 10 = .ok (.putfield 145, 3) := by decide +kernel
theorem d_M_goAlone_13 : decode c_M_goAlone 13 = .ok (.aload_n 0, 1) := by decide +kernel
theorem d_M_goAlone_14 : decode c_M_goAlone 14 = .ok (.getfield 11, 3) := by decide +kernel
theorem d_M_goAlone_17 : decode c_M_goAlone 17 = .ok (.iload_n 1, 1) := by decide +kernel
theorem d_M_goAlone_18 : decode c_M_goAlone 18 = .ok (.aaload, 1) := by decide +kernel
theorem d_M_goAlone_19 : decode c_M_goAlone 19 = .ok (.aload_n 0, 1) := by decide +kernel
theorem d_M_goAlone_20 : decode c_M_goAlone 20 = .ok (.getfield 11, 3) := by decide +kernel
theorem d_M_goAlone_23 : decode c_M_goAlone 23 = .ok (.iload_n 1, 1) := by decide +kernel
theorem d_M_goAlone_24 : decode c_M_goAlone 24 = .ok (.aaload, 1) := by decide +kernel
theorem d_M_goAlone_25 : decode c_M_goAlone 25 = .ok (.getfield 109, 3) := by decide +kernel
theorem d_M_goAlone_28 : decode c_M_goAlone 28 = .ok (.putfield 184, 3) := by decide +kernel
theorem d_M_goAlone_31 : decode c_M_goAlone 31 = .ok (.aload_n 0, 1) := by decide +kernel
theorem d_M_goAlone_32 : decode c_M_goAlone 32 = .ok (.getfield 11, 3) := by decide +kernel
theorem d_M_goAlone_35 : decode c_M_goAlone 35 = .ok (.iload_n 1, 1) := by decide +kernel
theorem d_M_goAlone_36 : decode c_M_goAlone 36 = .ok (.aaload, 1) := by decide +kernel
theorem d_M_goAlone_37 : decode c_M_goAlone 37 = .ok (.aload_n 0, 1) := by decide +kernel
theorem d_M_goAlone_38 : decode c_M_goAlone 38 = .ok (.getfield 51, 3) := by decide +kernel
theorem d_M_goAlone_41 : decode c_M_goAlone 41 = .ok (.getfield 145, 3) := by decide +kernel
theorem d_M_goAlone_44 : decode c_M_goAlone 44 = .ok (.putfield 109, 3) := by decide +kernel
theorem d_M_goAlone_47 : decode c_M_goAlone 47 = .ok (.aload_n 0, 1) := by decide +kernel
theorem d_M_goAlone_48 : decode c_M_goAlone 48 = .ok (.getfield 11, 3) := by decide +kernel
theorem d_M_goAlone_51 : decode c_M_goAlone 51 = .ok (.iload_n 1, 1) := by decide +kernel
theorem d_M_goAlone_52 : decode c_M_goAlone 52 = .ok (.aaload, 1) := by decide +kernel
theorem d_M_goAlone_53 : decode c_M_goAlone 53 = .ok (.iconst 1, 1) := by decide +kernel
theorem d_M_goAlone_54 : decode c_M_goAlone 54 = .ok (.putfield 187, 3) := by decide +kernel
theorem d_M_goAlone_57 : decode c_M_goAlone 57 = .ok (.return_, 1) := by decide +kernel
theorem d_M_doCommitStep_0 : decode c_M_doCommitStep 0 = .ok (.aload_n 0, 1) := by decide +kernel
theorem d_M_doCommitStep_1 : decode c_M_doCommitStep 1 = .ok (.getfield 18, 3) := by decide +kernel
theorem d_M_doCommitStep_4 : decode c_M_doCommitStep 4 = .ok (.getfield 63, 3) := by decide +kernel
theorem d_M_doCommitStep_7 : decode c_M_doCommitStep 7 = .ok (.istore_n 3, 1) := by decide +kernel
theorem d_M_doCommitStep_8 : decode c_M_doCommitStep 8 = .ok (.iconst 3, 1) := by decide +kernel
theorem d_M_doCommitStep_9 : decode c_M_doCommitStep 9 = .ok (.iconst 2, 1) := by decide +kernel
theorem d_M_doCommitStep_10 : decode c_M_doCommitStep 10 = .ok (.iload_n 3, 1) := by decide +kernel
theorem d_M_doCommitStep_11 : decode c_M_doCommitStep 11 = .ok (.imul, 1) := by decide +kernel
theorem d_M_doCommitStep_12 : decode c_M_doCommitStep 12 = .ok (.iadd, 1) := by decide +kernel
theorem d_M_doCommitStep_13 : decode c_M_doCommitStep 13 = .ok (.istore 4, 2) := by decide +kernel
theorem d_M_doCommitStep_15 : decode c_M_doCommitStep 15 = .ok (.iload 4, 2) := by decide +kernel
theorem d_M_doCommitStep_17 : decode c_M_doCommitStep 17 = .ok (.iconst 3, 1) := by decide +kernel
theorem d_M_doCommitStep_18 : decode c_M_doCommitStep 18 = .ok (.iadd, 1) := by decide +kernel
theorem d_M_doCommitStep_19 : decode c_M_doCommitStep 19 = .ok (.istore 5, 2) := by decide +kernel
theorem d_M_doCommitStep_21 : decode c_M_doCommitStep 21 = .ok (.iload_n 2, 1) := by decide +kernel
theorem d_M_doCommitStep_22 : decode c_M_doCommitStep 22 = .ok (.ifCond .eq 22, 3) := by decide +kernel
theorem d_M_doCommitStep_25 : decode c_M_doCommitStep 25 = .ok (.iload_n 2, 1) := by decide +kernel
theorem d_M_doCommitStep_26 : decode c_M_doCommitStep 26 = .ok (.iconst 2, 1) := by decide +kernel
theorem d_M_doCommitStep_27 : decode c_M_doCommitStep 27 = .ok (.if_icmp .eq 17, 3) := by decide +kernel
theorem d_M_doCommitStep_30 : decode c_M_doCommitStep 30 = .ok (.iload_n 2, 1) := by decide +kernel
theorem d_M_doCommitStep_31 : decode c_M_doCommitStep 31 = .ok (.iload 4, 2) := by decide +kernel
theorem d_M_doCommitStep_33 : decode c_M_doCommitStep 33 = .ok (.if_icmp .eq 11, 3) := by decide +kernel
theorem d_M_doCommitStep_36 : decode c_M_doCommitStep 36 = .ok (.iload_n 2, 1) := by decide +kernel
theorem d_M_doCommitStep_37 : decode c_M_doCommitStep 37 = .ok (.iload 4, 2) := by decide +kernel
theorem d_M_doCommitStep_39 : decode c_M_doCommitStep 39 = .ok (.iconst 2, 1) := by decide +kernel
theorem d_M_doCommitStep_40 : decode c_M_doCommitStep 40 = .ok (.iadd, 1) := by decide +kernel
theorem d_M_doCommitStep_41 : decode c_M_doCommitStep 41 = .ok (.if_icmp .ne 11, 3) := by decide +kernel
theorem d_M_doCommitStep_44 : decode c_M_doCommitStep 44 = .ok (.aload_n 0, 1) := by decide +kernel
theorem d_M_doCommitStep_45 : decode c_M_doCommitStep 45 = .ok (.iload_n 1, 1) := by decide +kernel
theorem d_M_doCommitStep_46 : decode c_M_doCommitStep 46 = .ok (.invokevirtual 155, 3) := by decide +kernel
theorem d_M_doCommitStep_49 : decode c_M_doCommitStep 49 = .ok (.goto 139, 3) := by decide +kernel
theorem d_M_doCommitStep_52 : decode c_M_doCommitStep 52 = .ok (.iload_n 2, 1) := by decide +kernel
theorem d_M_doCommitStep_53 : decode c_M_doCommitStep 53 = .ok (.iconst 1, 1) := by decide +kernel
theorem d_M_doCommitStep_54 : decode c_M_doCommitStep 54 = .ok (.if_icmp .ne 14, 3) := by decide +kernel
theorem d_M_doCommitStep_57 : decode c_M_doCommitStep 57 = .ok (.aload_n 0, 1) := by decide +kernel
theorem d_M_doCommitStep_58 : decode c_M_doCommitStep 58 = .ok (.iload_n 1, 1) := by decide +kernel
theorem d_M_doCommitStep_59 : decode c_M_doCommitStep 59 = .ok (.bipush 24, 2) := by decide +kernel
theorem d_M_doCommitStep_61 : decode c_M_doCommitStep 61 = .ok (.iconst 0, 1) := by decide +kernel
theorem d_M_doCommitStep_62 : decode c_M_doCommitStep 62 = .ok (.invokevirtual 205, 3) := by decide +kernel
theorem d_M_doCommitStep_65 : decode c_M_doCommitStep 65 = .ok (.goto 123, 3) := by decide +kernel
theorem d_M_doCommitStep_68 : decode c_M_doCommitStep 68 = .ok (.iload_n 2, 1) := by decide +kernel
theorem d_M_doCommitStep_69 : decode c_M_doCommitStep 69 = .ok (.iload 4, 2) := by decide +kernel
theorem d_M_doCommitStep_71 : decode c_M_doCommitStep 71 = .ok (.if_icmp .ge 59, 3) := by decide +kernel
theorem d_M_doCommitStep_74 : decode c_M_doCommitStep 74 = .ok (.iload_n 2, 1) := by decide +kernel
theorem d_M_doCommitStep_75 : decode c_M_doCommitStep 75 = .ok (.iconst 3, 1) := by decide +kernel
theorem d_M_doCommitStep_76 : decode c_M_doCommitStep 76 = .ok (.isub, 1) := by decide +kernel
theorem d_M_doCommitStep_77 : decode c_M_doCommitStep 77 = .ok (.istore 6, 2) := by decide +kernel
theorem d_M_doCommitStep_79 : decode c_M_doCommitStep 79 = .ok (.iload 6, 2) := by decide +kernel
theorem d_M_doCommitStep_81 : decode c_M_doCommitStep 81 = .ok (.iconst 2, 1) := by decide +kernel
theorem d_M_doCommitStep_82 : decode c_M_doCommitStep 82 = .ok (.irem, 1) := by decide +kernel
theorem d_M_doCommitStep_83 : decode c_M_doCommitStep 83 = .ok (.ifCond .ne 18, 3) := by decide +kernel
theorem d_M_doCommitStep_86 : decode c_M_doCommitStep 86 = .ok (.aload_n 0, 1) := by decide +kernel
theorem d_M_doCommitStep_87 : decode c_M_doCommitStep 87 = .ok (.getfield 18, 3) := by decide +kernel
theorem d_M_doCommitStep_90 : decode c_M_doCommitStep 90 = .ok (.getfield 209, 3) := by decide +kernel
theorem d_M_doCommitStep_93 : decode c_M_doCommitStep 93 = .ok (.iload 6, 2) := by decide +kernel
theorem d_M_doCommitStep_95 : decode c_M_doCommitStep 95 = .ok (.iconst 2, 1) := by decide +kernel
theorem d_M_doCommitStep_96 : decode c_M_doCommitStep 96 = .ok (.idiv, 1) := by decide +kernel
theorem d_M_doCommitStep_97 : decode c_M_doCommitStep 97 = .ok (.iaload, 1) := by decide +kernel
theorem d_M_doCommitStep_98 : decode c_M_doCommitStep 98 = .ok (.goto 15, 3) := by decide +kernel
theorem d_M_doCommitStep_101 : decode c_M_doCommitStep 101 = .ok (.aload_n 0, 1) := by decide +kernel
theorem d_M_doCommitStep_102 : decode c_M_doCommitStep 102 = .ok (.getfield 18, 3) := by decide +kernel
theorem d_M_doCommitStep_105 : decode c_M_doCommitStep 105 = .ok (.getfield 212, 3) := by decide +kernel
theorem d_M_doCommitStep_108 : decode c_M_doCommitStep 108 = .ok (.iload 6, 2) := by decide +kernel
theorem d_M_doCommitStep_110 : decode c_M_doCommitStep 110 = .ok (.iconst 2, 1) := by decide +kernel
theorem d_M_doCommitStep_111 : decode c_M_doCommitStep 111 = .ok (.idiv, 1) := by decide +kernel
theorem d_M_doCommitStep_112 : decode c_M_doCommitStep 112 = .ok (.iaload, 1) := by decide +kernel
theorem d_M_doCommitStep_113 : decode c_M_doCommitStep 113 = .ok (.istore 7, 2) := by decide +kernel
theorem d_M_doCommitStep_115 : decode c_M_doCommitStep 115 = .ok (.aload_n 0, 1) := by decide +kernel
theorem d_M_doCommitStep_116 : decode c_M_doCommitStep 116 = .ok (.iload_n 1, 1) := by decide +kernel
theorem d_M_doCommitStep_117 : decode c_M_doCommitStep 117 = .ok (.bipush 25, 2) := by decide +kernel
theorem d_M_doCommitStep_119 : decode c_M_doCommitStep 119 = .ok (.iload 6, 2) := by decide +kernel
theorem d_M_doCommitStep_121 : decode c_M_doCommitStep 121 = .ok (.iadd, 1) := by decide +kernel
theorem d_M_doCommitStep_122 : decode c_M_doCommitStep 122 = .ok (.iload 7, 2) := by decide +kernel
theorem d_M_doCommitStep_124 : decode c_M_doCommitStep 124 = .ok (.invokevirtual 205, 3) := by decide +kernel
theorem d_M_doCommitStep_127 : decode c_M_doCommitStep 127 = .ok (.goto 61, 3) := by decide +kernel
theorem d_M_doCommitStep_130 : decode c_M_doCommitStep 130 = .ok (.iload_n 2, 1) := by decide +kernel
theorem d_M_doCommitStep_131 : decode c_M_doCommitStep 131 = .ok (.iload 4, 2) := by decide +kernel
theorem d_M_doCommitStep_133 : decode c_M_doCommitStep 133 = .ok (.iconst 1, 1) := by decide +kernel
theorem d_M_doCommitStep_134 : decode c_M_doCommitStep 134 = .ok (.iadd, 1) := by decide +kernel
theorem d_M_doCommitStep_135 : decode c_M_doCommitStep 135 = .ok (.if_icmp .ne 14, 3) := by decide +kernel
theorem d_M_doCommitStep_138 : decode c_M_doCommitStep 138 = .ok (.aload_n 0, 1) := by decide +kernel
theorem d_M_doCommitStep_139 : decode c_M_doCommitStep 139 = .ok (.iload_n 1, 1) := by decide +kernel
theorem d_M_doCommitStep_140 : decode c_M_doCommitStep 140 = .ok (.bipush 24, 2) := by decide +kernel
theorem d_M_doCommitStep_142 : decode c_M_doCommitStep 142 = .ok (.iload_n 3, 1) := by decide +kernel
theorem d_M_doCommitStep_143 : decode c_M_doCommitStep 143 = .ok (.invokevirtual 205, 3) := by decide +kernel
theorem d_M_doCommitStep_146 : decode c_M_doCommitStep 146 = .ok (.goto 42, 3) := by decide +kernel
theorem d_M_doCommitStep_149 : decode c_M_doCommitStep 149 = .ok (.iload_n 2, 1) := by decide +kernel
theorem d_M_doCommitStep_150 : decode c_M_doCommitStep 150 = .ok (.iload 5, 2) := by decide +kernel
theorem d_M_doCommitStep_152 : decode c_M_doCommitStep 152 = .ok (.iload_n 3, 1) := by decide +kernel
theorem d_M_doCommitStep_153 : decode c_M_doCommitStep 153 = .ok (.iadd, 1) := by decide +kernel
theorem d_M_doCommitStep_154 : decode c_M_doCommitStep 154 = .ok (.if_icmp .ge 34, 3) := by decide +kernel
theorem d_M_doCommitStep_157 : decode c_M_doCommitStep 157 = .ok (.iload_n 2, 1) := by decide +kernel
theorem d_M_doCommitStep_158 : decode c_M_doCommitStep 158 = .ok (.iload 5, 2) := by decide +kernel
theorem d_M_doCommitStep_160 : decode c_M_doCommitStep 160 = .ok (.isub, 1) := by decide +kernel
theorem d_M_doCommitStep_161 : decode c_M_doCommitStep 161 = .ok (.istore 6, 2) := by decide +kernel
theorem d_M_doCommitStep_163 : decode c_M_doCommitStep 163 = .ok (.aload_n 0, 1) := by decide +kernel
theorem d_M_doCommitStep_164 : decode c_M_doCommitStep 164 = .ok (.iload_n 1, 1) := by decide +kernel
theorem d_M_doCommitStep_165 : decode c_M_doCommitStep 165 = .ok (.aload_n 0, 1) := by decide +kernel
theorem d_M_doCommitStep_166 : decode c_M_doCommitStep 166 = .ok (.getfield 18, 3) := by decide +kernel
theorem d_M_doCommitStep_169 : decode c_M_doCommitStep 169 = .ok (.getfield 209, 3) := by decide +kernel
theorem d_M_doCommitStep_172 : decode c_M_doCommitStep 172 = .ok (.iload 6, 2) := by decide +kernel
theorem d_M_doCommitStep_174 : decode c_M_doCommitStep 174 = .ok (.iaload, 1) := by decide +kernel
theorem d_M_doCommitStep_175 : decode c_M_doCommitStep 175 = .ok (.aload_n 0, 1) := by decide +kernel
theorem d_M_doCommitStep_176 : decode c_M_doCommitStep 176 = .ok (.getfield 18, 3) := by decide +kernel
theorem d_M_doCommitStep_179 : decode c_M_doCommitStep 179 = .ok (.getfield 212, 3) := by decide +kernel
theorem d_M_doCommitStep_182 : decode c_M_doCommitStep 182 = .ok (.iload 6, 2) := by decide +kernel
theorem d_M_doCommitStep_184 : decode c_M_doCommitStep 184 = .ok (.iaload, 1) := by decide +kernel
theorem d_M_doCommitStep_185 : decode c_M_doCommitStep 185 = .ok (.invokevirtual 205, 3) := by decide +kernel
theorem d_M_doCommitStep_188 : decode c_M_doCommitStep 188 = .ok (.return_, 1) := by decide +kernel
theorem d_M_flushBy_0 : decode c_M_flushBy 0 = .ok (.aload_n 0, 1) := by decide +kernel
theorem d_M_flushBy_1 : decode c_M_flushBy 1 = .ok (.getfield 11, 3) := by decide +kernel
theorem d_M_flushBy_4 : decode c_M_flushBy 4 = .ok (.iload_n 1, 1) := by decide +kernel
theorem d_M_flushBy_5 : decode c_M_flushBy 5 = .ok (.aaload, 1) := by decide +kernel
theorem d_M_flushBy_6 : decode c_M_flushBy 6 = .ok (.getfield 87, 3) := by decide +kernel
theorem d_M_flushBy_9 : decode c_M_flushBy 9 = .ok (.invokevirtual 202, 3) := by decide +kernel
theorem d_M_flushBy_12 : decode c_M_flushBy 12 = .ok (.aload_n 0, 1) := by decide +kernel
theorem d_M_flushBy_13 : decode c_M_flushBy 13 = .ok (.getfield 26, 3) := by decide +kernel
theorem d_M_flushBy_16 : decode c_M_flushBy 16 = .ok (.ifCond .eq 17, 3) := by decide +kernel
theorem d_M_flushBy_19 : decode c_M_flushBy 19 = .ok (.aload_n 0, 1) := by decide +kernel
theorem d_M_flushBy_20 : decode c_M_flushBy 20 = .ok (.getfield 11, 3) := by decide +kernel
theorem d_M_flushBy_23 : decode c_M_flushBy 23 = .ok (.iconst 1, 1) := by decide +kernel
theorem d_M_flushBy_24 : decode c_M_flushBy 24 = .ok (.iload_n 1, 1) := by decide +kernel
theorem d_M_flushBy_25 : decode c_M_flushBy 25 = .ok (.isub, 1) := by decide +kernel
theorem d_M_flushBy_26 : decode c_M_flushBy 26 = .ok (.aaload, 1) := by decide +kernel
theorem d_M_flushBy_27 : decode c_M_flushBy 27 = .ok (.getfield 87, 3) := by decide +kernel
theorem d_M_flushBy_30 : decode c_M_flushBy 30 = .ok (.invokevirtual 202, 3) := by decide +kernel
theorem d_M_flushBy_33 : decode c_M_flushBy 33 = .ok (.return_, 1) := by decide +kernel
theorem d_D_flush_0 : decode c_D_flush 0 = .ok (.aload_n 0, 1) := by decide +kernel
theorem d_D_flush_1 : decode c_D_flush 1 = .ok (.iconst (-1), 1) := by decide +kernel
theorem d_D_flush_2 : decode c_D_flush 2 = .ok (.invokevirtual 26, 3) := by decide +kernel
theorem d_D_flush_5 : decode c_D_flush 5 = .ok (.return_, 1) := by decide +kernel
theorem d_D_settle_0 : decode c_D_settle 0 = .ok (.iconst 0, 1) := by decide +kernel
theorem d_D_settle_1 : decode c_D_settle 1 = .ok (.istore_n 2, 1) := by decide +kernel
theorem d_D_settle_2 : decode c_D_settle 2 = .ok (.iload_n 2, 1) := by decide +kernel
theorem d_D_settle_3 : decode c_D_settle 3 = .ok (.bipush 32, 2) := by decide +kernel
theorem d_D_settle_5 : decode c_D_settle 5 = .ok (.if_icmp .ge 38, 3) := by decide +kernel
theorem d_D_settle_8 : decode c_D_settle 8 = .ok (.aload_n 0, 1) := by decide +kernel
theorem d_D_settle_9 : decode c_D_settle 9 = .ok (.iload_n 2, 1) := by decide +kernel
theorem d_D_settle_10 : decode c_D_settle 10 = .ok (.invokevirtual 22, 3) := by decide +kernel
theorem d_D_settle_13 : decode c_D_settle 13 = .ok (.ifCond .eq 24, 3) := by decide +kernel
theorem d_D_settle_16 : decode c_D_settle 16 = .ok (.iload_n 1, 1) := by decide +kernel
theorem d_D_settle_17 : decode c_D_settle 17 = .ok (.iload_n 2, 1) := by decide +kernel
theorem d_D_settle_18 : decode c_D_settle 18 = .ok (.iushr, 1) := by decide +kernel
theorem d_D_settle_19 : decode c_D_settle 19 = .ok (.iconst 1, 1) := by decide +kernel
theorem d_D_settle_20 : decode c_D_settle 20 = .ok (.iand, 1) := by decide +kernel
theorem d_D_settle_21 : decode c_D_settle 21 = .ok (.iconst 1, 1) := by decide +kernel
theorem d_D_settle_22 : decode c_D_settle 22 = .ok (.if_icmp .ne 15, 3) := by decide +kernel
theorem d_D_settle_25 : decode c_D_settle 25 = .ok (.aload_n 0, 1) := by decide +kernel
theorem d_D_settle_26 : decode c_D_settle 26 = .ok (.getfield 9, 3) := by decide +kernel
theorem d_D_settle_29 : decode c_D_settle 29 = .ok (.iload_n 2, 1) := by decide +kernel
theorem d_D_settle_30 : decode c_D_settle 30 = .ok (.aload_n 0, 1) := by decide +kernel
theorem d_D_settle_31 : decode c_D_settle 31 = .ok (.getfield 15, 3) := by decide +kernel
theorem d_D_settle_34 : decode c_D_settle 34 = .ok (.iload_n 2, 1) := by decide +kernel
theorem d_D_settle_35 : decode c_D_settle 35 = .ok (.iaload, 1) := by decide +kernel
theorem d_D_settle_36 : decode c_D_settle 36 = .ok (.iastore, 1) := by decide +kernel
theorem d_D_settle_37 : decode c_D_settle 37 = .ok (.iinc 2 1, 3) := by decide +kernel
theorem d_D_settle_40 : decode c_D_settle 40 = .ok (.goto (-38), 3) := by decide +kernel
theorem d_D_settle_43 : decode c_D_settle 43 = .ok (.aload_n 0, 1) := by decide +kernel
theorem d_D_settle_44 : decode c_D_settle 44 = .ok (.iconst 0, 1) := by decide +kernel
theorem d_D_settle_45 : decode c_D_settle 45 = .ok (.putfield 18, 3) := by decide +kernel
theorem d_D_settle_48 : decode c_D_settle 48 = .ok (.return_, 1) := by decide +kernel
theorem d_D_isCached_0 : decode c_D_isCached 0 = .ok (.aload_n 0, 1) := by decide +kernel
theorem d_D_isCached_1 : decode c_D_isCached 1 = .ok (.getfield 18, 3) := by decide +kernel
theorem d_D_isCached_4 : decode c_D_isCached 4 = .ok (.iload_n 1, 1) := by decide +kernel
theorem d_D_isCached_5 : decode c_D_isCached 5 = .ok (.iushr, 1) := by decide +kernel
theorem d_D_isCached_6 : decode c_D_isCached 6 = .ok (.iconst 1, 1) := by decide +kernel
theorem d_D_isCached_7 : decode c_D_isCached 7 = .ok (.iand, 1) := by decide +kernel
theorem d_D_isCached_8 : decode c_D_isCached 8 = .ok (.iconst 1, 1) := by decide +kernel
theorem d_D_isCached_9 : decode c_D_isCached 9 = .ok (.if_icmp .ne 7, 3) := by decide +kernel
theorem d_D_isCached_12 : decode c_D_isCached 12 = .ok (.iconst 1, 1) := by decide +kernel
theorem d_D_isCached_13 : decode c_D_isCached 13 = .ok (.goto 4, 3) := by decide +kernel
theorem d_D_isCached_16 : decode c_D_isCached 16 = .ok (.iconst 0, 1) := by decide +kernel
theorem d_D_isCached_17 : decode c_D_isCached 17 = .ok (.ireturn, 1) := by decide +kernel
theorem d_M_writeBy_0 : decode c_M_writeBy 0 = .ok (.aload_n 0, 1) := by decide +kernel
theorem d_M_writeBy_1 : decode c_M_writeBy 1 = .ok (.getfield 11, 3) := by decide +kernel
theorem d_M_writeBy_4 : decode c_M_writeBy 4 = .ok (.iload_n 1, 1) := by decide +kernel
theorem d_M_writeBy_5 : decode c_M_writeBy 5 = .ok (.aaload, 1) := by decide +kernel
theorem d_M_writeBy_6 : decode c_M_writeBy 6 = .ok (.getfield 87, 3) := by decide +kernel
theorem d_M_writeBy_9 : decode c_M_writeBy 9 = .ok (.iload_n 2, 1) := by decide +kernel
theorem d_M_writeBy_10 : decode c_M_writeBy 10 = .ok (.iload_n 3, 1) := by decide +kernel
theorem d_M_writeBy_11 : decode c_M_writeBy 11 = .ok (.invokevirtual 199, 3) := by decide +kernel
theorem d_M_writeBy_14 : decode c_M_writeBy 14 = .ok (.aload_n 0, 1) := by decide +kernel
theorem d_M_writeBy_15 : decode c_M_writeBy 15 = .ok (.getfield 26, 3) := by decide +kernel
theorem d_M_writeBy_18 : decode c_M_writeBy 18 = .ok (.ifCond .eq 22, 3) := by decide +kernel
theorem d_M_writeBy_21 : decode c_M_writeBy 21 = .ok (.aload_n 0, 1) := by decide +kernel
theorem d_M_writeBy_22 : decode c_M_writeBy 22 = .ok (.getfield 11, 3) := by decide +kernel
theorem d_M_writeBy_25 : decode c_M_writeBy 25 = .ok (.iconst 1, 1) := by decide +kernel
theorem d_M_writeBy_26 : decode c_M_writeBy 26 = .ok (.iload_n 1, 1) := by decide +kernel
theorem d_M_writeBy_27 : decode c_M_writeBy 27 = .ok (.isub, 1) := by decide +kernel
theorem d_M_writeBy_28 : decode c_M_writeBy 28 = .ok (.aaload, 1) := by decide +kernel
theorem d_M_writeBy_29 : decode c_M_writeBy 29 = .ok (.getfield 87, 3) := by decide +kernel
theorem d_M_writeBy_32 : decode c_M_writeBy 32 = .ok (.iload_n 2, 1) := by decide +kernel
theorem d_M_writeBy_33 : decode c_M_writeBy 33 = .ok (.iload_n 3, 1) := by decide +kernel
theorem d_M_writeBy_34 : decode c_M_writeBy 34 = .ok (.invokevirtual 199, 3) := by decide +kernel
theorem d_M_writeBy_37 : decode c_M_writeBy 37 = .ok (.goto 22, 3) := by decide +kernel
theorem d_M_writeBy_40 : decode c_M_writeBy 40 = .ok (.aload_n 0, 1) := by decide +kernel
theorem d_M_writeBy_41 : decode c_M_writeBy 41 = .ok (.getfield 11, 3) := by decide +kernel
theorem d_M_writeBy_44 : decode c_M_writeBy 44 = .ok (.iload_n 1, 1) := by decide +kernel
theorem d_M_writeBy_45 : decode c_M_writeBy 45 = .ok (.aaload, 1) := by decide +kernel
theorem d_M_writeBy_46 : decode c_M_writeBy 46 = .ok (.dup, 1) := by decide +kernel
theorem d_M_writeBy_47 : decode c_M_writeBy 47 = .ok (.getfield 129, 3) := by decide +kernel
theorem d_M_writeBy_50 : decode c_M_writeBy 50 = .ok (.iconst 1, 1) := by decide +kernel
theorem d_M_writeBy_51 : decode c_M_writeBy 51 = .ok (.iload_n 2, 1) := by decide +kernel
theorem d_M_writeBy_52 : decode c_M_writeBy 52 = .ok (.iconst 4, 1) := by decide +kernel
theorem d_M_writeBy_53 : decode c_M_writeBy 53 = .ok (.idiv, 1) := by decide +kernel
theorem d_M_writeBy_54 : decode c_M_writeBy 54 = .ok (.ishl, 1) := by decide +kernel
theorem d_M_writeBy_55 : decode c_M_writeBy 55 = .ok (.ior, 1) := by decide +kernel
theorem d_M_writeBy_56 : decode c_M_writeBy 56 = .ok (.putfield 129, 3) := by decide +kernel
theorem d_M_writeBy_59 : decode c_M_writeBy 59 = .ok (.return_, 1) := by decide +kernel
theorem d_D_put_0 : decode c_D_put 0 = .ok (.aload_n 0, 1) := by decide +kernel
theorem d_D_put_1 : decode c_D_put 1 = .ok (.getfield 15, 3) := by decide +kernel
theorem d_D_put_4 : decode c_D_put 4 = .ok (.iload_n 1, 1) := by decide +kernel
theorem d_D_put_5 : decode c_D_put 5 = .ok (.iload_n 2, 1) := by decide +kernel
theorem d_D_put_6 : decode c_D_put 6 = .ok (.iastore, 1) := by decide +kernel
theorem d_D_put_7 : decode c_D_put 7 = .ok (.aload_n 0, 1) := by decide +kernel
theorem d_D_put_8 : decode c_D_put 8 = .ok (.dup, 1) := by decide +kernel
theorem d_D_put_9 : decode c_D_put 9 = .ok (.getfield 18, 3) := by decide +kernel
theorem d_D_put_12 : decode c_D_put 12 = .ok (.iconst 1, 1) := by decide +kernel
theorem d_D_put_13 : decode c_D_put 13 = .ok (.iload_n 1, 1) := by decide +kernel
theorem d_D_put_14 : decode c_D_put 14 = .ok (.ishl, 1) := by decide +kernel
theorem d_D_put_15 : decode c_D_put 15 = .ok (.ior, 1) := by decide +kernel
theorem d_D_put_16 : decode c_D_put 16 = .ok (.putfield 18, 3) := by decide +kernel
theorem d_D_put_19 : decode c_D_put 19 = .ok (.return_, 1) := by decide +kernel
theorem d_M_bringDown_0 : decode c_M_bringDown 0 = .ok (.aload_n 0, 1) := by decide +kernel
theorem d_M_bringDown_1 : decode c_M_bringDown 1 = .ok (.getfield 11, 3) := by decide +kernel
theorem d_M_bringDown_4 : decode c_M_bringDown 4 = .ok (.iload_n 1, 1) := by decide +kernel
theorem d_M_bringDown_5 : decode c_M_bringDown 5 = .ok (.aaload, 1) := by decide +kernel
theorem d_M_bringDown_6 : decode c_M_bringDown 6 = .ok (.getfield 87, 3) := by decide +kernel
theorem d_M_bringDown_9 : decode c_M_bringDown 9 = .ok (.invokevirtual 193, 3) := by decide +kernel
theorem d_M_bringDown_12 : decode c_M_bringDown 12 = .ok (.istore_n 3, 1) := by decide +kernel
theorem d_M_bringDown_13 : decode c_M_bringDown 13 = .ok (.aload_n 0, 1) := by decide +kernel
theorem d_M_bringDown_14 : decode c_M_bringDown 14 = .ok (.getfield 11, 3) := by decide +kernel
theorem d_M_bringDown_17 : decode c_M_bringDown 17 = .ok (.iload_n 1, 1) := by decide +kernel
theorem d_M_bringDown_18 : decode c_M_bringDown 18 = .ok (.aaload, 1) := by decide +kernel
theorem d_M_bringDown_19 : decode c_M_bringDown 19 = .ok (.dup, 1) := by decide +kernel
theorem d_M_bringDown_20 : decode c_M_bringDown 20 = .ok (.getfield 129, 3) := by decide +kernel
theorem d_M_bringDown_23 : decode c_M_bringDown 23 = .ok (.iload_n 3, 1) := by decide +kernel
theorem d_M_bringDown_24 : decode c_M_bringDown 24 = .ok (.ior, 1) := by decide +kernel
theorem d_M_bringDown_25 : decode c_M_bringDown 25 = .ok (.putfield 129, 3) := by decide +kernel
theorem d_M_bringDown_28 : decode c_M_bringDown 28 = .ok (.aload_n 0, 1) := by decide +kernel
theorem d_M_bringDown_29 : decode c_M_bringDown 29 = .ok (.getfield 26, 3) := by decide +kernel
theorem d_M_bringDown_32 : decode c_M_bringDown 32 = .ok (.ifCond .eq 20, 3) := by decide +kernel
theorem d_M_bringDown_35 : decode c_M_bringDown 35 = .ok (.aload_n 0, 1) := by decide +kernel
theorem d_M_bringDown_36 : decode c_M_bringDown 36 = .ok (.getfield 11, 3) := by decide +kernel
theorem d_M_bringDown_39 : decode c_M_bringDown 39 = .ok (.iconst 1, 1) := by decide +kernel
theorem d_M_bringDown_40 : decode c_M_bringDown 40 = .ok (.iload_n 1, 1) := by decide +kernel
theorem d_M_bringDown_41 : decode c_M_bringDown 41 = .ok (.isub, 1) := by decide +kernel
theorem d_M_bringDown_42 : decode c_M_bringDown 42 = .ok (.aaload, 1) := by decide +kernel
theorem d_M_bringDown_43 : decode c_M_bringDown 43 = .ok (.dup, 1) := by decide +kernel
theorem d_M_bringDown_44 : decode c_M_bringDown 44 = .ok (.getfield 129, 3) := by decide +kernel
theorem d_M_bringDown_47 : decode c_M_bringDown 47 = .ok (.iload_n 3, 1) := by decide +kernel
theorem d_M_bringDown_48 : decode c_M_bringDown 48 = .ok (.ior, 1) := by decide +kernel
theorem d_M_bringDown_49 : decode c_M_bringDown 49 = .ok (.putfield 129, 3) := by decide +kernel
theorem d_M_bringDown_52 : decode c_M_bringDown 52 = .ok (.aload_n 0, 1) := by decide +kernel
theorem d_M_bringDown_53 : decode c_M_bringDown 53 = .ok (.getfield 11, 3) := by decide +kernel
theorem d_M_bringDown_56 : decode c_M_bringDown 56 = .ok (.iload_n 1, 1) := by decide +kernel
theorem d_M_bringDown_57 : decode c_M_bringDown 57 = .ok (.aaload, 1) := by decide +kernel
theorem d_M_bringDown_58 : decode c_M_bringDown 58 = .ok (.getfield 87, 3) := by decide +kernel
theorem d_M_bringDown_61 : decode c_M_bringDown 61 = .ok (.iload_n 2, 1) := by decide +kernel
theorem d_M_bringDown_62 : decode c_M_bringDown 62 = .ok (.invokevirtual 196, 3) := by decide +kernel
theorem d_M_bringDown_65 : decode c_M_bringDown 65 = .ok (.aload_n 0, 1) := by decide +kernel
theorem d_M_bringDown_66 : decode c_M_bringDown 66 = .ok (.getfield 11, 3) := by decide +kernel
theorem d_M_bringDown_69 : decode c_M_bringDown 69 = .ok (.iload_n 1, 1) := by decide +kernel
theorem d_M_bringDown_70 : decode c_M_bringDown 70 = .ok (.aaload, 1) := by decide +kernel
theorem d_M_bringDown_71 : decode c_M_bringDown 71 = .ok (.iconst 0, 1) := by decide +kernel
theorem d_M_bringDown_72 : decode c_M_bringDown 72 = .ok (.putfield 100, 3) := by decide +kernel
theorem d_M_bringDown_75 : decode c_M_bringDown 75 = .ok (.aload_n 0, 1) := by decide +kernel
theorem d_M_bringDown_76 : decode c_M_bringDown 76 = .ok (.iload_n 1, 1) := by decide +kernel
theorem d_M_bringDown_77 : decode c_M_bringDown 77 = .ok (.invokevirtual 146, 3) := by decide +kernel
theorem d_M_bringDown_80 : decode c_M_bringDown 80 = .ok (.aload_n 0, 1) := by decide +kernel
theorem d_M_bringDown_81 : decode c_M_bringDown 81 = .ok (.invokevirtual 106, 3) := by decide +kernel
theorem d_M_bringDown_84 : decode c_M_bringDown 84 = .ok (.return_, 1) := by decide +kernel
theorem d_D_cachedExtents_0 : decode c_D_cachedExtents 0 = .ok (.iconst 0, 1) := by decide +kernel
theorem d_D_cachedExtents_1 : decode c_D_cachedExtents 1 = .ok (.istore_n 1, 1) := by decide +kernel
theorem d_D_cachedExtents_2 : decode c_D_cachedExtents 2 = .ok (.iconst 0, 1) := by decide +kernel
theorem d_D_cachedExtents_3 : decode c_D_cachedExtents 3 = .ok (.istore_n 2, 1) := by decide +kernel
theorem d_D_cachedExtents_4 : decode c_D_cachedExtents 4 = .ok (.iload_n 2, 1) := by decide +kernel
theorem d_D_cachedExtents_5 : decode c_D_cachedExtents 5 = .ok (.bipush 8, 2) := by decide +kernel
theorem d_D_cachedExtents_7 : decode c_D_cachedExtents 7 = .ok (.if_icmp .ge 29, 3) := by decide +kernel
theorem d_D_cachedExtents_10 : decode c_D_cachedExtents 10 = .ok (.aload_n 0, 1) := by decide +kernel
theorem d_D_cachedExtents_11 : decode c_D_cachedExtents 11 = .ok (.getfield 18, 3) := by decide +kernel
theorem d_D_cachedExtents_14 : decode c_D_cachedExtents 14 = .ok (.iload_n 2, 1) := by decide +kernel
theorem d_D_cachedExtents_15 : decode c_D_cachedExtents 15 = .ok (.iconst 4, 1) := by decide +kernel
theorem d_D_cachedExtents_16 : decode c_D_cachedExtents 16 = .ok (.imul, 1) := by decide +kernel
theorem d_D_cachedExtents_17 : decode c_D_cachedExtents 17 = .ok (.iushr, 1) := by decide +kernel
theorem d_D_cachedExtents_18 : decode c_D_cachedExtents 18 = .ok (.bipush 15, 2) := by decide +kernel
theorem d_D_cachedExtents_20 : decode c_D_cachedExtents 20 = .ok (.iand, 1) := by decide +kernel
theorem d_D_cachedExtents_21 : decode c_D_cachedExtents 21 = .ok (.ifCond .eq 9, 3) := by decide +kernel
theorem d_D_cachedExtents_24 : decode c_D_cachedExtents 24 = .ok (.iload_n 1, 1) := by decide +kernel
theorem d_D_cachedExtents_25 : decode c_D_cachedExtents 25 = .ok (.iconst 1, 1) := by decide +kernel
theorem d_D_cachedExtents_26 : decode c_D_cachedExtents 26 = .ok (.iload_n 2, 1) := by decide +kernel
theorem d_D_cachedExtents_27 : decode c_D_cachedExtents 27 = .ok (.ishl, 1) := by decide +kernel
theorem d_D_cachedExtents_28 : decode c_D_cachedExtents 28 = .ok (.ior, 1) := by decide +kernel
theorem d_D_cachedExtents_29 : decode c_D_cachedExtents 29 = .ok (.istore_n 1, 1) := by decide +kernel
theorem d_D_cachedExtents_30 : decode c_D_cachedExtents 30 = .ok (.iinc 2 1, 3) := by decide +kernel
theorem d_D_cachedExtents_33 : decode c_D_cachedExtents 33 = .ok (.goto (-29), 3) := by decide +kernel
theorem d_D_cachedExtents_36 : decode c_D_cachedExtents 36 = .ok (.iload_n 1, 1) := by decide +kernel
theorem d_D_cachedExtents_37 : decode c_D_cachedExtents 37 = .ok (.ireturn, 1) := by decide +kernel
theorem d_M_makeSecondary_0 : decode c_M_makeSecondary 0 = .ok (.aload_n 0, 1) := by decide +kernel
theorem d_M_makeSecondary_1 : decode c_M_makeSecondary 1 = .ok (.getfield 11, 3) := by decide +kernel
theorem d_M_makeSecondary_4 : decode c_M_makeSecondary 4 = .ok (.iload_n 1, 1) := by decide +kernel
theorem d_M_makeSecondary_5 : decode c_M_makeSecondary 5 = .ok (.aaload, 1) := by decide +kernel
theorem d_M_makeSecondary_6 : decode c_M_makeSecondary 6 = .ok (.getfield 149, 3) := by decide +kernel
theorem d_M_makeSecondary_9 : decode c_M_makeSecondary 9 = .ok (.ifCond .eq 21, 3) := by decide +kernel
theorem d_M_makeSecondary_12 : decode c_M_makeSecondary 12 = .ok (.aload_n 0, 1) := by decide +kernel
theorem d_M_makeSecondary_13 : decode c_M_makeSecondary 13 = .ok (.getfield 11, 3) := by decide +kernel
theorem d_M_makeSecondary_16 : decode c_M_makeSecondary 16 = .ok (.iload_n 1, 1) := by decide +kernel
theorem d_M_makeSecondary_17 : decode c_M_makeSecondary 17 = .ok (.aaload, 1) := by decide +kernel
theorem d_M_makeSecondary_18 : decode c_M_makeSecondary 18 = .ok (.iconst 0, 1) := by decide +kernel
theorem d_M_makeSecondary_19 : decode c_M_makeSecondary 19 = .ok (.putfield 149, 3) := by decide +kernel
theorem d_M_makeSecondary_22 : decode c_M_makeSecondary 22 = .ok (.aload_n 0, 1) := by decide +kernel
theorem d_M_makeSecondary_23 : decode c_M_makeSecondary 23 = .ok (.getfield 18, 3) := by decide +kernel
theorem d_M_makeSecondary_26 : decode c_M_makeSecondary 26 = .ok (.iconst 0, 1) := by decide +kernel
theorem d_M_makeSecondary_27 : decode c_M_makeSecondary 27 = .ok (.putfield 63, 3) := by decide +kernel
theorem d_M_makeSecondary_30 : decode c_M_makeSecondary 30 = .ok (.return_, 1) := by decide +kernel
theorem d_M_disconnect_0 : decode c_M_disconnect 0 = .ok (.aload_n 0, 1) := by decide +kernel
theorem d_M_disconnect_1 : decode c_M_disconnect 1 = .ok (.iconst 0, 1) := by decide +kernel
theorem d_M_disconnect_2 : decode c_M_disconnect 2 = .ok (.putfield 26, 3) := by decide +kernel
theorem d_M_disconnect_5 : decode c_M_disconnect 5 = .ok (.aload_n 0, 1) := by decide +kernel
theorem d_M_disconnect_6 : decode c_M_disconnect 6 = .ok (.iconst 0, 1) := by decide +kernel
theorem d_M_disconnect_7 : decode c_M_disconnect 7 = .ok (.putfield 29, 3) := by decide +kernel
theorem d_M_disconnect_10 : decode c_M_disconnect 10 = .ok (.return_, 1) := by decide +kernel
theorem d_M_cell_0 : decode c_M_cell 0 = .ok (.aload_n 0, 1) := by decide +kernel
theorem d_M_cell_1 : decode c_M_cell 1 = .ok (.invokevirtual 59, 3) := by decide +kernel
theorem d_M_cell_4 : decode c_M_cell 4 = .ok (.istore_n 2, 1) := by decide +kernel
theorem d_M_cell_5 : decode c_M_cell 5 = .ok (.iload_n 1, 1) := by decide +kernel
theorem d_M_cell_6 : decode c_M_cell 6 = .ok (.invokestatic 55, 3) := by decide +kernel
theorem d_M_cell_9 : decode c_M_cell 9 = .ok (.ifCond .eq 8, 3) := by decide +kernel
theorem d_M_cell_12 : decode c_M_cell 12 = .ok (.iload_n 2, 1) := by decide +kernel
theorem d_M_cell_13 : decode c_M_cell 13 = .ok (.iconst 2, 1) := by decide +kernel
theorem d_M_cell_14 : decode c_M_cell 14 = .ok (.if_icmp .ne 7, 3) := by decide +kernel
theorem d_M_cell_17 : decode c_M_cell 17 = .ok (.ldc2_w 85, 3) := by decide +kernel
theorem d_M_cell_20 : decode c_M_cell 20 = .ok (.lreturn, 1) := by decide +kernel
theorem d_M_cell_21 : decode c_M_cell 21 = .ok (.aload_n 0, 1) := by decide +kernel
theorem d_M_cell_22 : decode c_M_cell 22 = .ok (.getfield 11, 3) := by decide +kernel
theorem d_M_cell_25 : decode c_M_cell 25 = .ok (.iload_n 2, 1) := by decide +kernel
theorem d_M_cell_26 : decode c_M_cell 26 = .ok (.aaload, 1) := by decide +kernel
theorem d_M_cell_27 : decode c_M_cell 27 = .ok (.getfield 87, 3) := by decide +kernel
theorem d_M_cell_30 : decode c_M_cell 30 = .ok (.iload_n 1, 1) := by decide +kernel
theorem d_M_cell_31 : decode c_M_cell 31 = .ok (.invokevirtual 91, 3) := by decide +kernel
theorem d_M_cell_34 : decode c_M_cell 34 = .ok (.i2l, 1) := by decide +kernel
theorem d_M_cell_35 : decode c_M_cell 35 = .ok (.lreturn, 1) := by decide +kernel
theorem d_D_held_0 : decode c_D_held 0 = .ok (.aload_n 0, 1) := by decide +kernel
theorem d_D_held_1 : decode c_D_held 1 = .ok (.iload_n 1, 1) := by decide +kernel
theorem d_D_held_2 : decode c_D_held 2 = .ok (.invokevirtual 22, 3) := by decide +kernel
theorem d_D_held_5 : decode c_D_held 5 = .ok (.ifCond .eq 12, 3) := by decide +kernel
theorem d_D_held_8 : decode c_D_held 8 = .ok (.aload_n 0, 1) := by decide +kernel
theorem d_D_held_9 : decode c_D_held 9 = .ok (.getfield 15, 3) := by decide +kernel
theorem d_D_held_12 : decode c_D_held 12 = .ok (.iload_n 1, 1) := by decide +kernel
theorem d_D_held_13 : decode c_D_held 13 = .ok (.iaload, 1) := by decide +kernel
theorem d_D_held_14 : decode c_D_held 14 = .ok (.goto 9, 3) := by decide +kernel
theorem d_D_held_17 : decode c_D_held 17 = .ok (.aload_n 0, 1) := by decide +kernel
theorem d_D_held_18 : decode c_D_held 18 = .ok (.getfield 9, 3) := by decide +kernel
theorem d_D_held_21 : decode c_D_held 21 = .ok (.iload_n 1, 1) := by decide +kernel
theorem d_D_held_22 : decode c_D_held 22 = .ok (.iaload, 1) := by decide +kernel
theorem d_D_held_23 : decode c_D_held 23 = .ok (.ireturn, 1) := by decide +kernel
theorem d_M_crash_0 : decode c_M_crash 0 = .ok (.iload_n 1, 1) := by decide +kernel
theorem d_M_crash_1 : decode c_M_crash 1 = .ok (.invokestatic 97, 3) := by decide +kernel
theorem d_M_crash_4 : decode c_M_crash 4 = .ok (.ifCond .eq 15, 3) := by decide +kernel
theorem d_M_crash_7 : decode c_M_crash 7 = .ok (.aload_n 0, 1) := by decide +kernel
theorem d_M_crash_8 : decode c_M_crash 8 = .ok (.getfield 11, 3) := by decide +kernel
theorem d_M_crash_11 : decode c_M_crash 11 = .ok (.iload_n 1, 1) := by decide +kernel
theorem d_M_crash_12 : decode c_M_crash 12 = .ok (.aaload, 1) := by decide +kernel
theorem d_M_crash_13 : decode c_M_crash 13 = .ok (.getfield 100, 3) := by decide +kernel
theorem d_M_crash_16 : decode c_M_crash 16 = .ok (.ifCond .ne 5, 3) := by decide +kernel
theorem d_M_crash_19 : decode c_M_crash 19 = .ok (.iconst (-1), 1) := by decide +kernel
theorem d_M_crash_20 : decode c_M_crash 20 = .ok (.ireturn, 1) := by decide +kernel
theorem d_M_crash_21 : decode c_M_crash 21 = .ok (.aload_n 0, 1) := by decide +kernel
theorem d_M_crash_22 : decode c_M_crash 22 = .ok (.iload_n 1, 1) := by decide +kernel
theorem d_M_crash_23 : decode c_M_crash 23 = .ok (.iload_n 2, 1) := by decide +kernel
theorem d_M_crash_24 : decode c_M_crash 24 = .ok (.invokevirtual 82, 3) := by decide +kernel
theorem d_M_crash_27 : decode c_M_crash 27 = .ok (.iconst 0, 1) := by decide +kernel
theorem d_M_crash_28 : decode c_M_crash 28 = .ok (.ireturn, 1) := by decide +kernel
theorem d_M_isNode_0 : decode c_M_isNode 0 = .ok (.iload_n 0, 1) := by decide +kernel
theorem d_M_isNode_1 : decode c_M_isNode 1 = .ok (.ifCond .lt 12, 3) := by decide +kernel
theorem d_M_isNode_4 : decode c_M_isNode 4 = .ok (.iload_n 0, 1) := by decide +kernel
theorem d_M_isNode_5 : decode c_M_isNode 5 = .ok (.iconst 2, 1) := by decide +kernel
theorem d_M_isNode_6 : decode c_M_isNode 6 = .ok (.if_icmp .ge 7, 3) := by decide +kernel
theorem d_M_isNode_9 : decode c_M_isNode 9 = .ok (.iconst 1, 1) := by decide +kernel
theorem d_M_isNode_10 : decode c_M_isNode 10 = .ok (.goto 4, 3) := by decide +kernel
theorem d_M_isNode_13 : decode c_M_isNode 13 = .ok (.iconst 0, 1) := by decide +kernel
theorem d_M_isNode_14 : decode c_M_isNode 14 = .ok (.ireturn, 1) := by decide +kernel
theorem d_M_restart_0 : decode c_M_restart 0 = .ok (.iload_n 1, 1) := by decide +kernel
theorem d_M_restart_1 : decode c_M_restart 1 = .ok (.invokestatic 97, 3) := by decide +kernel
theorem d_M_restart_4 : decode c_M_restart 4 = .ok (.ifCond .eq 15, 3) := by decide +kernel
theorem d_M_restart_7 : decode c_M_restart 7 = .ok (.aload_n 0, 1) := by decide +kernel
theorem d_M_restart_8 : decode c_M_restart 8 = .ok (.getfield 11, 3) := by decide +kernel
theorem d_M_restart_11 : decode c_M_restart 11 = .ok (.iload_n 1, 1) := by decide +kernel
theorem d_M_restart_12 : decode c_M_restart 12 = .ok (.aaload, 1) := by decide +kernel
theorem d_M_restart_13 : decode c_M_restart 13 = .ok (.getfield 100, 3) := by decide +kernel
theorem d_M_restart_16 : decode c_M_restart 16 = .ok (.ifCond .eq 5, 3) := by decide +kernel
theorem d_M_restart_19 : decode c_M_restart 19 = .ok (.iconst (-1), 1) := by decide +kernel
theorem d_M_restart_20 : decode c_M_restart 20 = .ok (.ireturn, 1) := by decide +kernel
theorem d_M_restart_21 : decode c_M_restart 21 = .ok (.aload_n 0, 1) := by decide +kernel
theorem d_M_restart_22 : decode c_M_restart 22 = .ok (.getfield 11, 3) := by decide +kernel
theorem d_M_restart_25 : decode c_M_restart 25 = .ok (.iload_n 1, 1) := by decide +kernel
theorem d_M_restart_26 : decode c_M_restart 26 = .ok (.aaload, 1) := by decide +kernel
theorem d_M_restart_27 : decode c_M_restart 27 = .ok (.iconst 1, 1) := by decide +kernel
theorem d_M_restart_28 : decode c_M_restart 28 = .ok (.putfield 100, 3) := by decide +kernel
theorem d_M_restart_31 : decode c_M_restart 31 = .ok (.iconst 0, 1) := by decide +kernel
theorem d_M_restart_32 : decode c_M_restart 32 = .ok (.ireturn, 1) := by decide +kernel
theorem d_M_swap_0 : decode c_M_swap 0 = .ok (.iload_n 1, 1) := by decide +kernel
theorem d_M_swap_1 : decode c_M_swap 1 = .ok (.invokestatic 97, 3) := by decide +kernel
theorem d_M_swap_4 : decode c_M_swap 4 = .ok (.ifCond .eq 15, 3) := by decide +kernel
theorem d_M_swap_7 : decode c_M_swap 7 = .ok (.aload_n 0, 1) := by decide +kernel
theorem d_M_swap_8 : decode c_M_swap 8 = .ok (.getfield 11, 3) := by decide +kernel
theorem d_M_swap_11 : decode c_M_swap 11 = .ok (.iload_n 1, 1) := by decide +kernel
theorem d_M_swap_12 : decode c_M_swap 12 = .ok (.aaload, 1) := by decide +kernel
theorem d_M_swap_13 : decode c_M_swap 13 = .ok (.getfield 100, 3) := by decide +kernel
theorem d_M_swap_16 : decode c_M_swap 16 = .ok (.ifCond .eq 5, 3) := by decide +kernel
theorem d_M_swap_19 : decode c_M_swap 19 = .ok (.iconst (-1), 1) := by decide +kernel
theorem d_M_swap_20 : decode c_M_swap 20 = .ok (.ireturn, 1) := by decide +kernel
theorem d_M_swap_21 : decode c_M_swap 21 = .ok (.aload_n 0, 1) := by decide +kernel
theorem d_M_swap_22 : decode c_M_swap 22 = .ok (.getfield 11, 3) := by decide +kernel
theorem d_M_swap_25 : decode c_M_swap 25 = .ok (.iload_n 1, 1) := by decide +kernel
theorem d_M_swap_26 : decode c_M_swap 26 = .ok (.aaload, 1) := by decide +kernel
theorem d_M_swap_27 : decode c_M_swap 27 = .ok (.invokevirtual 103, 3) := by decide +kernel
theorem d_M_swap_30 : decode c_M_swap 30 = .ok (.iconst 0, 1) := by decide +kernel
theorem d_M_swap_31 : decode c_M_swap 31 = .ok (.ireturn, 1) := by decide +kernel
theorem d_N_renewDisk_0 : decode c_N_renewDisk 0 = .ok (.aload_n 0, 1) := by decide +kernel
theorem d_N_renewDisk_1 : decode c_N_renewDisk 1 = .ok (.getfield 10, 3) := by decide +kernel
theorem d_N_renewDisk_4 : decode c_N_renewDisk 4 = .ok (.invokevirtual 39, 3) := by decide +kernel
theorem d_N_renewDisk_7 : decode c_N_renewDisk 7 = .ok (.aload_n 0, 1) := by decide +kernel
theorem d_N_renewDisk_8 : decode c_N_renewDisk 8 = .ok (.iconst 0, 1) := by decide +kernel
theorem d_N_renewDisk_9 : decode c_N_renewDisk 9 = .ok (.putfield 23, 3) := by decide +kernel
theorem d_N_renewDisk_12 : decode c_N_renewDisk 12 = .ok (.aload_n 0, 1) := by decide +kernel
theorem d_N_renewDisk_13 : decode c_N_renewDisk 13 = .ok (.iconst 0, 1) := by decide +kernel
theorem d_N_renewDisk_14 : decode c_N_renewDisk 14 = .ok (.putfield 27, 3) := by decide +kernel
theorem d_N_renewDisk_17 : decode c_N_renewDisk 17 = .ok (.aload_n 0, 1) := by decide +kernel
theorem d_N_renewDisk_18 : decode c_N_renewDisk 18 = .ok (.iconst 0, 1) := by decide +kernel
theorem d_N_renewDisk_19 : decode c_N_renewDisk 19 = .ok (.putfield 30, 3) := by decide +kernel
theorem d_N_renewDisk_22 : decode c_N_renewDisk 22 = .ok (.aload_n 0, 1) := by decide +kernel
theorem d_N_renewDisk_23 : decode c_N_renewDisk 23 = .ok (.iconst 0, 1) := by decide +kernel
theorem d_N_renewDisk_24 : decode c_N_renewDisk 24 = .ok (.putfield 33, 3) := by decide +kernel
theorem d_N_renewDisk_27 : decode c_N_renewDisk 27 = .ok (.return_, 1) := by decide +kernel
theorem d_D_erase_0 : decode c_D_erase 0 = .ok (.aload_n 0, 1) := by decide +kernel
theorem d_D_erase_1 : decode c_D_erase 1 = .ok (.getfield 9, 3) := by decide +kernel
theorem d_D_erase_4 : decode c_D_erase 4 = .ok (.iconst 0, 1) := by decide +kernel
theorem d_D_erase_5 : decode c_D_erase 5 = .ok (.invokestatic 36, 3) := by decide +kernel
theorem d_D_erase_8 : decode c_D_erase 8 = .ok (.aload_n 0, 1) := by decide +kernel
theorem d_D_erase_9 : decode c_D_erase 9 = .ok (.iconst 0, 1) := by decide +kernel
theorem d_D_erase_10 : decode c_D_erase 10 = .ok (.putfield 18, 3) := by decide +kernel
theorem d_D_erase_13 : decode c_D_erase 13 = .ok (.return_, 1) := by decide +kernel
theorem d_Y_fill_0 : decode c_Y_fill 0 = .ok (.iconst 0, 1) := by decide +kernel
theorem d_Y_fill_1 : decode c_Y_fill 1 = .ok (.istore_n 2, 1) := by decide +kernel
theorem d_Y_fill_2 : decode c_Y_fill 2 = .ok (.aload_n 0, 1) := by decide +kernel
theorem d_Y_fill_3 : decode c_Y_fill 3 = .ok (.arraylength, 1) := by decide +kernel
theorem d_Y_fill_4 : decode c_Y_fill 4 = .ok (.istore_n 3, 1) := by decide +kernel
theorem d_Y_fill_5 : decode c_Y_fill 5 = .ok (.iload_n 2, 1) := by decide +kernel
theorem d_Y_fill_6 : decode c_Y_fill 6 = .ok (.iload_n 3, 1) := by decide +kernel
theorem d_Y_fill_7 : decode c_Y_fill 7 = .ok (.if_icmp .ge 13, 3) := by decide +kernel
theorem d_Y_fill_10 : decode c_Y_fill 10 = .ok (.aload_n 0, 1) := by decide +kernel
theorem d_Y_fill_11 : decode c_Y_fill 11 = .ok (.iload_n 2, 1) := by decide +kernel
theorem d_Y_fill_12 : decode c_Y_fill 12 = .ok (.iload_n 1, 1) := by decide +kernel
theorem d_Y_fill_13 : decode c_Y_fill 13 = .ok (.iastore, 1) := by decide +kernel
theorem d_Y_fill_14 : decode c_Y_fill 14 = .ok (.iinc 2 1, 3) := by decide +kernel
theorem d_Y_fill_17 : decode c_Y_fill 17 = .ok (.goto (-12), 3) := by decide +kernel
theorem d_Y_fill_20 : decode c_Y_fill 20 = .ok (.return_, 1) := by decide +kernel
theorem d_M_line_0 : decode c_M_line 0 = .ok (.aload_n 0, 1) := by decide +kernel
theorem d_M_line_1 : decode c_M_line 1 = .ok (.iload_n 1, 1) := by decide +kernel
theorem d_M_line_2 : decode c_M_line 2 = .ok (.putfield 22, 3) := by decide +kernel
theorem d_M_line_5 : decode c_M_line 5 = .ok (.iload_n 1, 1) := by decide +kernel
theorem d_M_line_6 : decode c_M_line 6 = .ok (.ifCond .ne 7, 3) := by decide +kernel
theorem d_M_line_9 : decode c_M_line 9 = .ok (.aload_n 0, 1) := by decide +kernel
theorem d_M_line_10 : decode c_M_line 10 = .ok (.invokevirtual 106, 3) := by decide +kernel
theorem d_M_line_13 : decode c_M_line 13 = .ok (.iconst 0, 1) := by decide +kernel
theorem d_M_line_14 : decode c_M_line 14 = .ok (.ireturn, 1) := by decide +kernel
theorem d_M_witnessLine_0 : decode c_M_witnessLine 0 = .ok (.iload_n 1, 1) := by decide +kernel
theorem d_M_witnessLine_1 : decode c_M_witnessLine 1 = .ok (.invokestatic 97, 3) := by decide +kernel
theorem d_M_witnessLine_4 : decode c_M_witnessLine 4 = .ok (.ifCond .ne 5, 3) := by decide +kernel
theorem d_M_witnessLine_7 : decode c_M_witnessLine 7 = .ok (.iconst (-1), 1) := by decide +kernel
theorem d_M_witnessLine_8 : decode c_M_witnessLine 8 = .ok (.ireturn, 1) := by decide +kernel
theorem d_M_witnessLine_9 : decode c_M_witnessLine 9 = .ok (.aload_n 0, 1) := by decide +kernel
theorem d_M_witnessLine_10 : decode c_M_witnessLine 10 = .ok (.getfield 11, 3) := by decide +kernel
theorem d_M_witnessLine_13 : decode c_M_witnessLine 13 = .ok (.iload_n 1, 1) := by decide +kernel
theorem d_M_witnessLine_14 : decode c_M_witnessLine 14 = .ok (.aaload, 1) := by decide +kernel
theorem d_M_witnessLine_15 : decode c_M_witnessLine 15 = .ok (.iload_n 2, 1) := by decide +kernel
theorem d_M_witnessLine_16 : decode c_M_witnessLine 16 = .ok (.putfield 73, 3) := by decide +kernel
theorem d_M_witnessLine_19 : decode c_M_witnessLine 19 = .ok (.iconst 0, 1) := by decide +kernel
theorem d_M_witnessLine_20 : decode c_M_witnessLine 20 = .ok (.ireturn, 1) := by decide +kernel
theorem d_M_connect_0 : decode c_M_connect 0 = .ok (.aload_n 0, 1) := by decide +kernel
theorem d_M_connect_1 : decode c_M_connect 1 = .ok (.getfield 26, 3) := by decide +kernel
theorem d_M_connect_4 : decode c_M_connect 4 = .ok (.ifCond .ne 34, 3) := by decide +kernel
theorem d_M_connect_7 : decode c_M_connect 7 = .ok (.aload_n 0, 1) := by decide +kernel
theorem d_M_connect_8 : decode c_M_connect 8 = .ok (.getfield 22, 3) := by decide +kernel
theorem d_M_connect_11 : decode c_M_connect 11 = .ok (.ifCond .eq 27, 3) := by decide +kernel
theorem d_M_connect_14 : decode c_M_connect 14 = .ok (.aload_n 0, 1) := by decide +kernel
theorem d_M_connect_15 : decode c_M_connect 15 = .ok (.getfield 11, 3) := by decide +kernel
theorem d_M_connect_18 : decode c_M_connect 18 = .ok (.iconst 0, 1) := by decide +kernel
theorem d_M_connect_19 : decode c_M_connect 19 = .ok (.aaload, 1) := by decide +kernel
theorem d_M_connect_20 : decode c_M_connect 20 = .ok (.getfield 100, 3) := by decide +kernel
theorem d_M_connect_23 : decode c_M_connect 23 = .ok (.ifCond .eq 15, 3) := by decide +kernel
theorem d_M_connect_26 : decode c_M_connect 26 = .ok (.aload_n 0, 1) := by decide +kernel
theorem d_M_connect_27 : decode c_M_connect 27 = .ok (.getfield 11, 3) := by decide +kernel
theorem d_M_connect_30 : decode c_M_connect 30 = .ok (.iconst 1, 1) := by decide +kernel
theorem d_M_connect_31 : decode c_M_connect 31 = .ok (.aaload, 1) := by decide +kernel
theorem d_M_connect_32 : decode c_M_connect 32 = .ok (.getfield 100, 3) := by decide +kernel
theorem d_M_connect_35 : decode c_M_connect 35 = .ok (.ifCond .ne 5, 3) := by decide +kernel
theorem d_M_connect_38 : decode c_M_connect 38 = .ok (.iconst (-1), 1) := by decide +kernel
theorem d_M_connect_39 : decode c_M_connect 39 = .ok (.ireturn, 1) := by decide +kernel
theorem d_M_connect_40 : decode c_M_connect 40 = .ok (.aload_n 0, 1) := by decide +kernel
theorem d_M_connect_41 : decode c_M_connect 41 = .ok (.getfield 11, 3) := by decide +kernel
theorem d_M_connect_44 : decode c_M_connect 44 = .ok (.iconst 0, 1) := by decide +kernel
theorem d_M_connect_45 : decode c_M_connect 45 = .ok (.aaload, 1) := by decide +kernel
theorem d_M_connect_46 : decode c_M_connect 46 = .ok (.getfield 109, 3) := by decide +kernel
theorem d_M_connect_49 : decode c_M_connect 49 = .ok (.ifCond .ne 18, 3) := by decide +kernel
theorem d_M_connect_52 : decode c_M_connect 52 = .ok (.aload_n 0, 1) := by decide +kernel
theorem d_M_connect_53 : decode c_M_connect 53 = .ok (.getfield 11, 3) := by decide +kernel
theorem d_M_connect_56 : decode c_M_connect 56 = .ok (.iconst 1, 1) := by decide +kernel
theorem d_M_connect_57 : decode c_M_connect 57 = .ok (.aaload, 1) := by decide +kernel
theorem d_M_connect_58 : decode c_M_connect 58 = .ok (.getfield 109, 3) := by decide +kernel
theorem d_M_connect_61 : decode c_M_connect 61 = .ok (.ifCond .ne 6, 3) := by decide +kernel
theorem d_M_connect_64 : decode c_M_connect 64 = .ok (.bipush (-6), 2) := by decide +kernel
theorem d_M_connect_66 : decode c_M_connect 66 = .ok (.ireturn, 1) := by decide +kernel
theorem d_M_connect_67 : decode c_M_connect 67 = .ok (.aload_n 0, 1) := by decide +kernel
theorem d_M_connect_68 : decode c_M_connect 68 = .ok (.aload_n 0, 1) := by decide +kernel
theorem d_M_connect_69 : decode c_M_connect 69 = .ok (.invokevirtual 112, 3) := by decide +kernel
theorem d_M_connect_72 : decode c_M_connect 72 = .ok (.putfield 32, 3) := by decide +kernel
theorem d_M_connect_75 : decode c_M_connect 75 = .ok (.aload_n 0, 1) := by decide +kernel
theorem d_M_connect_76 : decode c_M_connect 76 = .ok (.invokevirtual 115, 3) := by decide +kernel
theorem d_M_connect_79 : decode c_M_connect 79 = .ok (.istore_n 1, 1) := by decide +kernel
theorem d_M_connect_80 : decode c_M_connect 80 = .ok (.aload_n 0, 1) := by decide +kernel
theorem d_M_connect_81 : decode c_M_connect 81 = .ok (.iconst 1, 1) := by decide +kernel
theorem d_M_connect_82 : decode c_M_connect 82 = .ok (.putfield 26, 3) := by decide +kernel
theorem d_M_connect_85 : decode c_M_connect 85 = .ok (.iload_n 1, 1) := by decide +kernel
theorem d_M_connect_86 : decode c_M_connect 86 = .ok (.ifCond .ne 10, 3) := by decide +kernel
theorem d_M_connect_89 : decode c_M_connect 89 = .ok (.aload_n 0, 1) := by decide +kernel
theorem d_M_connect_90 : decode c_M_connect 90 = .ok (.invokevirtual 118, 3) := by decide +kernel
theorem d_M_connect_93 : decode c_M_connect 93 = .ok (.goto 8, 3) := by decide +kernel
theorem d_M_connect_96 : decode c_M_connect 96 = .ok (.aload_n 0, 1) := by decide +kernel
theorem d_M_connect_97 : decode c_M_connect 97 = .ok (.iload_n 1, 1) := by decide +kernel
theorem d_M_connect_98 : decode c_M_connect 98 = .ok (.invokevirtual 121, 3) := by decide +kernel
theorem d_M_connect_101 : decode c_M_connect 101 = .ok (.iload_n 1, 1) := by decide +kernel
theorem d_M_connect_102 : decode c_M_connect 102 = .ok (.invokestatic 124, 3) := by decide +kernel
theorem d_M_connect_105 : decode c_M_connect 105 = .ok (.ireturn, 1) := by decide +kernel
theorem d_M_chooseSource_0 : decode c_M_chooseSource 0 = .ok (.aload_n 0, 1) := by decide +kernel
theorem d_M_chooseSource_1 : decode c_M_chooseSource 1 = .ok (.getfield 11, 3) := by decide +kernel
theorem d_M_chooseSource_4 : decode c_M_chooseSource 4 = .ok (.iconst 0, 1) := by decide +kernel
theorem d_M_chooseSource_5 : decode c_M_chooseSource 5 = .ok (.aaload, 1) := by decide +kernel
theorem d_M_chooseSource_6 : decode c_M_chooseSource 6 = .ok (.getfield 109, 3) := by decide +kernel
theorem d_M_chooseSource_9 : decode c_M_chooseSource 9 = .ok (.aload_n 0, 1) := by decide +kernel
theorem d_M_chooseSource_10 : decode c_M_chooseSource 10 = .ok (.getfield 11, 3) := by decide +kernel
theorem d_M_chooseSource_13 : decode c_M_chooseSource 13 = .ok (.iconst 1, 1) := by decide +kernel
theorem d_M_chooseSource_14 : decode c_M_chooseSource 14 = .ok (.aaload, 1) := by decide +kernel
theorem d_M_chooseSource_15 : decode c_M_chooseSource 15 = .ok (.getfield 109, 3) := by decide +kernel
theorem d_M_chooseSource_18 : decode c_M_chooseSource 18 = .ok (.if_icmp .ne 21, 3) := by decide +kernel
theorem d_M_chooseSource_21 : decode c_M_chooseSource 21 = .ok (.aload_n 0, 1) := by decide +kernel
theorem d_M_chooseSource_22 : decode c_M_chooseSource 22 = .ok (.getfield 11, 3) := by decide +kernel
theorem d_M_chooseSource_25 : decode c_M_chooseSource 25 = .ok (.iconst 1, 1) := by decide +kernel
theorem d_M_chooseSource_26 : decode c_M_chooseSource 26 = .ok (.aaload, 1) := by decide +kernel
theorem d_M_chooseSource_27 : decode c_M_chooseSource 27 = .ok (.getfield 149, 3) := by decide +kernel
theorem d_M_chooseSource_30 : decode c_M_chooseSource 30 = .ok (.ifCond .eq 7, 3) := by decide +kernel
theorem d_M_chooseSource_33 : decode c_M_chooseSource 33 = .ok (.iconst 1, 1) := by decide +kernel
theorem d_M_chooseSource_34 : decode c_M_chooseSource 34 = .ok (.goto 4, 3) := by decide +kernel
theorem d_M_chooseSource_37 : decode c_M_chooseSource 37 = .ok (.iconst 0, 1) := by decide +kernel
theorem d_M_chooseSource_38 : decode c_M_chooseSource 38 = .ok (.ireturn, 1) := by decide +kernel
theorem d_M_chooseSource_39 : decode c_M_chooseSource 39 = .ok (.aload_n 0, 1) := by decide +kernel
theorem d_M_chooseSource_40 : decode c_M_chooseSource 40 = .ok (.getfield 11, 3) := by decide +kernel
theorem d_M_chooseSource_43 : decode c_M_chooseSource 43 = .ok (.iconst 0, 1) := by decide +kernel
theorem d_M_chooseSource_44 : decode c_M_chooseSource 44 = .ok (.aaload, 1) := by decide +kernel
theorem d_M_chooseSource_45 : decode c_M_chooseSource 45 = .ok (.getfield 109, 3) := by decide +kernel
theorem d_M_chooseSource_48 : decode c_M_chooseSource 48 = .ok (.aload_n 0, 1) := by decide +kernel
theorem d_M_chooseSource_49 : decode c_M_chooseSource 49 = .ok (.getfield 11, 3) := by decide +kernel
theorem d_M_chooseSource_52 : decode c_M_chooseSource 52 = .ok (.iconst 1, 1) := by decide +kernel
theorem d_M_chooseSource_53 : decode c_M_chooseSource 53 = .ok (.aaload, 1) := by decide +kernel
theorem d_M_chooseSource_54 : decode c_M_chooseSource 54 = .ok (.getfield 109, 3) := by decide +kernel
theorem d_M_chooseSource_57 : decode c_M_chooseSource 57 = .ok (.if_icmp .le 7, 3) := by decide +kernel
theorem d_M_chooseSource_60 : decode c_M_chooseSource 60 = .ok (.iconst 0, 1) := by decide +kernel
theorem d_M_chooseSource_61 : decode c_M_chooseSource 61 = .ok (.goto 4, 3) := by decide +kernel
theorem d_M_chooseSource_64 : decode c_M_chooseSource 64 = .ok (.iconst 1, 1) := by decide +kernel
theorem d_M_chooseSource_65 : decode c_M_chooseSource 65 = .ok (.ireturn, 1) := by decide +kernel
