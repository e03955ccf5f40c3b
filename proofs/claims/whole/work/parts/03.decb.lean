theorem d_M_extentsThatMayDiffer_0 : decode c_M_extentsThatMayDiffer 0 = .ok (.aload_n 0, 1) := by decide +kernel
theorem d_M_extentsThatMayDiffer_1 : decode c_M_extentsThatMayDiffer 1 = .ok (.getfield 11, 3) := by decide +kernel
theorem d_M_extentsThatMayDiffer_4 : decode c_M_extentsThatMayDiffer 4 = .ok (.aload_n 0, 1) := by decide +kernel
theorem d_M_extentsThatMayDiffer_5 : decode c_M_extentsThatMayDiffer 5 = .ok (.getfield 32, 3) := by decide +kernel
theorem d_M_extentsThatMayDiffer_8 : decode c_M_extentsThatMayDiffer 8 = .ok (.aaload, 1) := by decide +kernel
theorem d_M_extentsThatMayDiffer_9 : decode c_M_extentsThatMayDiffer 9 = .ok (.astore_n 1, 1) := by decide +kernel
theorem d_M_extentsThatMayDiffer_10 : decode c_M_extentsThatMayDiffer 10 = .ok (.aload_n 0, 1) := by decide +kernel
theorem d_M_extentsThatMayDiffer_11 : decode c_M_extentsThatMayDiffer 11 = .ok (.getfield 11, 3) := by decide +kernel
theorem d_M_extentsThatMayDiffer_14 : decode c_M_extentsThatMayDiffer 14 = .ok (.iconst 1, 1) := by decide +kernel
theorem d_M_extentsThatMayDiffer_15 : decode c_M_extentsThatMayDiffer 15 = .ok (.aload_n 0, 1) := by decide +kernel
theorem d_M_extentsThatMayDiffer_16 : decode c_M_extentsThatMayDiffer 16 = .ok (.getfield 32, 3) := by decide +kernel
theorem d_M_extentsThatMayDiffer_19 : decode c_M_extentsThatMayDiffer 19 = .ok (.isub, 1) := by decide +kernel
theorem d_M_extentsThatMayDiffer_20 : decode c_M_extentsThatMayDiffer 20 = .ok (.aaload, 1) := by decide +kernel
theorem d_M_extentsThatMayDiffer_21 : decode c_M_extentsThatMayDiffer 21 = .ok (.astore_n 2, 1) := by decide +kernel
theorem d_M_extentsThatMayDiffer_22 : decode c_M_extentsThatMayDiffer 22 = .ok (.aload_n 1, 1) := by decide +kernel
theorem d_M_extentsThatMayDiffer_23 : decode c_M_extentsThatMayDiffer 23 = .ok (.getfield 109, 3) := by decide +kernel
theorem d_M_extentsThatMayDiffer_26 : decode c_M_extentsThatMayDiffer 26 = .ok (.aload_n 2, 1) := by decide +kernel
theorem d_M_extentsThatMayDiffer_27 : decode c_M_extentsThatMayDiffer 27 = .ok (.getfield 109, 3) := by decide +kernel
theorem d_M_extentsThatMayDiffer_30 : decode c_M_extentsThatMayDiffer 30 = .ok (.if_icmp .eq 21, 3) := by decide +kernel
theorem d_M_extentsThatMayDiffer_33 : decode c_M_extentsThatMayDiffer 33 = .ok (.aload_n 1, 1) := by decide +kernel
theorem d_M_extentsThatMayDiffer_34 : decode c_M_extentsThatMayDiffer 34 = .ok (.getfield 187, 3) := by decide +kernel
theorem d_M_extentsThatMayDiffer_37 : decode c_M_extentsThatMayDiffer 37 = .ok (.ifCond .eq 18, 3) := by decide +kernel
theorem d_M_extentsThatMayDiffer_40 : decode c_M_extentsThatMayDiffer 40 = .ok (.aload_n 1, 1) := by decide +kernel
theorem d_M_extentsThatMayDiffer_41 : decode c_M_extentsThatMayDiffer 41 = .ok (.getfield 184, 3) := by decide +kernel
theorem d_M_extentsThatMayDiffer_44 : decode c_M_extentsThatMayDiffer 44 = .ok (.aload_n 2, 1) := by decide +kernel
theorem d_M_extentsThatMayDiffer_45 : decode c_M_extentsThatMayDiffer 45 = .ok (.getfield 109, 3) := by decide +kernel
theorem d_M_extentsThatMayDiffer_48 : decode c_M_extentsThatMayDiffer 48 = .ok (.if_icmp .ne 7, 3) := by decide +kernel
theorem d_M_extentsThatMayDiffer_51 : decode c_M_extentsThatMayDiffer 51 = .ok (.iconst 1, 1) := by decide +kernel
theorem d_M_extentsThatMayDiffer_52 : decode c_M_extentsThatMayDiffer 52 = .ok (.goto 4, 3) := by decide +kernel
theorem d_M_extentsThatMayDiffer_55 : decode c_M_extentsThatMayDiffer 55 = .ok (.iconst 0, 1) := by decide +kernel
theorem d_M_extentsThatMayDiffer_56 : decode c_M_extentsThatMayDiffer 56 = .ok (.istore_n 3, 1) := by decide +kernel
theorem d_M_extentsThatMayDiffer_57 : decode c_M_extentsThatMayDiffer 57 = .ok (.iload_n 3, 1) := by decide +kernel
theorem d_M_extentsThatMayDiffer_58 : decode c_M_extentsThatMayDiffer 58 = .ok (.ifCond .eq 15, 3) := by decide +kernel
theorem d_M_extentsThatMayDiffer_61 : decode c_M_extentsThatMayDiffer 61 = .ok (.aload_n 1, 1) := by decide +kernel
theorem d_M_extentsThatMayDiffer_62 : decode c_M_extentsThatMayDiffer 62 = .ok (.getfield 129, 3) := by decide +kernel
theorem d_M_extentsThatMayDiffer_65 : decode c_M_extentsThatMayDiffer 65 = .ok (.aload_n 2, 1) := by decide +kernel
theorem d_M_extentsThatMayDiffer_66 : decode c_M_extentsThatMayDiffer 66 = .ok (.getfield 129, 3) := by decide +kernel
theorem d_M_extentsThatMayDiffer_69 : decode c_M_extentsThatMayDiffer 69 = .ok (.ior, 1) := by decide +kernel
theorem d_M_extentsThatMayDiffer_70 : decode c_M_extentsThatMayDiffer 70 = .ok (.goto 6, 3) := by decide +kernel
theorem d_M_extentsThatMayDiffer_73 : decode c_M_extentsThatMayDiffer 73 = .ok (.sipush 255, 3) := by decide +kernel
theorem d_M_extentsThatMayDiffer_76 : decode c_M_extentsThatMayDiffer 76 = .ok (.ireturn, 1) := by decide +kernel
theorem d_M_finishSync_0 : decode c_M_finishSync 0 = .ok (.aload_n 0, 1) := by decide +kernel
theorem d_M_finishSync_1 : decode c_M_finishSync 1 = .ok (.getfield 11, 3) := by decide +kernel
theorem d_M_finishSync_4 : decode c_M_finishSync 4 = .ok (.iconst 1, 1) := by decide +kernel
theorem d_M_finishSync_5 : decode c_M_finishSync 5 = .ok (.aload_n 0, 1) := by decide +kernel
theorem d_M_finishSync_6 : decode c_M_finishSync 6 = .ok (.getfield 32, 3) := by decide +kernel
theorem d_M_finishSync_9 : decode c_M_finishSync 9 = .ok (.isub, 1) := by decide +kernel
theorem d_M_finishSync_10 : decode c_M_finishSync 10 = .ok (.aaload, 1) := by decide +kernel
theorem d_M_finishSync_11 : decode c_M_finishSync 11 = .ok (.aload_n 0, 1) := by decide +kernel
theorem d_M_finishSync_12 : decode c_M_finishSync 12 = .ok (.getfield 11, 3) := by decide +kernel
theorem d_M_finishSync_15 : decode c_M_finishSync 15 = .ok (.aload_n 0, 1) := by decide +kernel
theorem d_M_finishSync_16 : decode c_M_finishSync 16 = .ok (.getfield 32, 3) := by decide +kernel
theorem d_M_finishSync_19 : decode c_M_finishSync 19 = .ok (.aaload, 1) := by decide +kernel
theorem d_M_finishSync_20 : decode c_M_finishSync 20 = .ok (.getfield 109, 3) := by decide +kernel
theorem d_M_finishSync_23 : decode c_M_finishSync 23 = .ok (.putfield 109, 3) := by decide +kernel
theorem d_M_finishSync_26 : decode c_M_finishSync 26 = .ok (.iconst 0, 1) := by decide +kernel
theorem d_M_finishSync_27 : decode c_M_finishSync 27 = .ok (.istore_n 1, 1) := by decide +kernel
theorem d_M_finishSync_28 : decode c_M_finishSync 28 = .ok (.iload_n 1, 1) := by decide +kernel
theorem d_M_finishSync_29 : decode c_M_finishSync 29 = .ok (.iconst 2, 1) := by decide +kernel
theorem d_M_finishSync_30 : decode c_M_finishSync 30 = .ok (.if_icmp .ge 41, 3) := by decide +kernel
theorem d_M_finishSync_33 : decode c_M_finishSync 33 = .ok (.aload_n 0, 1) := by decide +kernel
theorem d_M_finishSync_34 : decode c_M_finishSync 34 = .ok (.getfield 11, 3) := by decide +kernel
theorem d_M_finishSync_37 : decode c_M_finishSync 37 = .ok (.iload_n 1, 1) := by decide +kernel
theorem d_M_finishSync_38 : decode c_M_finishSync 38 = .ok (.aaload, 1) := by decide +kernel
theorem d_M_finishSync_39 : decode c_M_finishSync 39 = .ok (.getfield 87, 3) := by decide +kernel
theorem d_M_finishSync_42 : decode c_M_finishSync 42 = .ok (.invokevirtual 202, 3) := by decide +kernel
theorem d_M_finishSync_45 : decode c_M_finishSync 45 = .ok (.aload_n 0, 1) := by decide +kernel
theorem d_M_finishSync_46 : decode c_M_finishSync 46 = .ok (.getfield 11, 3) := by decide +kernel
theorem d_M_finishSync_49 : decode c_M_finishSync 49 = .ok (.iload_n 1, 1) := by decide +kernel
theorem d_M_finishSync_50 : decode c_M_finishSync 50 = .ok (.aaload, 1) := by decide +kernel
theorem d_M_finishSync_51 : decode c_M_finishSync 51 = .ok (.iconst 0, 1) := by decide +kernel
theorem d_M_finishSync_52 : decode c_M_finishSync 52 = .ok (.putfield 187, 3) := by decide +kernel
theorem d_M_finishSync_55 : decode c_M_finishSync 55 = .ok (.aload_n 0, 1) := by decide +kernel
theorem d_M_finishSync_56 : decode c_M_finishSync 56 = .ok (.getfield 11, 3) := by decide +kernel
theorem d_M_finishSync_59 : decode c_M_finishSync 59 = .ok (.iload_n 1, 1) := by decide +kernel
theorem d_M_finishSync_60 : decode c_M_finishSync 60 = .ok (.aaload, 1) := by decide +kernel
theorem d_M_finishSync_61 : decode c_M_finishSync 61 = .ok (.iconst 0, 1) := by decide +kernel
theorem d_M_finishSync_62 : decode c_M_finishSync 62 = .ok (.putfield 129, 3) := by decide +kernel
theorem d_M_finishSync_65 : decode c_M_finishSync 65 = .ok (.iinc 1 1, 3) := by decide +kernel
theorem d_M_finishSync_68 : decode c_M_finishSync 68 = .ok (.goto (-40), 3) := by decide +kernel
theorem d_M_finishSync_71 : decode c_M_finishSync 71 = .ok (.aload_n 0, 1) := by decide +kernel
theorem d_M_finishSync_72 : decode c_M_finishSync 72 = .ok (.iconst 0, 1) := by decide +kernel
theorem d_M_finishSync_73 : decode c_M_finishSync 73 = .ok (.putfield 29, 3) := by decide +kernel
theorem d_M_finishSync_76 : decode c_M_finishSync 76 = .ok (.return_, 1) := by decide +kernel
theorem d_M_startSync_0 : decode c_M_startSync 0 = .ok (.aload_n 0, 1) := by decide +kernel
theorem d_M_startSync_1 : decode c_M_startSync 1 = .ok (.getfield 11, 3) := by decide +kernel
theorem d_M_startSync_4 : decode c_M_startSync 4 = .ok (.iconst 1, 1) := by decide +kernel
theorem d_M_startSync_5 : decode c_M_startSync 5 = .ok (.aload_n 0, 1) := by decide +kernel
theorem d_M_startSync_6 : decode c_M_startSync 6 = .ok (.getfield 32, 3) := by decide +kernel
theorem d_M_startSync_9 : decode c_M_startSync 9 = .ok (.isub, 1) := by decide +kernel
theorem d_M_startSync_10 : decode c_M_startSync 10 = .ok (.aaload, 1) := by decide +kernel
theorem d_M_startSync_11 : decode c_M_startSync 11 = .ok (.astore_n 2, 1) := by decide +kernel
theorem d_M_startSync_12 : decode c_M_startSync 12 = .ok (.aload_n 0, 1) := by decide +kernel
theorem d_M_startSync_13 : decode c_M_startSync 13 = .ok (.getfield 11, 3) := by decide +kernel
theorem d_M_startSync_16 : decode c_M_startSync 16 = .ok (.aload_n 0, 1) := by decide +kernel
theorem d_M_startSync_17 : decode c_M_startSync 17 = .ok (.getfield 32, 3) := by decide +kernel
theorem d_M_startSync_20 : decode c_M_startSync 20 = .ok (.aaload, 1) := by decide +kernel
theorem d_M_startSync_21 : decode c_M_startSync 21 = .ok (.iload_n 1, 1) := by decide +kernel
theorem d_M_startSync_22 : decode c_M_startSync 22 = .ok (.putfield 129, 3) := by decide +kernel
theorem d_M_startSync_25 : decode c_M_startSync 25 = .ok (.aload_n 2, 1) := by decide +kernel
theorem d_M_startSync_26 : decode c_M_startSync 26 = .ok (.iconst 0, 1) := by decide +kernel
theorem d_M_startSync_27 : decode c_M_startSync 27 = .ok (.putfield 129, 3) := by decide +kernel
theorem d_M_startSync_30 : decode c_M_startSync 30 = .ok (.aload_n 2, 1) := by decide +kernel
theorem d_M_startSync_31 : decode c_M_startSync 31 = .ok (.iconst 0, 1) := by decide +kernel
theorem d_M_startSync_32 : decode c_M_startSync 32 = .ok (.putfield 109, 3) := by decide +kernel
theorem d_M_startSync_35 : decode c_M_startSync 35 = .ok (.aload_n 2, 1) := by decide +kernel
theorem d_M_startSync_36 : decode c_M_startSync 36 = .ok (.iconst 0, 1) := by decide +kernel
theorem d_M_startSync_37 : decode c_M_startSync 37 = .ok (.putfield 187, 3) := by decide +kernel
theorem d_M_startSync_40 : decode c_M_startSync 40 = .ok (.aload_n 0, 1) := by decide +kernel
theorem d_M_startSync_41 : decode c_M_startSync 41 = .ok (.iconst 1, 1) := by decide +kernel
theorem d_M_startSync_42 : decode c_M_startSync 42 = .ok (.putfield 29, 3) := by decide +kernel
theorem d_M_startSync_45 : decode c_M_startSync 45 = .ok (.return_, 1) := by decide +kernel
theorem d_J_bitCount_0 : decode c_J_bitCount 0 = .ok (.iload_n 0, 1) := by decide +kernel
theorem d_J_bitCount_1 : decode c_J_bitCount 1 = .ok (.iload_n 0, 1) := by decide +kernel
theorem d_J_bitCount_2 : decode c_J_bitCount 2 = .ok (.iconst 1, 1) := by decide +kernel
theorem d_J_bitCount_3 : decode c_J_bitCount 3 = .ok (.iushr, 1) := by decide +kernel
theorem d_J_bitCount_4 : decode c_J_bitCount 4 = .ok (.ldc_w 265, 3) := by decide +kernel
theorem d_J_bitCount_7 : decode c_J_bitCount 7 = .ok (.iand, 1) := by decide +kernel
theorem d_J_bitCount_8 : decode c_J_bitCount 8 = .ok (.isub, 1) := by decide +kernel
theorem d_J_bitCount_9 : decode c_J_bitCount 9 = .ok (.istore_n 0, 1) := by decide +kernel
theorem d_J_bitCount_10 : decode c_J_bitCount 10 = .ok (.iload_n 0, 1) := by decide +kernel
theorem d_J_bitCount_11 : decode c_J_bitCount 11 = .ok (.ldc_w 266, 3) := by decide +kernel
theorem d_J_bitCount_14 : decode c_J_bitCount 14 = .ok (.iand, 1) := by decide +kernel
theorem d_J_bitCount_15 : decode c_J_bitCount 15 = .ok (.iload_n 0, 1) := by decide +kernel
theorem d_J_bitCount_16 : decode c_J_bitCount 16 = .ok (.iconst 2, 1) := by decide +kernel
theorem d_J_bitCount_17 : decode c_J_bitCount 17 = .ok (.iushr, 1) := by decide +kernel
theorem d_J_bitCount_18 : decode c_J_bitCount 18 = .ok (.ldc_w 266, 3) := by decide +kernel
theorem d_J_bitCount_21 : decode c_J_bitCount 21 = .ok (.iand, 1) := by decide +kernel
theorem d_J_bitCount_22 : decode c_J_bitCount 22 = .ok (.iadd, 1) := by decide +kernel
theorem d_J_bitCount_23 : decode c_J_bitCount 23 = .ok (.istore_n 0, 1) := by decide +kernel
theorem d_J_bitCount_24 : decode c_J_bitCount 24 = .ok (.iload_n 0, 1) := by decide +kernel
theorem d_J_bitCount_25 : decode c_J_bitCount 25 = .ok (.iload_n 0, 1) := by decide +kernel
theorem d_J_bitCount_26 : decode c_J_bitCount 26 = .ok (.iconst 4, 1) := by decide +kernel
theorem d_J_bitCount_27 : decode c_J_bitCount 27 = .ok (.iushr, 1) := by decide +kernel
theorem d_J_bitCount_28 : decode c_J_bitCount 28 = .ok (.iadd, 1) := by decide +kernel
theorem d_J_bitCount_29 : decode c_J_bitCount 29 = .ok (.ldc_w 267, 3) := by decide +kernel
theorem d_J_bitCount_32 : decode c_J_bitCount 32 = .ok (.iand, 1) := by decide +kernel
theorem d_J_bitCount_33 : decode c_J_bitCount 33 = .ok (.istore_n 0, 1) := by decide +kernel
theorem d_J_bitCount_34 : decode c_J_bitCount 34 = .ok (.iload_n 0, 1) := by decide +kernel
theorem d_J_bitCount_35 : decode c_J_bitCount 35 = .ok (.iload_n 0, 1) := by decide +kernel
theorem d_J_bitCount_36 : decode c_J_bitCount 36 = .ok (.bipush 8, 2) := by decide +kernel
theorem d_J_bitCount_38 : decode c_J_bitCount 38 = .ok (.iushr, 1) := by decide +kernel
theorem d_J_bitCount_39 : decode c_J_bitCount 39 = .ok (.iadd, 1) := by decide +kernel
theorem d_J_bitCount_40 : decode c_J_bitCount 40 = .ok (.istore_n 0, 1) := by decide +kernel
theorem d_J_bitCount_41 : decode c_J_bitCount 41 = .ok (.iload_n 0, 1) := by decide +kernel
theorem d_J_bitCount_42 : decode c_J_bitCount 42 = .ok (.iload_n 0, 1) := by decide +kernel
theorem d_J_bitCount_43 : decode c_J_bitCount 43 = .ok (.bipush 16, 2) := by decide +kernel
theorem d_J_bitCount_45 : decode c_J_bitCount 45 = .ok (.iushr, 1) := by decide +kernel
theorem d_J_bitCount_46 : decode c_J_bitCount 46 = .ok (.iadd, 1) := by decide +kernel
theorem d_J_bitCount_47 : decode c_J_bitCount 47 = .ok (.istore_n 0, 1) := by decide +kernel
theorem d_J_bitCount_48 : decode c_J_bitCount 48 = .ok (.iload_n 0, 1) := by decide +kernel
theorem d_J_bitCount_49 : decode c_J_bitCount 49 = .ok (.bipush 63, 2) := by decide +kernel
theorem d_J_bitCount_51 : decode c_J_bitCount 51 = .ok (.iand, 1) := by decide +kernel
theorem d_J_bitCount_52 : decode c_J_bitCount 52 = .ok (.ireturn, 1) := by decide +kernel
theorem d_M_resync_0 : decode c_M_resync 0 = .ok (.iload_n 1, 1) := by decide +kernel
theorem d_M_resync_1 : decode c_M_resync 1 = .ok (.iconst 1, 1) := by decide +kernel
theorem d_M_resync_2 : decode c_M_resync 2 = .ok (.if_icmp .lt 15, 3) := by decide +kernel
theorem d_M_resync_5 : decode c_M_resync 5 = .ok (.iload_n 1, 1) := by decide +kernel
theorem d_M_resync_6 : decode c_M_resync 6 = .ok (.iconst 4, 1) := by decide +kernel
theorem d_M_resync_7 : decode c_M_resync 7 = .ok (.if_icmp .gt 10, 3) := by decide +kernel
theorem d_M_resync_10 : decode c_M_resync 10 = .ok (.aload_n 0, 1) := by decide +kernel
theorem d_M_resync_11 : decode c_M_resync 11 = .ok (.getfield 29, 3) := by decide +kernel
theorem d_M_resync_14 : decode c_M_resync 14 = .ok (.ifCond .ne 5, 3) := by decide +kernel
theorem d_M_resync_17 : decode c_M_resync 17 = .ok (.iconst (-1), 1) := by decide +kernel
theorem d_M_resync_18 : decode c_M_resync 18 = .ok (.ireturn, 1) := by decide +kernel
theorem d_M_resync_19 : decode c_M_resync 19 = .ok (.aload_n 0, 1) := by decide +kernel
theorem d_M_resync_20 : decode c_M_resync 20 = .ok (.getfield 11, 3) := by decide +kernel
theorem d_M_resync_23 : decode c_M_resync 23 = .ok (.aload_n 0, 1) := by decide +kernel
theorem d_M_resync_24 : decode c_M_resync 24 = .ok (.getfield 32, 3) := by decide +kernel
theorem d_M_resync_27 : decode c_M_resync 27 = .ok (.aaload, 1) := by decide +kernel
theorem d_M_resync_28 : decode c_M_resync 28 = .ok (.astore_n 2, 1) := by decide +kernel
theorem d_M_resync_29 : decode c_M_resync 29 = .ok (.iconst 0, 1) := by decide +kernel
theorem d_M_resync_30 : decode c_M_resync 30 = .ok (.istore_n 3, 1) := by decide +kernel
theorem d_M_resync_31 : decode c_M_resync 31 = .ok (.iload_n 3, 1) := by decide +kernel
theorem d_M_resync_32 : decode c_M_resync 32 = .ok (.iload_n 1, 1) := by decide +kernel
theorem d_M_resync_33 : decode c_M_resync 33 = .ok (.if_icmp .ge 46, 3) := by decide +kernel
theorem d_M_resync_36 : decode c_M_resync 36 = .ok (.aload_n 2, 1) := by decide +kernel
theorem d_M_resync_37 : decode c_M_resync 37 = .ok (.getfield 129, 3) := by decide +kernel
theorem d_M_resync_40 : decode c_M_resync 40 = .ok (.ifCond .eq 39, 3) := by decide +kernel
theorem d_M_resync_43 : decode c_M_resync 43 = .ok (.aload_n 2, 1) := by decide +kernel
theorem d_M_resync_44 : decode c_M_resync 44 = .ok (.getfield 129, 3) := by decide +kernel
theorem d_M_resync_47 : decode c_M_resync 47 = .ok (.invokestatic 132, 3) := by decide +kernel
theorem d_M_resync_50 : decode c_M_resync 50 = .ok (.istore 4, 2) := by decide +kernel
theorem d_M_resync_52 : decode c_M_resync 52 = .ok (.aload_n 2, 1) := by decide +kernel
theorem d_M_resync_53 : decode c_M_resync 53 = .ok (.dup, 1) := by decide +kernel
theorem d_M_resync_54 : decode c_M_resync 54 = .ok (.getfield 129, 3) := by decide +kernel
theorem d_M_resync_57 : decode c_M_resync 57 = .ok (.iconst 1, 1) := by decide +kernel
theorem d_M_resync_58 : decode c_M_resync 58 = .ok (.iload 4, 2) := by decide +kernel
theorem d_M_resync_60 : decode c_M_resync 60 = .ok (.ishl, 1) := by decide +kernel
theorem d_M_resync_61 : decode c_M_resync 61 = .ok (.iconst (-1), 1) := by decide +kernel
theorem d_M_resync_62 : decode c_M_resync 62 = .ok (.ixor, 1) := by decide +kernel
theorem d_M_resync_63 : decode c_M_resync 63 = .ok (.iand, 1) := by decide +kernel
theorem d_M_resync_64 : decode c_M_resync 64 = .ok (.putfield 129, 3) := by decide +kernel
theorem d_M_resync_67 : decode c_M_resync 67 = .ok (.aload_n 0, 1) := by decide +kernel
theorem d_M_resync_68 : decode c_M_resync 68 = .ok (.iload 4, 2) := by decide +kernel
theorem d_M_resync_70 : decode c_M_resync 70 = .ok (.invokevirtual 135, 3) := by decide +kernel
theorem d_M_resync_73 : decode c_M_resync 73 = .ok (.iinc 3 1, 3) := by decide +kernel
theorem d_M_resync_76 : decode c_M_resync 76 = .ok (.goto (-45), 3) := by decide +kernel
theorem d_M_resync_79 : decode c_M_resync 79 = .ok (.aload_n 2, 1) := by decide +kernel
theorem d_M_resync_80 : decode c_M_resync 80 = .ok (.getfield 129, 3) := by decide +kernel
theorem d_M_resync_83 : decode c_M_resync 83 = .ok (.invokestatic 124, 3) := by decide +kernel
theorem d_M_resync_86 : decode c_M_resync 86 = .ok (.istore_n 3, 1) := by decide +kernel
theorem d_M_resync_87 : decode c_M_resync 87 = .ok (.iload_n 3, 1) := by decide +kernel
theorem d_M_resync_88 : decode c_M_resync 88 = .ok (.ifCond .ne 7, 3) := by decide +kernel
theorem d_M_resync_91 : decode c_M_resync 91 = .ok (.aload_n 0, 1) := by decide +kernel
theorem d_M_resync_92 : decode c_M_resync 92 = .ok (.invokevirtual 118, 3) := by decide +kernel
theorem d_M_resync_95 : decode c_M_resync 95 = .ok (.iload_n 3, 1) := by decide +kernel
theorem d_M_resync_96 : decode c_M_resync 96 = .ok (.ireturn, 1) := by decide +kernel
theorem d_J_numberOfTrailingZeros_0 : decode c_J_numberOfTrailingZeros 0 = .ok (.iload_n 0, 1) := by decide +kernel
theorem d_J_numberOfTrailingZeros_1 : decode c_J_numberOfTrailingZeros 1 = .ok (.iconst (-1), 1) := by decide +kernel
theorem d_J_numberOfTrailingZeros_2 : decode c_J_numberOfTrailingZeros 2 = .ok (.ixor, 1) := by decide +kernel
theorem d_J_numberOfTrailingZeros_3 : decode c_J_numberOfTrailingZeros 3 = .ok (.iload_n 0, 1) := by decide +kernel
theorem d_J_numberOfTrailingZeros_4 : decode c_J_numberOfTrailingZeros 4 = .ok (.iconst 1, 1) := by decide +kernel
theorem d_J_numberOfTrailingZeros_5 : decode c_J_numberOfTrailingZeros 5 = .ok (.isub, 1) := by decide +kernel
theorem d_J_numberOfTrailingZeros_6 : decode c_J_numberOfTrailingZeros 6 = .ok (.iand, 1) := by decide +kernel
theorem d_J_numberOfTrailingZeros_7 : decode c_J_numberOfTrailingZeros 7 = .ok (.istore_n 0, 1) := by decide +kernel
theorem d_J_numberOfTrailingZeros_8 : decode c_J_numberOfTrailingZeros 8 = .ok (.iload_n 0, 1) := by decide +kernel
theorem d_J_numberOfTrailingZeros_9 : decode c_J_numberOfTrailingZeros 9 = .ok (.ifCond .gt 8, 3) := by decide +kernel
theorem d_J_numberOfTrailingZeros_12 : decode c_J_numberOfTrailingZeros 12 = .ok (.iload_n 0, 1) := by decide +kernel
theorem d_J_numberOfTrailingZeros_13 : decode c_J_numberOfTrailingZeros 13 = .ok (.bipush 32, 2) := by decide +kernel
theorem d_J_numberOfTrailingZeros_15 : decode c_J_numberOfTrailingZeros 15 = .ok (.iand, 1) := by decide +kernel
theorem d_J_numberOfTrailingZeros_16 : decode c_J_numberOfTrailingZeros 16 = .ok (.ireturn, 1) := by decide +kernel
theorem d_J_numberOfTrailingZeros_17 : decode c_J_numberOfTrailingZeros 17 = .ok (.iconst 1, 1) := by decide +kernel
theorem d_J_numberOfTrailingZeros_18 : decode c_J_numberOfTrailingZeros 18 = .ok (.istore_n 1, 1) := by decide +kernel
theorem d_J_numberOfTrailingZeros_19 : decode c_J_numberOfTrailingZeros 19 = .ok (.iload_n 0, 1) := by decide +kernel
theorem d_J_numberOfTrailingZeros_20 : decode c_J_numberOfTrailingZeros 20 = .ok (.ldc_w 264, 3) := by decide +kernel
theorem d_J_numberOfTrailingZeros_23 : decode c_J_numberOfTrailingZeros 23 = .ok (.if_icmp .le 11, 3) := by decide +kernel
theorem d_J_numberOfTrailingZeros_26 : decode c_J_numberOfTrailingZeros 26 = .ok (.iinc 1 16, 3) := by decide +kernel
theorem d_J_numberOfTrailingZeros_29 : decode c_J_numberOfTrailingZeros 29 = .ok (.iload_n 0, 1) := by decide +kernel
theorem d_J_numberOfTrailingZeros_30 : decode c_J_numberOfTrailingZeros 30 = .ok (.bipush 16, 2) := by decide +kernel
theorem d_J_numberOfTrailingZeros_32 : decode c_J_numberOfTrailingZeros 32 = .ok (.iushr, 1) := by decide +kernel
theorem d_J_numberOfTrailingZeros_33 : decode c_J_numberOfTrailingZeros 33 = .ok (.istore_n 0, 1) := by decide +kernel
theorem d_J_numberOfTrailingZeros_34 : decode c_J_numberOfTrailingZeros 34 = .ok (.iload_n 0, 1) := by decide +kernel
theorem d_J_numberOfTrailingZeros_35 : decode c_J_numberOfTrailingZeros 35 = .ok (.sipush 256, 3) := by decide +kernel
theorem d_J_numberOfTrailingZeros_38 : decode c_J_numberOfTrailingZeros 38 = .ok (.if_icmp .le 11, 3) := by decide +kernel
theorem d_J_numberOfTrailingZeros_41 : decode c_J_numberOfTrailingZeros 41 = .ok (.iinc 1 8, 3) := by decide +kernel
theorem d_J_numberOfTrailingZeros_44 : decode c_J_numberOfTrailingZeros 44 = .ok (.iload_n 0, 1) := by decide +kernel
theorem d_J_numberOfTrailingZeros_45 : decode c_J_numberOfTrailingZeros 45 = .ok (.bipush 8, 2) := by decide +kernel
theorem d_J_numberOfTrailingZeros_47 : decode c_J_numberOfTrailingZeros 47 = .ok (.iushr, 1) := by decide +kernel
theorem d_J_numberOfTrailingZeros_48 : decode c_J_numberOfTrailingZeros 48 = .ok (.istore_n 0, 1) := by decide +kernel
theorem d_J_numberOfTrailingZeros_49 : decode c_J_numberOfTrailingZeros 49 = .ok (.iload_n 0, 1) := by decide +kernel
theorem d_J_numberOfTrailingZeros_50 : decode c_J_numberOfTrailingZeros 50 = .ok (.bipush 16, 2) := by decide +kernel
theorem d_J_numberOfTrailingZeros_52 : decode c_J_numberOfTrailingZeros 52 = .ok (.if_icmp .le 10, 3) := by decide +kernel
theorem d_J_numberOfTrailingZeros_55 : decode c_J_numberOfTrailingZeros 55 = .ok (.iinc 1 4, 3) := by decide +kernel
theorem d_J_numberOfTrailingZeros_58 : decode c_J_numberOfTrailingZeros 58 = .ok (.iload_n 0, 1) := by decide +kernel
theorem d_J_numberOfTrailingZeros_59 : decode c_J_numberOfTrailingZeros 59 = .ok (.iconst 4, 1) := by decide +kernel
theorem d_J_numberOfTrailingZeros_60 : decode c_J_numberOfTrailingZeros 60 = .ok (.iushr, 1) := by decide +kernel
theorem d_J_numberOfTrailingZeros_61 : decode c_J_numberOfTrailingZeros 61 = .ok (.istore_n 0, 1) := by decide +kernel
theorem d_J_numberOfTrailingZeros_62 : decode c_J_numberOfTrailingZeros 62 = .ok (.iload_n 0, 1) := by decide +kernel
theorem d_J_numberOfTrailingZeros_63 : decode c_J_numberOfTrailingZeros 63 = .ok (.iconst 4, 1) := by decide +kernel
theorem d_J_numberOfTrailingZeros_64 : decode c_J_numberOfTrailingZeros 64 = .ok (.if_icmp .le 10, 3) := by decide +kernel
theorem d_J_numberOfTrailingZeros_67 : decode c_J_numberOfTrailingZeros 67 = .ok (.iinc 1 2, 3) := by decide +kernel
theorem d_J_numberOfTrailingZeros_70 : decode c_J_numberOfTrailingZeros 70 = .ok (.iload_n 0, 1) := by decide +kernel
theorem d_J_numberOfTrailingZeros_71 : decode c_J_numberOfTrailingZeros 71 = .ok (.iconst 2, 1) := by decide +kernel
theorem d_J_numberOfTrailingZeros_72 : decode c_J_numberOfTrailingZeros 72 = .ok (.iushr, 1) := by decide +kernel
theorem d_J_numberOfTrailingZeros_73 : decode c_J_numberOfTrailingZeros 73 = .ok (.istore_n 0, 1) := by decide +kernel
theorem d_J_numberOfTrailingZeros_74 : decode c_J_numberOfTrailingZeros 74 = .ok (.iload_n 1, 1) := by decide +kernel
theorem d_J_numberOfTrailingZeros_75 : decode c_J_numberOfTrailingZeros 75 = .ok (.iload_n 0, 1) := by decide +kernel
theorem d_J_numberOfTrailingZeros_76 : decode c_J_numberOfTrailingZeros 76 = .ok (.iconst 1, 1) := by decide +kernel
theorem d_J_numberOfTrailingZeros_77 : decode c_J_numberOfTrailingZeros 77 = .ok (.iushr, 1) := by decide +kernel
theorem d_J_numberOfTrailingZeros_78 : decode c_J_numberOfTrailingZeros 78 = .ok (.iadd, 1) := by decide +kernel
theorem d_J_numberOfTrailingZeros_79 : decode c_J_numberOfTrailingZeros 79 = .ok (.ireturn, 1) := by decide +kernel
theorem d_M_copyExtent_0 : decode c_M_copyExtent 0 = .ok (.aload_n 0, 1) := by decide +kernel
theorem d_M_copyExtent_1 : decode c_M_copyExtent 1 = .ok (.getfield 11, 3) := by decide +kernel
theorem d_M_copyExtent_4 : decode c_M_copyExtent 4 = .ok (.aload_n 0, 1) := by decide +kernel
theorem d_M_copyExtent_5 : decode c_M_copyExtent 5 = .ok (.getfield 32, 3) := by decide +kernel
theorem d_M_copyExtent_8 : decode c_M_copyExtent 8 = .ok (.aaload, 1) := by decide +kernel
theorem d_M_copyExtent_9 : decode c_M_copyExtent 9 = .ok (.getfield 87, 3) := by decide +kernel
theorem d_M_copyExtent_12 : decode c_M_copyExtent 12 = .ok (.astore_n 2, 1) := by decide +kernel
theorem d_M_copyExtent_13 : decode c_M_copyExtent 13 = .ok (.aload_n 0, 1) := by decide +kernel
theorem d_M_copyExtent_14 : decode c_M_copyExtent 14 = .ok (.getfield 11, 3) := by decide +kernel
theorem d_M_copyExtent_17 : decode c_M_copyExtent 17 = .ok (.iconst 1, 1) := by decide +kernel
theorem d_M_copyExtent_18 : decode c_M_copyExtent 18 = .ok (.aload_n 0, 1) := by decide +kernel
theorem d_M_copyExtent_19 : decode c_M_copyExtent 19 = .ok (.getfield 32, 3) := by decide +kernel
theorem d_M_copyExtent_22 : decode c_M_copyExtent 22 = .ok (.isub, 1) := by decide +kernel
theorem d_M_copyExtent_23 : decode c_M_copyExtent 23 = .ok (.aaload, 1) := by decide +kernel
theorem d_M_copyExtent_24 : decode c_M_copyExtent 24 = .ok (.getfield 87, 3) := by decide +kernel
theorem d_M_copyExtent_27 : decode c_M_copyExtent 27 = .ok (.astore_n 3, 1) := by decide +kernel
theorem d_M_copyExtent_28 : decode c_M_copyExtent 28 = .ok (.iload_n 1, 1) := by decide +kernel
theorem d_M_copyExtent_29 : decode c_M_copyExtent 29 = .ok (.iconst 4, 1) := by decide +kernel
theorem d_M_copyExtent_30 : decode c_M_copyExtent 30 = .ok (.imul, 1) := by decide +kernel
theorem d_M_copyExtent_31 : decode c_M_copyExtent 31 = .ok (.istore 4, 2) := by decide +kernel
theorem d_M_copyExtent_33 : decode c_M_copyExtent 33 = .ok (.iload 4, 2) := by decide +kernel
theorem d_M_copyExtent_35 : decode c_M_copyExtent 35 = .ok (.istore 5, 2) := by decide +kernel
theorem d_M_copyExtent_37 : decode c_M_copyExtent 37 = .ok (.iload 5, 2) := by decide +kernel
theorem d_M_copyExtent_39 : decode c_M_copyExtent 39 = .ok (.iload 4, 2) := by decide +kernel
theorem d_M_copyExtent_41 : decode c_M_copyExtent 41 = .ok (.iconst 4, 1) := by decide +kernel
theorem d_M_copyExtent_42 : decode c_M_copyExtent 42 = .ok (.iadd, 1) := by decide +kernel
theorem d_M_copyExtent_43 : decode c_M_copyExtent 43 = .ok (.if_icmp .ge 21, 3) := by decide +kernel
theorem d_M_copyExtent_46 : decode c_M_copyExtent 46 = .ok (.aload_n 3, 1) := by decide +kernel
theorem d_M_copyExtent_47 : decode c_M_copyExtent 47 = .ok (.iload 5, 2) := by decide +kernel
theorem d_M_copyExtent_49 : decode c_M_copyExtent 49 = .ok (.aload_n 2, 1) := by decide +kernel
theorem d_M_copyExtent_50 : decode c_M_copyExtent 50 = .ok (.iload 5, 2) := by decide +kernel
theorem d_M_copyExtent_52 : decode c_M_copyExtent 52 = .ok (.invokevirtual 91, 3) := by decide +kernel
theorem d_M_copyExtent_55 : decode c_M_copyExtent 55 = .ok (.invokevirtual 199, 3) := by decide +kernel
theorem d_M_copyExtent_58 : decode c_M_copyExtent 58 = .ok (.iinc 5 1, 3) := by decide +kernel
theorem d_M_copyExtent_61 : decode c_M_copyExtent 61 = .ok (.goto (-24), 3) := by decide +kernel
theorem d_M_copyExtent_64 : decode c_M_copyExtent 64 = .ok (.return_, 1) := by decide +kernel
theorem d_M_promote_0 : decode c_M_promote 0 = .ok (.iload_n 1, 1) := by decide +kernel
theorem d_M_promote_1 : decode c_M_promote 1 = .ok (.invokestatic 97, 3) := by decide +kernel
theorem d_M_promote_4 : decode c_M_promote 4 = .ok (.ifCond .eq 15, 3) := by decide +kernel
theorem d_M_promote_7 : decode c_M_promote 7 = .ok (.aload_n 0, 1) := by decide +kernel
theorem d_M_promote_8 : decode c_M_promote 8 = .ok (.getfield 11, 3) := by decide +kernel
theorem d_M_promote_11 : decode c_M_promote 11 = .ok (.iload_n 1, 1) := by decide +kernel
theorem d_M_promote_12 : decode c_M_promote 12 = .ok (.aaload, 1) := by decide +kernel
theorem d_M_promote_13 : decode c_M_promote 13 = .ok (.invokevirtual 138, 3) := by decide +kernel
theorem d_M_promote_16 : decode c_M_promote 16 = .ok (.ifCond .ne 5, 3) := by decide +kernel
theorem d_M_promote_19 : decode c_M_promote 19 = .ok (.iconst (-1), 1) := by decide +kernel
theorem d_M_promote_20 : decode c_M_promote 20 = .ok (.ireturn, 1) := by decide +kernel
theorem d_M_promote_21 : decode c_M_promote 21 = .ok (.aload_n 0, 1) := by decide +kernel
theorem d_M_promote_22 : decode c_M_promote 22 = .ok (.getfield 11, 3) := by decide +kernel
theorem d_M_promote_25 : decode c_M_promote 25 = .ok (.iload_n 1, 1) := by decide +kernel
theorem d_M_promote_26 : decode c_M_promote 26 = .ok (.aaload, 1) := by decide +kernel
theorem d_M_promote_27 : decode c_M_promote 27 = .ok (.astore_n 3, 1) := by decide +kernel
theorem d_M_promote_28 : decode c_M_promote 28 = .ok (.aload_n 0, 1) := by decide +kernel
theorem d_M_promote_29 : decode c_M_promote 29 = .ok (.getfield 51, 3) := by decide +kernel
theorem d_M_promote_32 : decode c_M_promote 32 = .ok (.iconst 1, 1) := by decide +kernel
theorem d_M_promote_33 : decode c_M_promote 33 = .ok (.iload_n 1, 1) := by decide +kernel
theorem d_M_promote_34 : decode c_M_promote 34 = .ok (.isub, 1) := by decide +kernel
theorem d_M_promote_35 : decode c_M_promote 35 = .ok (.invokevirtual 142, 3) := by decide +kernel
theorem d_M_promote_38 : decode c_M_promote 38 = .ok (.ifCond .eq 6, 3) := by decide +kernel
theorem d_M_promote_41 : decode c_M_promote 41 = .ok (.bipush (-4), 2) := by decide +kernel
theorem d_M_promote_43 : decode c_M_promote 43 = .ok (.ireturn, 1) := by decide +kernel
theorem d_M_promote_44 : decode c_M_promote 44 = .ok (.aload_n 3, 1) := by decide +kernel
theorem d_M_promote_45 : decode c_M_promote 45 = .ok (.getfield 109, 3) := by decide +kernel
theorem d_M_promote_48 : decode c_M_promote 48 = .ok (.ifCond .ne 6, 3) := by decide +kernel
theorem d_M_promote_51 : decode c_M_promote 51 = .ok (.bipush (-6), 2) := by decide +kernel
theorem d_M_promote_53 : decode c_M_promote 53 = .ok (.ireturn, 1) := by decide +kernel
theorem d_M_promote_54 : decode c_M_promote 54 = .ok (.aload_n 3, 1) := by decide +kernel
theorem d_M_promote_55 : decode c_M_promote 55 = .ok (.getfield 109, 3) := by decide +kernel
theorem d_M_promote_58 : decode c_M_promote 58 = .ok (.aload_n 0, 1) := by decide +kernel
theorem d_M_promote_59 : decode c_M_promote 59 = .ok (.getfield 51, 3) := by decide +kernel
theorem d_M_promote_62 : decode c_M_promote 62 = .ok (.getfield 145, 3) := by decide +kernel
theorem d_M_promote_65 : decode c_M_promote 65 = .ok (.if_icmp .eq 7, 3) := by decide +kernel
theorem d_M_promote_68 : decode c_M_promote 68 = .ok (.iconst 1, 1) := by decide +kernel
theorem d_M_promote_69 : decode c_M_promote 69 = .ok (.goto 4, 3) := by decide +kernel
theorem d_M_promote_72 : decode c_M_promote 72 = .ok (.iconst 0, 1) := by decide +kernel
theorem d_M_promote_73 : decode c_M_promote 73 = .ok (.istore 4, 2) := by decide +kernel
theorem d_M_promote_75 : decode c_M_promote 75 = .ok (.iload 4, 2) := by decide +kernel
theorem d_M_promote_77 : decode c_M_promote 77 = .ok (.ifCond .eq 10, 3) := by decide +kernel
theorem d_M_promote_80 : decode c_M_promote 80 = .ok (.iload_n 2, 1) := by decide +kernel
theorem d_M_promote_81 : decode c_M_promote 81 = .ok (.ifCond .ne 6, 3) := by decide +kernel
theorem d_M_promote_84 : decode c_M_promote 84 = .ok (.bipush (-5), 2) := by decide +kernel
theorem d_M_promote_86 : decode c_M_promote 86 = .ok (.ireturn, 1) := by decide +kernel
theorem d_M_promote_87 : decode c_M_promote 87 = .ok (.aload_n 0, 1) := by decide +kernel
theorem d_M_promote_88 : decode c_M_promote 88 = .ok (.iconst 1, 1) := by decide +kernel
theorem d_M_promote_89 : decode c_M_promote 89 = .ok (.iload_n 1, 1) := by decide +kernel
theorem d_M_promote_90 : decode c_M_promote 90 = .ok (.isub, 1) := by decide +kernel
theorem d_M_promote_91 : decode c_M_promote 91 = .ok (.invokevirtual 146, 3) := by decide +kernel
theorem d_M_promote_94 : decode c_M_promote 94 = .ok (.aload_n 3, 1) := by decide +kernel
theorem d_M_promote_95 : decode c_M_promote 95 = .ok (.iconst 1, 1) := by decide +kernel
theorem d_M_promote_96 : decode c_M_promote 96 = .ok (.putfield 149, 3) := by decide +kernel
theorem d_M_promote_99 : decode c_M_promote 99 = .ok (.aload_n 0, 1) := by decide +kernel
theorem d_M_promote_100 : decode c_M_promote 100 = .ok (.getfield 51, 3) := by decide +kernel
theorem d_M_promote_103 : decode c_M_promote 103 = .ok (.iload_n 1, 1) := by decide +kernel
theorem d_M_promote_104 : decode c_M_promote 104 = .ok (.invokevirtual 152, 3) := by decide +kernel
theorem d_M_promote_107 : decode c_M_promote 107 = .ok (.iload 4, 2) := by decide +kernel
theorem d_M_promote_109 : decode c_M_promote 109 = .ok (.ifCond .ne 11, 3) := by decide +kernel
theorem d_M_promote_112 : decode c_M_promote 112 = .ok (.aload_n 0, 1) := by decide +kernel
theorem d_M_promote_113 : decode c_M_promote 113 = .ok (.iload_n 1, 1) := by decide +kernel
theorem d_M_promote_114 : decode c_M_promote 114 = .ok (.invokevirtual 70, 3) := by decide +kernel
theorem d_M_promote_117 : decode c_M_promote 117 = .ok (.ifCond .eq 8, 3) := by decide +kernel
theorem d_M_promote_120 : decode c_M_promote 120 = .ok (.aload_n 0, 1) := by decide +kernel
theorem d_M_promote_121 : decode c_M_promote 121 = .ok (.iload_n 1, 1) := by decide +kernel
theorem d_M_promote_122 : decode c_M_promote 122 = .ok (.invokevirtual 76, 3) := by decide +kernel
theorem d_M_promote_125 : decode c_M_promote 125 = .ok (.aload_n 0, 1) := by decide +kernel
theorem d_M_promote_126 : decode c_M_promote 126 = .ok (.iload_n 1, 1) := by decide +kernel
theorem d_M_promote_127 : decode c_M_promote 127 = .ok (.invokevirtual 155, 3) := by decide +kernel
theorem d_M_promote_130 : decode c_M_promote 130 = .ok (.aload_n 0, 1) := by decide +kernel
theorem d_M_promote_131 : decode c_M_promote 131 = .ok (.iload_n 1, 1) := by decide +kernel
theorem d_M_promote_132 : decode c_M_promote 132 = .ok (.invokevirtual 158, 3) := by decide +kernel
theorem d_M_promote_135 : decode c_M_promote 135 = .ok (.ireturn, 1) := by decide +kernel
theorem d_N_mayAskForLease_0 : decode c_N_mayAskForLease 0 = .ok (.aload_n 0, 1) := by decide +kernel
theorem d_N_mayAskForLease_1 : decode c_N_mayAskForLease 1 = .ok (.getfield 16, 3) := by decide +kernel
theorem d_N_mayAskForLease_4 : decode c_N_mayAskForLease 4 = .ok (.ifCond .eq 21, 3) := by decide +kernel
theorem d_N_mayAskForLease_7 : decode c_N_mayAskForLease 7 = .ok (.aload_n 0, 1) := by decide +kernel
theorem d_N_mayAskForLease_8 : decode c_N_mayAskForLease 8 = .ok (.getfield 20, 3) := by decide +kernel
theorem d_N_mayAskForLease_11 : decode c_N_mayAskForLease 11 = .ok (.ifCond .ne 14, 3) := by decide +kernel
theorem d_N_mayAskForLease_14 : decode c_N_mayAskForLease 14 = .ok (.aload_n 0, 1) := by decide +kernel
theorem d_N_mayAskForLease_15 : decode c_N_mayAskForLease 15 = .ok (.getfield 36, 3) := by decide +kernel
theorem d_N_mayAskForLease_18 : decode c_N_mayAskForLease 18 = .ok (.ifCond .eq 7, 3) := by decide +kernel
theorem d_N_mayAskForLease_21 : decode c_N_mayAskForLease 21 = .ok (.iconst 1, 1) := by decide +kernel
theorem d_N_mayAskForLease_22 : decode c_N_mayAskForLease 22 = .ok (.goto 4, 3) := by decide +kernel
theorem d_N_mayAskForLease_25 : decode c_N_mayAskForLease 25 = .ok (.iconst 0, 1) := by decide +kernel
theorem d_N_mayAskForLease_26 : decode c_N_mayAskForLease 26 = .ok (.ireturn, 1) := by decide +kernel
theorem d_T_isLentTo_0 : decode c_T_isLentTo 0 = .ok (.aload_n 0, 1) := by decide +kernel
theorem d_T_isLentTo_1 : decode c_T_isLentTo 1 = .ok (.getfield 18, 3) := by decide +kernel
theorem d_T_isLentTo_4 : decode c_T_isLentTo 4 = .ok (.iload_n 1, 1) := by decide +kernel
theorem d_T_isLentTo_5 : decode c_T_isLentTo 5 = .ok (.if_icmp .ne 14, 3) := by decide +kernel
theorem d_T_isLentTo_8 : decode c_T_isLentTo 8 = .ok (.aload_n 0, 1) := by decide +kernel
theorem d_T_isLentTo_9 : decode c_T_isLentTo 9 = .ok (.invokevirtual 27, 3) := by decide +kernel
theorem d_T_isLentTo_12 : decode c_T_isLentTo 12 = .ok (.ifCond .eq 7, 3) := by decide +kernel
theorem d_T_isLentTo_15 : decode c_T_isLentTo 15 = .ok (.iconst 1, 1) := by decide +kernel
theorem d_T_isLentTo_16 : decode c_T_isLentTo 16 = .ok (.goto 4, 3) := by decide +kernel
theorem d_T_isLentTo_19 : decode c_T_isLentTo 19 = .ok (.iconst 0, 1) := by decide +kernel
theorem d_T_isLentTo_20 : decode c_T_isLentTo 20 = .ok (.ireturn, 1) := by decide +kernel
theorem d_T_isRunning_0 : decode c_T_isRunning 0 = .ok (.aload_n 0, 1) := by decide +kernel
theorem d_T_isRunning_1 : decode c_T_isRunning 1 = .ok (.getfield 18, 3) := by decide +kernel
theorem d_T_isRunning_4 : decode c_T_isRunning 4 = .ok (.iconst 2, 1) := by decide +kernel
theorem d_T_isRunning_5 : decode c_T_isRunning 5 = .ok (.if_icmp .eq 18, 3) := by decide +kernel
theorem d_T_isRunning_8 : decode c_T_isRunning 8 = .ok (.aload_n 0, 1) := by decide +kernel
theorem d_T_isRunning_9 : decode c_T_isRunning 9 = .ok (.getfield 21, 3) := by decide +kernel
theorem d_T_isRunning_12 : decode c_T_isRunning 12 = .ok (.aload_n 0, 1) := by decide +kernel
theorem d_T_isRunning_13 : decode c_T_isRunning 13 = .ok (.getfield 15, 3) := by decide +kernel
theorem d_T_isRunning_16 : decode c_T_isRunning 16 = .ok (.if_icmp .le 7, 3) := by decide +kernel
theorem d_T_isRunning_19 : decode c_T_isRunning 19 = .ok (.iconst 1, 1) := by decide +kernel
theorem d_T_isRunning_20 : decode c_T_isRunning 20 = .ok (.goto 4, 3) := by decide +kernel
theorem d_T_isRunning_23 : decode c_T_isRunning 23 = .ok (.iconst 0, 1) := by decide +kernel
theorem d_T_isRunning_24 : decode c_T_isRunning 24 = .ok (.ireturn, 1) := by decide +kernel
theorem d_T_lendTo_0 : decode c_T_lendTo 0 = .ok (.aload_n 0, 1) := by decide +kernel
theorem d_T_lendTo_1 : decode c_T_lendTo 1 = .ok (.iload_n 1, 1) := by decide +kernel
theorem d_T_lendTo_2 : decode c_T_lendTo 2 = .ok (.putfield 18, 3) := by decide +kernel
theorem d_T_lendTo_5 : decode c_T_lendTo 5 = .ok (.aload_n 0, 1) := by decide +kernel
theorem d_T_lendTo_6 : decode c_T_lendTo 6 = .ok (.invokevirtual 31, 3) := by decide +kernel
theorem d_T_lendTo_9 : decode c_T_lendTo 9 = .ok (.return_, 1) := by decide +kernel
theorem d_T_extendLease_0 : decode c_T_extendLease 0 = .ok (.aload_n 0, 1) := by decide +kernel
theorem d_T_extendLease_1 : decode c_T_extendLease 1 = .ok (.aload_n 0, 1) := by decide +kernel
theorem d_T_extendLease_2 : decode c_T_extendLease 2 = .ok (.getfield 15, 3) := by decide +kernel
theorem d_T_extendLease_5 : decode c_T_extendLease 5 = .ok (.aload_n 0, 1) := by decide +kernel
theorem d_T_extendLease_6 : decode c_T_extendLease 6 = .ok (.getfield 24, 3) := by decide +kernel
theorem d_T_extendLease_9 : decode c_T_extendLease 9 = .ok (.iadd, 1) := by decide +kernel
theorem d_T_extendLease_10 : decode c_T_extendLease 10 = .ok (.putfield 21, 3) := by decide +kernel
theorem d_T_extendLease_13 : decode c_T_extendLease 13 = .ok (.return_, 1) := by decide +kernel
theorem d_M_redoJournal_0 : decode c_M_redoJournal 0 = .ok (.aload_n 0, 1) := by decide +kernel
theorem d_M_redoJournal_1 : decode c_M_redoJournal 1 = .ok (.getfield 11, 3) := by decide +kernel
theorem d_M_redoJournal_4 : decode c_M_redoJournal 4 = .ok (.iload_n 1, 1) := by decide +kernel
theorem d_M_redoJournal_5 : decode c_M_redoJournal 5 = .ok (.aaload, 1) := by decide +kernel
theorem d_M_redoJournal_6 : decode c_M_redoJournal 6 = .ok (.getfield 87, 3) := by decide +kernel
theorem d_M_redoJournal_9 : decode c_M_redoJournal 9 = .ok (.astore_n 2, 1) := by decide +kernel
theorem d_M_redoJournal_10 : decode c_M_redoJournal 10 = .ok (.aload_n 2, 1) := by decide +kernel
theorem d_M_redoJournal_11 : decode c_M_redoJournal 11 = .ok (.bipush 24, 2) := by decide +kernel
theorem d_M_redoJournal_13 : decode c_M_redoJournal 13 = .ok (.invokevirtual 91, 3) := by decide +kernel
theorem d_M_redoJournal_16 : decode c_M_redoJournal 16 = .ok (.istore_n 3, 1) := by decide +kernel
theorem d_M_redoJournal_17 : decode c_M_redoJournal 17 = .ok (.iload_n 3, 1) := by decide +kernel
theorem d_M_redoJournal_18 : decode c_M_redoJournal 18 = .ok (.iconst 1, 1) := by decide +kernel
theorem d_M_redoJournal_19 : decode c_M_redoJournal 19 = .ok (.if_icmp .lt 8, 3) := by decide +kernel
theorem d_M_redoJournal_22 : decode c_M_redoJournal 22 = .ok (.iload_n 3, 1) := by decide +kernel
theorem d_M_redoJournal_23 : decode c_M_redoJournal 23 = .ok (.iconst 3, 1) := by decide +kernel
theorem d_M_redoJournal_24 : decode c_M_redoJournal 24 = .ok (.if_icmp .le 5, 3) := by decide +kernel
theorem d_M_redoJournal_27 : decode c_M_redoJournal 27 = .ok (.iconst 0, 1) := by decide +kernel
theorem d_M_redoJournal_28 : decode c_M_redoJournal 28 = .ok (.ireturn, 1) := by decide +kernel
theorem d_M_redoJournal_29 : decode c_M_redoJournal 29 = .ok (.iconst 0, 1) := by decide +kernel
theorem d_M_redoJournal_30 : decode c_M_redoJournal 30 = .ok (.istore 4, 2) := by decide +kernel
theorem d_M_redoJournal_32 : decode c_M_redoJournal 32 = .ok (.iload 4, 2) := by decide +kernel
theorem d_M_redoJournal_34 : decode c_M_redoJournal 34 = .ok (.iload_n 3, 1) := by decide +kernel
theorem d_M_redoJournal_35 : decode c_M_redoJournal 35 = .ok (.if_icmp .ge 50, 3) := by decide +kernel
theorem d_M_redoJournal_38 : decode c_M_redoJournal 38 = .ok (.aload_n 2, 1) := by decide +kernel
theorem d_M_redoJournal_39 : decode c_M_redoJournal 39 = .ok (.bipush 25, 2) := by decide +kernel
theorem d_M_redoJournal_41 : decode c_M_redoJournal 41 = .ok (.iconst 2, 1) := by decide +kernel
theorem d_M_redoJournal_42 : decode c_M_redoJournal 42 = .ok (.iload 4, 2) := by decide +kernel
theorem d_M_redoJournal_44 : decode c_M_redoJournal 44 = .ok (.imul, 1) := by decide +kernel
theorem d_M_redoJournal_45 : decode c_M_redoJournal 45 = .ok (.iadd, 1) := by decide +kernel
theorem d_M_redoJournal_46 : decode c_M_redoJournal 46 = .ok (.invokevirtual 91, 3) := by decide +kernel
theorem d_M_redoJournal_49 : decode c_M_redoJournal 49 = .ok (.istore 5, 2) := by decide +kernel
theorem d_M_redoJournal_51 : decode c_M_redoJournal 51 = .ok (.iload 5, 2) := by decide +kernel
theorem d_M_redoJournal_53 : decode c_M_redoJournal 53 = .ok (.invokestatic 55, 3) := by decide +kernel
theorem d_M_redoJournal_56 : decode c_M_redoJournal 56 = .ok (.ifCond .eq 23, 3) := by decide +kernel
theorem d_M_redoJournal_59 : decode c_M_redoJournal 59 = .ok (.aload_n 0, 1) := by decide +kernel
theorem d_M_redoJournal_60 : decode c_M_redoJournal 60 = .ok (.iload_n 1, 1) := by decide +kernel
theorem d_M_redoJournal_61 : decode c_M_redoJournal 61 = .ok (.iload 5, 2) := by decide +kernel
theorem d_M_redoJournal_63 : decode c_M_redoJournal 63 = .ok (.aload_n 2, 1) := by decide +kernel
theorem d_M_redoJournal_64 : decode c_M_redoJournal 64 = .ok (.bipush 25, 2) := by decide +kernel
theorem d_M_redoJournal_66 : decode c_M_redoJournal 66 = .ok (.iconst 2, 1) := by decide +kernel
theorem d_M_redoJournal_67 : decode c_M_redoJournal 67 = .ok (.iload 4, 2) := by decide +kernel
theorem d_M_redoJournal_69 : decode c_M_redoJournal 69 = .ok (.imul, 1) := by decide +kernel
theorem d_M_redoJournal_70 : decode c_M_redoJournal 70 = .ok (.iadd, 1) := by decide +kernel
theorem d_M_redoJournal_71 : decode c_M_redoJournal 71 = .ok (.iconst 1, 1) := by decide +kernel
theorem d_M_redoJournal_72 : decode c_M_redoJournal 72 = .ok (.iadd, 1) := by decide +kernel
theorem d_M_redoJournal_73 : decode c_M_redoJournal 73 = .ok (.invokevirtual 91, 3) := by decide +kernel
theorem d_M_redoJournal_76 : decode c_M_redoJournal 76 = .ok (.invokevirtual 205, 3) := by decide +kernel
theorem d_M_redoJournal_79 : decode c_M_redoJournal 79 = .ok (.iinc 4 1, 3) := by decide +kernel
theorem d_M_redoJournal_82 : decode c_M_redoJournal 82 = .ok (.goto (-50), 3) := by decide +kernel
theorem d_M_redoJournal_85 : decode c_M_redoJournal 85 = .ok (.iload_n 3, 1) := by decide +kernel
theorem d_M_redoJournal_86 : decode c_M_redoJournal 86 = .ok (.ireturn, 1) := by decide +kernel
theorem d_M_demote_0 : decode c_M_demote 0 = .ok (.iload_n 1, 1) := by decide +kernel
theorem d_M_demote_1 : decode c_M_demote 1 = .ok (.invokestatic 97, 3) := by decide +kernel
theorem d_M_demote_4 : decode c_M_demote 4 = .ok (.ifCond .eq 15, 3) := by decide +kernel
theorem d_M_demote_7 : decode c_M_demote 7 = .ok (.aload_n 0, 1) := by decide +kernel
theorem d_M_demote_8 : decode c_M_demote 8 = .ok (.getfield 11, 3) := by decide +kernel
theorem d_M_demote_11 : decode c_M_demote 11 = .ok (.iload_n 1, 1) := by decide +kernel
theorem d_M_demote_12 : decode c_M_demote 12 = .ok (.aaload, 1) := by decide +kernel
theorem d_M_demote_13 : decode c_M_demote 13 = .ok (.getfield 149, 3) := by decide +kernel
theorem d_M_demote_16 : decode c_M_demote 16 = .ok (.ifCond .ne 5, 3) := by decide +kernel
theorem d_M_demote_19 : decode c_M_demote 19 = .ok (.iconst (-1), 1) := by decide +kernel
theorem d_M_demote_20 : decode c_M_demote 20 = .ok (.ireturn, 1) := by decide +kernel
theorem d_M_demote_21 : decode c_M_demote 21 = .ok (.aload_n 0, 1) := by decide +kernel
theorem d_M_demote_22 : decode c_M_demote 22 = .ok (.iload_n 1, 1) := by decide +kernel
theorem d_M_demote_23 : decode c_M_demote 23 = .ok (.invokevirtual 146, 3) := by decide +kernel
theorem d_M_demote_26 : decode c_M_demote 26 = .ok (.aload_n 0, 1) := by decide +kernel
theorem d_M_demote_27 : decode c_M_demote 27 = .ok (.getfield 51, 3) := by decide +kernel
theorem d_M_demote_30 : decode c_M_demote 30 = .ok (.getfield 161, 3) := by decide +kernel
theorem d_M_demote_33 : decode c_M_demote 33 = .ok (.iload_n 1, 1) := by decide +kernel
theorem d_M_demote_34 : decode c_M_demote 34 = .ok (.if_icmp .ne 11, 3) := by decide +kernel
theorem d_M_demote_37 : decode c_M_demote 37 = .ok (.aload_n 0, 1) := by decide +kernel
theorem d_M_demote_38 : decode c_M_demote 38 = .ok (.getfield 51, 3) := by decide +kernel
theorem d_M_demote_41 : decode c_M_demote 41 = .ok (.iconst 2, 1) := by decide +kernel
theorem d_M_demote_42 : decode c_M_demote 42 = .ok (.putfield 161, 3) := by decide +kernel
theorem d_M_demote_45 : decode c_M_demote 45 = .ok (.iconst 0, 1) := by decide +kernel
theorem d_M_demote_46 : decode c_M_demote 46 = .ok (.ireturn, 1) := by decide +kernel
theorem d_M_renew_0 : decode c_M_renew 0 = .ok (.aload_n 0, 1) := by decide +kernel
theorem d_M_renew_1 : decode c_M_renew 1 = .ok (.invokevirtual 59, 3) := by decide +kernel
theorem d_M_renew_4 : decode c_M_renew 4 = .ok (.istore_n 1, 1) := by decide +kernel
theorem d_M_renew_5 : decode c_M_renew 5 = .ok (.iload_n 1, 1) := by decide +kernel
theorem d_M_renew_6 : decode c_M_renew 6 = .ok (.iconst 2, 1) := by decide +kernel
theorem d_M_renew_7 : decode c_M_renew 7 = .ok (.if_icmp .eq 15, 3) := by decide +kernel
theorem d_M_renew_10 : decode c_M_renew 10 = .ok (.aload_n 0, 1) := by decide +kernel
theorem d_M_renew_11 : decode c_M_renew 11 = .ok (.getfield 11, 3) := by decide +kernel
theorem d_M_renew_14 : decode c_M_renew 14 = .ok (.iload_n 1, 1) := by decide +kernel
theorem d_M_renew_15 : decode c_M_renew 15 = .ok (.aaload, 1) := by decide +kernel
theorem d_M_renew_16 : decode c_M_renew 16 = .ok (.getfield 73, 3) := by decide +kernel
theorem d_M_renew_19 : decode c_M_renew 19 = .ok (.ifCond .ne 5, 3) := by decide +kernel
theorem d_M_renew_22 : decode c_M_renew 22 = .ok (.iconst (-1), 1) := by decide +kernel
theorem d_M_renew_23 : decode c_M_renew 23 = .ok (.ireturn, 1) := by decide +kernel
theorem d_M_renew_24 : decode c_M_renew 24 = .ok (.aload_n 0, 1) := by decide +kernel
theorem d_M_renew_25 : decode c_M_renew 25 = .ok (.getfield 51, 3) := by decide +kernel
theorem d_M_renew_28 : decode c_M_renew 28 = .ok (.invokevirtual 164, 3) := by decide +kernel
theorem d_M_renew_31 : decode c_M_renew 31 = .ok (.aload_n 0, 1) := by decide +kernel
theorem d_M_renew_32 : decode c_M_renew 32 = .ok (.getfield 51, 3) := by decide +kernel
theorem d_M_renew_35 : decode c_M_renew 35 = .ok (.getfield 167, 3) := by decide +kernel
theorem d_M_renew_38 : decode c_M_renew 38 = .ok (.ireturn, 1) := by decide +kernel
theorem d_M_tick_0 : decode c_M_tick 0 = .ok (.iload_n 1, 1) := by decide +kernel
theorem d_M_tick_1 : decode c_M_tick 1 = .ok (.ifCond .lt 9, 3) := by decide +kernel
theorem d_M_tick_4 : decode c_M_tick 4 = .ok (.iload_n 1, 1) := by decide +kernel
theorem d_M_tick_5 : decode c_M_tick 5 = .ok (.bipush 100, 2) := by decide +kernel
theorem d_M_tick_7 : decode c_M_tick 7 = .ok (.if_icmp .le 5, 3) := by decide +kernel
theorem d_M_tick_10 : decode c_M_tick 10 = .ok (.iconst (-1), 1) := by decide +kernel
theorem d_M_tick_11 : decode c_M_tick 11 = .ok (.ireturn, 1) := by decide +kernel
theorem d_M_tick_12 : decode c_M_tick 12 = .ok (.aload_n 0, 1) := by decide +kernel
theorem d_M_tick_13 : decode c_M_tick 13 = .ok (.getfield 51, 3) := by decide +kernel
theorem d_M_tick_16 : decode c_M_tick 16 = .ok (.dup, 1) := by decide +kernel
theorem d_M_tick_17 : decode c_M_tick 17 = .ok (.getfield 170, 3) := by decide +kernel
theorem d_M_tick_20 : decode c_M_tick 20 = .ok (.iload_n 1, 1) := by decide +kernel
theorem d_M_tick_21 : decode c_M_tick 21 = .ok (.iadd, 1) := by decide +kernel
theorem d_M_tick_22 : decode c_M_tick 22 = .ok (.putfield 170, 3) := by decide +kernel
theorem d_M_tick_25 : decode c_M_tick 25 = .ok (.aload_n 0, 1) := by decide +kernel
theorem d_M_tick_26 : decode c_M_tick 26 = .ok (.getfield 51, 3) := by decide +kernel
theorem d_M_tick_29 : decode c_M_tick 29 = .ok (.invokevirtual 173, 3) := by decide +kernel
theorem d_M_tick_32 : decode c_M_tick 32 = .ok (.ifCond .ne 21, 3) := by decide +kernel
theorem d_M_tick_35 : decode c_M_tick 35 = .ok (.aload_n 0, 1) := by decide +kernel
theorem d_M_tick_36 : decode c_M_tick 36 = .ok (.getfield 51, 3) := by decide +kernel
theorem d_M_tick_39 : decode c_M_tick 39 = .ok (.iconst 2, 1) := by decide +kernel
theorem d_M_tick_40 : decode c_M_tick 40 = .ok (.putfield 161, 3) := by decide +kernel
theorem d_M_tick_43 : decode c_M_tick 43 = .ok (.aload_n 0, 1) := by decide +kernel
theorem d_M_tick_44 : decode c_M_tick 44 = .ok (.iconst 0, 1) := by decide +kernel
theorem d_M_tick_45 : decode c_M_tick 45 = .ok (.invokevirtual 146, 3) := by decide +kernel
theorem d_M_tick_48 : decode c_M_tick 48 = .ok (.aload_n 0, 1) := by decide +kernel
theorem d_M_tick_49 : decode c_M_tick 49 = .ok (.iconst 1, 1) := by decide +kernel
theorem d_M_tick_50 : decode c_M_tick 50 = .ok (.invokevirtual 146, 3) := by decide +kernel
theorem d_M_tick_53 : decode c_M_tick 53 = .ok (.aload_n 0, 1) := by decide +kernel
theorem d_M_tick_54 : decode c_M_tick 54 = .ok (.getfield 51, 3) := by decide +kernel
theorem d_M_tick_57 : decode c_M_tick 57 = .ok (.getfield 170, 3) := by decide +kernel
theorem d_M_tick_60 : decode c_M_tick 60 = .ok (.ireturn, 1) := by decide +kernel
theorem d_M_block_0 : decode c_M_block 0 = .ok (.iload_n 1, 1) := by decide +kernel
theorem d_M_block_1 : decode c_M_block 1 = .ok (.invokestatic 97, 3) := by decide +kernel
theorem d_M_block_4 : decode c_M_block 4 = .ok (.ifCond .eq 13, 3) := by decide +kernel
theorem d_M_block_7 : decode c_M_block 7 = .ok (.iload_n 2, 1) := by decide +kernel
theorem d_M_block_8 : decode c_M_block 8 = .ok (.ifCond .lt 9, 3) := by decide +kernel
theorem d_M_block_11 : decode c_M_block 11 = .ok (.iload_n 2, 1) := by decide +kernel
theorem d_M_block_12 : decode c_M_block 12 = .ok (.bipush 32, 2) := by decide +kernel
theorem d_M_block_14 : decode c_M_block 14 = .ok (.if_icmp .lt 7, 3) := by decide +kernel
theorem d_M_block_17 : decode c_M_block 17 = .ok (.ldc2_w 85, 3) := by decide +kernel
theorem d_M_block_20 : decode c_M_block 20 = .ok (.lreturn, 1) := by decide +kernel
theorem d_M_block_21 : decode c_M_block 21 = .ok (.aload_n 0, 1) := by decide +kernel
theorem d_M_block_22 : decode c_M_block 22 = .ok (.getfield 11, 3) := by decide +kernel
theorem d_M_block_25 : decode c_M_block 25 = .ok (.iload_n 1, 1) := by decide +kernel
theorem d_M_block_26 : decode c_M_block 26 = .ok (.aaload, 1) := by decide +kernel
theorem d_M_block_27 : decode c_M_block 27 = .ok (.getfield 87, 3) := by decide +kernel
theorem d_M_block_30 : decode c_M_block 30 = .ok (.astore 4, 2) := by decide +kernel
theorem d_M_block_32 : decode c_M_block 32 = .ok (.iload_n 3, 1) := by decide +kernel
theorem d_M_block_33 : decode c_M_block 33 = .ok (.ifCond .eq 14, 3) := by decide +kernel
theorem d_M_block_36 : decode c_M_block 36 = .ok (.aload 4, 2) := by decide +kernel
theorem d_M_block_38 : decode c_M_block 38 = .ok (.getfield 176, 3) := by decide +kernel
theorem d_M_block_41 : decode c_M_block 41 = .ok (.iload_n 2, 1) := by decide +kernel
theorem d_M_block_42 : decode c_M_block 42 = .ok (.iaload, 1) := by decide +kernel
theorem d_M_block_43 : decode c_M_block 43 = .ok (.i2l, 1) := by decide +kernel
theorem d_M_block_44 : decode c_M_block 44 = .ok (.goto 10, 3) := by decide +kernel
theorem d_M_block_47 : decode c_M_block 47 = .ok (.aload 4, 2) := by decide +kernel
theorem d_M_block_49 : decode c_M_block 49 = .ok (.iload_n 2, 1) := by decide +kernel
theorem d_M_block_50 : decode c_M_block 50 = .ok (.invokevirtual 91, 3) := by decide +kernel
theorem d_M_block_53 : decode c_M_block 53 = .ok (.i2l, 1) := by decide +kernel
theorem d_M_block_54 : decode c_M_block 54 = .ok (.lreturn, 1) := by decide +kernel
theorem d_M_node_0 : decode c_M_node 0 = .ok (.iload_n 1, 1) := by decide +kernel
theorem d_M_node_1 : decode c_M_node 1 = .ok (.invokestatic 97, 3) := by decide +kernel
theorem d_M_node_4 : decode c_M_node 4 = .ok (.ifCond .ne 5, 3) := by decide +kernel
theorem d_M_node_7 : decode c_M_node 7 = .ok (.iconst (-1), 1) := by decide +kernel
theorem d_M_node_8 : decode c_M_node 8 = .ok (.ireturn, 1) := by decide +kernel
theorem d_M_node_9 : decode c_M_node 9 = .ok (.aload_n 0, 1) := by decide +kernel
theorem d_M_node_10 : decode c_M_node 10 = .ok (.getfield 11, 3) := by decide +kernel
theorem d_M_node_13 : decode c_M_node 13 = .ok (.iload_n 1, 1) := by decide +kernel
theorem d_M_node_14 : decode c_M_node 14 = .ok (.aaload, 1) := by decide +kernel
theorem d_M_node_15 : decode c_M_node 15 = .ok (.astore_n 3, 1) := by decide +kernel
theorem d_M_node_16 : decode c_M_node 16 = .ok (.iload_n 2, 1) := by decide +kernel
theorem d_M_node_17 : decode c_M_node 17 = .ok (.tableswitch 102 0 7 #[47, 55, 63, 68, 73, 81, 86, 94], 47) := by decide +kernel
theorem d_M_node_64 : decode c_M_node 64 = .ok (.aload_n 3, 1) := by decide +kernel
theorem d_M_node_65 : decode c_M_node 65 = .ok (.getfield 100, 3) := by decide +kernel
theorem d_M_node_68 : decode c_M_node 68 = .ok (.invokestatic 180, 3) := by decide +kernel
theorem d_M_node_71 : decode c_M_node 71 = .ok (.ireturn, 1) := by decide +kernel
theorem d_M_node_72 : decode c_M_node 72 = .ok (.aload_n 3, 1) := by decide +kernel
theorem d_M_node_73 : decode c_M_node 73 = .ok (.getfield 149, 3) := by decide +kernel
theorem d_M_node_76 : decode c_M_node 76 = .ok (.invokestatic 180, 3) := by decide +kernel
theorem d_M_node_79 : decode c_M_node 79 = .ok (.ireturn, 1) := by decide +kernel
theorem d_M_node_80 : decode c_M_node 80 = .ok (.aload_n 3, 1) := by decide +kernel
theorem d_M_node_81 : decode c_M_node 81 = .ok (.getfield 109, 3) := by decide +kernel
theorem d_M_node_84 : decode c_M_node 84 = .ok (.ireturn, 1) := by decide +kernel
theorem d_M_node_85 : decode c_M_node 85 = .ok (.aload_n 3, 1) := by decide +kernel
theorem d_M_node_86 : decode c_M_node 86 = .ok (.getfield 184, 3) := by decide +kernel
theorem d_M_node_89 : decode c_M_node 89 = .ok (.ireturn, 1) := by decide +kernel
theorem d_M_node_90 : decode c_M_node 90 = .ok (.aload_n 3, 1) := by decide +kernel
theorem d_M_node_91 : decode c_M_node 91 = .ok (.getfield 187, 3) := by decide +kernel
theorem d_M_node_94 : decode c_M_node 94 = .ok (.invokestatic 180, 3) := by decide +kernel
theorem d_M_node_97 : decode c_M_node 97 = .ok (.ireturn, 1) := by decide +kernel
theorem d_M_node_98 : decode c_M_node 98 = .ok (.aload_n 3, 1) := by decide +kernel
theorem d_M_node_99 : decode c_M_node 99 = .ok (.getfield 129, 3) := by decide +kernel
theorem d_M_node_102 : decode c_M_node 102 = .ok (.ireturn, 1) := by decide +kernel
theorem d_M_node_103 : decode c_M_node 103 = .ok (.aload_n 3, 1) := by decide +kernel
theorem d_M_node_104 : decode c_M_node 104 = .ok (.getfield 87, 3) := by decide +kernel
theorem d_M_node_107 : decode c_M_node 107 = .ok (.invokevirtual 190, 3) := by decide +kernel
theorem d_M_node_110 : decode c_M_node 110 = .ok (.ireturn, 1) := by decide +kernel
theorem d_M_node_111 : decode c_M_node 111 = .ok (.aload_n 3, 1) := by decide +kernel
theorem d_M_node_112 : decode c_M_node 112 = .ok (.getfield 73, 3) := by decide +kernel
theorem d_M_node_115 : decode c_M_node 115 = .ok (.invokestatic 180, 3) := by decide +kernel
theorem d_M_node_118 : decode c_M_node 118 = .ok (.ireturn, 1) := by decide +kernel
theorem d_M_node_119 : decode c_M_node 119 = .ok (.iconst (-1), 1) := by decide +kernel
theorem d_M_node_120 : decode c_M_node 120 = .ok (.ireturn, 1) := by decide +kernel
theorem d_M_asNumber_0 : decode c_M_asNumber 0 = .ok (.iload_n 0, 1) := by decide +kernel
theorem d_M_asNumber_1 : decode c_M_asNumber 1 = .ok (.ifCond .eq 7, 3) := by decide +kernel
theorem d_M_asNumber_4 : decode c_M_asNumber 4 = .ok (.iconst 1, 1) := by decide +kernel
theorem d_M_asNumber_5 : decode c_M_asNumber 5 = .ok (.goto 4, 3) := by decide +kernel
theorem d_M_asNumber_8 : decode c_M_asNumber 8 = .ok (.iconst 0, 1) := by decide +kernel
theorem d_M_asNumber_9 : decode c_M_asNumber 9 = .ok (.ireturn, 1) := by decide +kernel
theorem d_D_countCached_0 : decode c_D_countCached 0 = .ok (.aload_n 0, 1) := by decide +kernel
theorem d_D_countCached_1 : decode c_D_countCached 1 = .ok (.getfield 18, 3) := by decide +kernel
theorem d_D_countCached_4 : decode c_D_countCached 4 = .ok (.invokestatic 30, 3) := by decide +kernel
theorem d_D_countCached_7 : decode c_D_countCached 7 = .ok (.ireturn, 1) := by decide +kernel
theorem d_M_mirror_0 : decode c_M_mirror 0 = .ok (.iload_n 1, 1) := by decide +kernel
theorem d_M_mirror_1 : decode c_M_mirror 1 = .ok (.tableswitch 122 0 6 #[43, 51, 67, 75, 83, 106, 114], 43) := by decide +kernel
theorem d_M_mirror_44 : decode c_M_mirror 44 = .ok (.aload_n 0, 1) := by decide +kernel
theorem d_M_mirror_45 : decode c_M_mirror 45 = .ok (.getfield 26, 3) := by decide +kernel
theorem d_M_mirror_48 : decode c_M_mirror 48 = .ok (.invokestatic 180, 3) := by decide +kernel
theorem d_M_mirror_51 : decode c_M_mirror 51 = .ok (.ireturn, 1) := by decide +kernel
theorem d_M_mirror_52 : decode c_M_mirror 52 = .ok (.aload_n 0, 1) := by decide +kernel
theorem d_M_mirror_53 : decode c_M_mirror 53 = .ok (.getfield 29, 3) := by decide +kernel
theorem d_M_mirror_56 : decode c_M_mirror 56 = .ok (.ifCond .eq 10, 3) := by decide +kernel
theorem d_M_mirror_59 : decode c_M_mirror 59 = .ok (.aload_n 0, 1) := by decide +kernel
theorem d_M_mirror_60 : decode c_M_mirror 60 = .ok (.getfield 32, 3) := by decide +kernel
theorem d_M_mirror_63 : decode c_M_mirror 63 = .ok (.goto 4, 3) := by decide +kernel
theorem d_M_mirror_66 : decode c_M_mirror 66 = .ok (.iconst 2, 1) := by decide +kernel
theorem d_M_mirror_67 : decode c_M_mirror 67 = .ok (.ireturn, 1) := by decide +kernel
theorem d_M_mirror_68 : decode c_M_mirror 68 = .ok (.aload_n 0, 1) := by decide +kernel
theorem d_M_mirror_69 : decode c_M_mirror 69 = .ok (.getfield 51, 3) := by decide +kernel
theorem d_M_mirror_72 : decode c_M_mirror 72 = .ok (.getfield 145, 3) := by decide +kernel
theorem d_M_mirror_75 : decode c_M_mirror 75 = .ok (.ireturn, 1) := by decide +kernel
theorem d_M_mirror_76 : decode c_M_mirror 76 = .ok (.aload_n 0, 1) := by decide +kernel
theorem d_M_mirror_77 : decode c_M_mirror 77 = .ok (.getfield 51, 3) := by decide +kernel
theorem d_M_mirror_80 : decode c_M_mirror 80 = .ok (.getfield 161, 3) := by decide +kernel
theorem d_M_mirror_83 : decode c_M_mirror 83 = .ok (.ireturn, 1) := by decide +kernel
theorem d_M_mirror_84 : decode c_M_mirror 84 = .ok (.aload_n 0, 1) := by decide +kernel
theorem d_M_mirror_85 : decode c_M_mirror 85 = .ok (.getfield 51, 3) := by decide +kernel
theorem d_M_mirror_88 : decode c_M_mirror 88 = .ok (.getfield 161, 3) := by decide +kernel
theorem d_M_mirror_91 : decode c_M_mirror 91 = .ok (.iconst 2, 1) := by decide +kernel
theorem d_M_mirror_92 : decode c_M_mirror 92 = .ok (.if_icmp .ne 7, 3) := by decide +kernel
theorem d_M_mirror_95 : decode c_M_mirror 95 = .ok (.iconst 0, 1) := by decide +kernel
theorem d_M_mirror_96 : decode c_M_mirror 96 = .ok (.goto 10, 3) := by decide +kernel
theorem d_M_mirror_99 : decode c_M_mirror 99 = .ok (.aload_n 0, 1) := by decide +kernel
theorem d_M_mirror_100 : decode c_M_mirror 100 = .ok (.getfield 51, 3) := by decide +kernel
theorem d_M_mirror_103 : decode c_M_mirror 103 = .ok (.getfield 167, 3) := by decide +kernel
theorem d_M_mirror_106 : decode c_M_mirror 106 = .ok (.ireturn, 1) := by decide +kernel
theorem d_M_mirror_107 : decode c_M_mirror 107 = .ok (.aload_n 0, 1) := by decide +kernel
theorem d_M_mirror_108 : decode c_M_mirror 108 = .ok (.getfield 18, 3) := by decide +kernel
theorem d_M_mirror_111 : decode c_M_mirror 111 = .ok (.getfield 63, 3) := by decide +kernel
theorem d_M_mirror_114 : decode c_M_mirror 114 = .ok (.ireturn, 1) := by decide +kernel
theorem d_M_mirror_115 : decode c_M_mirror 115 = .ok (.aload_n 0, 1) := by decide +kernel
theorem d_M_mirror_116 : decode c_M_mirror 116 = .ok (.getfield 22, 3) := by decide +kernel
theorem d_M_mirror_119 : decode c_M_mirror 119 = .ok (.invokestatic 180, 3) := by decide +kernel
theorem d_M_mirror_122 : decode c_M_mirror 122 = .ok (.ireturn, 1) := by decide +kernel
theorem d_M_mirror_123 : decode c_M_mirror 123 = .ok (.iconst (-1), 1) := by decide +kernel
theorem d_M_mirror_124 : decode c_M_mirror 124 = .ok (.ireturn, 1) := by decide +kernel
theorem d_L_cell_0 : decode c_L_cell 0 = .ok (.iload_n 1, 1) := by decide +kernel
theorem d_L_cell_1 : decode c_L_cell 1 = .ok (.aload_n 0, 1) := by decide +kernel
theorem d_L_cell_2 : decode c_L_cell 2 = .ok (.arraylength, 1) := by decide +kernel
theorem d_L_cell_3 : decode c_L_cell 3 = .ok (.if_icmp .ge 9, 3) := by decide +kernel
theorem d_L_cell_6 : decode c_L_cell 6 = .ok (.aload_n 0, 1) := by decide +kernel
theorem d_L_cell_7 : decode c_L_cell 7 = .ok (.iload_n 1, 1) := by decide +kernel
theorem d_L_cell_8 : decode c_L_cell 8 = .ok (.iaload, 1) := by decide +kernel
theorem d_L_cell_9 : decode c_L_cell 9 = .ok (.goto 4, 3) := by decide +kernel
theorem d_L_cell_12 : decode c_L_cell 12 = .ok (.iconst 0, 1) := by decide +kernel
theorem d_L_cell_13 : decode c_L_cell 13 = .ok (.ireturn, 1) := by decide +kernel
theorem d_K_init_0 : decode c_K_init 0 = .ok (.aload_n 0, 1) := by decide +kernel
theorem d_K_init_1 : decode c_K_init 1 = .ok (.invokespecial 1, 3) := by decide +kernel
theorem d_K_init_4 : decode c_K_init 4 = .ok (.aload_n 0, 1) := by decide +kernel
theorem d_K_init_5 : decode c_K_init 5 = .ok (.bipush 64, 2) := by decide +kernel
theorem d_K_init_7 : decode c_K_init 7 = .ok (.newarray .int, 2) := by decide +kernel
theorem d_K_init_9 : decode c_K_init 9 = .ok (.putfield 7, 3) := by decide +kernel
theorem d_K_init_12 : decode c_K_init 12 = .ok (.aload_n 0, 1) := by decide +kernel
theorem d_K_init_13 : decode c_K_init 13 = .ok (.bipush 64, 2) := by decide +kernel
theorem d_K_init_15 : decode c_K_init 15 = .ok (.newarray .int, 2) := by decide +kernel
theorem d_K_init_17 : decode c_K_init 17 = .ok (.putfield 13, 3) := by decide +kernel
theorem d_K_init_20 : decode c_K_init 20 = .ok (.aload_n 0, 1) := by decide +kernel
theorem d_K_init_21 : decode c_K_init 21 = .ok (.bipush 64, 2) := by decide +kernel
theorem d_K_init_23 : decode c_K_init 23 = .ok (.newarray .boolean, 2) := by decide +kernel
theorem d_K_init_25 : decode c_K_init 25 = .ok (.putfield 16, 3) := by decide +kernel
theorem d_K_init_28 : decode c_K_init 28 = .ok (.aload_n 0, 1) := by decide +kernel
theorem d_K_init_29 : decode c_K_init 29 = .ok (.iconst 2, 1) := by decide +kernel
theorem d_K_init_30 : decode c_K_init 30 = .ok (.newarray .boolean, 2) := by decide +kernel
theorem d_K_init_32 : decode c_K_init 32 = .ok (.putfield 20, 3) := by decide +kernel
theorem d_K_init_35 : decode c_K_init 35 = .ok (.aload_n 0, 1) := by decide +kernel
theorem d_K_init_36 : decode c_K_init 36 = .ok (.iconst 2, 1) := by decide +kernel
theorem d_K_init_37 : decode c_K_init 37 = .ok (.newarray .boolean, 2) := by decide +kernel
theorem d_K_init_39 : decode c_K_init 39 = .ok (.putfield 23, 3) := by decide +kernel
theorem d_K_init_42 : decode c_K_init 42 = .ok (.aload_n 0, 1) := by decide +kernel
theorem d_K_init_43 : decode c_K_init 43 = .ok (.iconst 2, 1) := by decide +kernel
theorem d_K_init_44 : decode c_K_init 44 = .ok (.newarray .boolean, 2) := by decide +kernel
theorem d_K_init_46 : decode c_K_init 46 = .ok (.putfield 26, 3) := by decide +kernel
theorem d_K_init_49 : decode c_K_init 49 = .ok (.aload_n 0, 1) := by decide +kernel
theorem d_K_init_50 : decode c_K_init 50 = .ok (.iconst 2, 1) := by decide +kernel
theorem d_K_init_51 : decode c_K_init 51 = .ok (.newarray .int, 2) := by decide +kernel
theorem d_K_init_53 : decode c_K_init 53 = .ok (.putfield 29, 3) := by decide +kernel
theorem d_K_init_56 : decode c_K_init 56 = .ok (.aload_n 0, 1) := by decide +kernel
theorem d_K_init_57 : decode c_K_init 57 = .ok (.iconst 2, 1) := by decide +kernel
theorem d_K_init_58 : decode c_K_init 58 = .ok (.newarray .int, 2) := by decide +kernel
theorem d_K_init_60 : decode c_K_init 60 = .ok (.putfield 32, 3) := by decide +kernel
theorem d_K_init_63 : decode c_K_init 63 = .ok (.aload_n 0, 1) := by decide +kernel
theorem d_K_init_64 : decode c_K_init 64 = .ok (.iconst 2, 1) := by decide +kernel
theorem d_K_init_65 : decode c_K_init 65 = .ok (.newarray .int, 2) := by decide +kernel
theorem d_K_init_67 : decode c_K_init 67 = .ok (.putfield 35, 3) := by decide +kernel
theorem d_K_init_70 : decode c_K_init 70 = .ok (.aload_n 0, 1) := by decide +kernel
theorem d_K_init_71 : decode c_K_init 71 = .ok (.iconst 2, 1) := by decide +kernel
theorem d_K_init_72 : decode c_K_init 72 = .ok (.putfield 38, 3) := by decide +kernel
theorem d_K_init_75 : decode c_K_init 75 = .ok (.aload_n 0, 1) := by decide +kernel
theorem d_K_init_76 : decode c_K_init 76 = .ok (.iconst 2, 1) := by decide +kernel
theorem d_K_init_77 : decode c_K_init 77 = .ok (.putfield 42, 3) := by decide +kernel
theorem d_K_init_80 : decode c_K_init 80 = .ok (.aload_n 0, 1) := by decide +kernel
theorem d_K_init_81 : decode c_K_init 81 = .ok (.iconst 2, 1) := by decide +kernel
theorem d_K_init_82 : decode c_K_init 82 = .ok (.putfield 45, 3) := by decide +kernel
theorem d_K_init_85 : decode c_K_init 85 = .ok (.aload_n 0, 1) := by decide +kernel
theorem d_K_init_86 : decode c_K_init 86 = .ok (.iconst 1, 1) := by decide +kernel
theorem d_K_init_87 : decode c_K_init 87 = .ok (.putfield 48, 3) := by decide +kernel
theorem d_K_init_90 : decode c_K_init 90 = .ok (.aload_n 0, 1) := by decide +kernel
theorem d_K_init_91 : decode c_K_init 91 = .ok (.iconst 1, 1) := by decide +kernel
theorem d_K_init_92 : decode c_K_init 92 = .ok (.putfield 52, 3) := by decide +kernel
theorem d_K_init_95 : decode c_K_init 95 = .ok (.aload_n 0, 1) := by decide +kernel
theorem d_K_init_96 : decode c_K_init 96 = .ok (.iconst 1, 1) := by decide +kernel
theorem d_K_init_97 : decode c_K_init 97 = .ok (.putfield 55, 3) := by decide +kernel
theorem d_K_init_100 : decode c_K_init 100 = .ok (.aload_n 0, 1) := by decide +kernel
theorem d_K_init_101 : decode c_K_init 101 = .ok (.iconst 3, 1) := by decide +kernel
theorem d_K_init_102 : decode c_K_init 102 = .ok (.newarray .int, 2) := by decide +kernel
theorem d_K_init_104 : decode c_K_init 104 = .ok (.putfield 58, 3) := by decide +kernel
theorem d_K_init_107 : decode c_K_init 107 = .ok (.aload_n 0, 1) := by decide +kernel
theorem d_K_init_108 : decode c_K_init 108 = .ok (.iconst 3, 1) := by decide +kernel
theorem d_K_init_109 : decode c_K_init 109 = .ok (.newarray .int, 2) := by decide +kernel
theorem d_K_init_111 : decode c_K_init 111 = .ok (.putfield 61, 3) := by decide +kernel
theorem d_K_init_114 : decode c_K_init 114 = .ok (.aload_n 0, 1) := by decide +kernel
theorem d_K_init_115 : decode c_K_init 115 = .ok (.iload_n 1, 1) := by decide +kernel
theorem d_K_init_116 : decode c_K_init 116 = .ok (.iconst 2, 1) := by decide +kernel
theorem d_K_init_117 : decode c_K_init 117 = .ok (.if_icmp .ge 7, 3) := by decide +kernel
theorem d_K_init_120 : decode c_K_init 120 = .ok (.iconst 2, 1) := by decide +kernel
theorem d_K_init_121 : decode c_K_init 121 = .ok (.goto 15, 3) := by decide +kernel
theorem d_K_init_124 : decode c_K_init 124 = .ok (.iload_n 1, 1) := by decide +kernel
theorem d_K_init_125 : decode c_K_init 125 = .ok (.bipush 50, 2) := by decide +kernel
theorem d_K_init_127 : decode c_K_init 127 = .ok (.if_icmp .le 8, 3) := by decide +kernel
theorem d_K_init_130 : decode c_K_init 130 = .ok (.bipush 50, 2) := by decide +kernel
theorem d_K_init_132 : decode c_K_init 132 = .ok (.goto 4, 3) := by decide +kernel
theorem d_K_init_135 : decode c_K_init 135 = .ok (.iload_n 1, 1) := by decide +kernel
theorem d_K_init_136 : decode c_K_init 136 = .ok (.putfield 64, 3) := by decide +kernel
theorem d_K_init_139 : decode c_K_init 139 = .ok (.aload_n 0, 1) := by decide +kernel
theorem d_K_init_140 : decode c_K_init 140 = .ok (.getfield 29, 3) := by decide +kernel
theorem d_K_init_143 : decode c_K_init 143 = .ok (.iconst 0, 1) := by decide +kernel
theorem d_K_init_144 : decode c_K_init 144 = .ok (.iconst 1, 1) := by decide +kernel
theorem d_K_init_145 : decode c_K_init 145 = .ok (.iastore, 1) := by decide +kernel
theorem d_K_init_146 : decode c_K_init 146 = .ok (.aload_n 0, 1) := by decide +kernel
theorem d_K_init_147 : decode c_K_init 147 = .ok (.getfield 29, 3) := by decide +kernel
theorem d_K_init_150 : decode c_K_init 150 = .ok (.iconst 1, 1) := by decide +kernel
theorem d_K_init_151 : decode c_K_init 151 = .ok (.iconst 1, 1) := by decide +kernel
theorem d_K_init_152 : decode c_K_init 152 = .ok (.iastore, 1) := by decide +kernel
theorem d_K_init_153 : decode c_K_init 153 = .ok (.return_, 1) := by decide +kernel
theorem d_K_stage_0 : decode c_K_stage 0 = .ok (.aload_n 0, 1) := by decide +kernel
theorem d_K_stage_1 : decode c_K_stage 1 = .ok (.iload_n 1, 1) := by decide +kernel
theorem d_K_stage_2 : decode c_K_stage 2 = .ok (.bipush 24, 2) := by decide +kernel
theorem d_K_stage_4 : decode c_K_stage 4 = .ok (.invokevirtual 93, 3) := by decide +kernel
theorem d_K_stage_7 : decode c_K_stage 7 = .ok (.ifCond .ne 11, 3) := by decide +kernel
theorem d_K_stage_10 : decode c_K_stage 10 = .ok (.aload_n 0, 1) := by decide +kernel
theorem d_K_stage_11 : decode c_K_stage 11 = .ok (.getfield 38, 3) := by decide +kernel
theorem d_K_stage_14 : decode c_K_stage 14 = .ok (.iconst 2, 1) := by decide +kernel
theorem d_K_stage_15 : decode c_K_stage 15 = .ok (.if_icmp .ne 5, 3) := by decide +kernel
theorem d_K_stage_18 : decode c_K_stage 18 = .ok (.iconst (-1), 1) := by decide +kernel
theorem d_K_stage_19 : decode c_K_stage 19 = .ok (.ireturn, 1) := by decide +kernel
theorem d_K_stage_20 : decode c_K_stage 20 = .ok (.aload_n 0, 1) := by decide +kernel
theorem d_K_stage_21 : decode c_K_stage 21 = .ok (.getfield 67, 3) := by decide +kernel
theorem d_K_stage_24 : decode c_K_stage 24 = .ok (.iconst 3, 1) := by decide +kernel
theorem d_K_stage_25 : decode c_K_stage 25 = .ok (.if_icmp .ne 6, 3) := by decide +kernel
theorem d_K_stage_28 : decode c_K_stage 28 = .ok (.bipush (-2), 2) := by decide +kernel
theorem d_K_stage_30 : decode c_K_stage 30 = .ok (.ireturn, 1) := by decide +kernel
theorem d_K_stage_31 : decode c_K_stage 31 = .ok (.aload_n 0, 1) := by decide +kernel
theorem d_K_stage_32 : decode c_K_stage 32 = .ok (.getfield 58, 3) := by decide +kernel
theorem d_K_stage_35 : decode c_K_stage 35 = .ok (.aload_n 0, 1) := by decide +kernel
theorem d_K_stage_36 : decode c_K_stage 36 = .ok (.getfield 67, 3) := by decide +kernel
theorem d_K_stage_39 : decode c_K_stage 39 = .ok (.iload_n 1, 1) := by decide +kernel
theorem d_K_stage_40 : decode c_K_stage 40 = .ok (.iastore, 1) := by decide +kernel
theorem d_K_stage_41 : decode c_K_stage 41 = .ok (.aload_n 0, 1) := by decide +kernel
theorem d_K_stage_42 : decode c_K_stage 42 = .ok (.getfield 61, 3) := by decide +kernel
theorem d_K_stage_45 : decode c_K_stage 45 = .ok (.aload_n 0, 1) := by decide +kernel
theorem d_K_stage_46 : decode c_K_stage 46 = .ok (.getfield 67, 3) := by decide +kernel
theorem d_K_stage_49 : decode c_K_stage 49 = .ok (.iload_n 2, 1) := by decide +kernel
theorem d_K_stage_50 : decode c_K_stage 50 = .ok (.iastore, 1) := by decide +kernel
theorem d_K_stage_51 : decode c_K_stage 51 = .ok (.aload_n 0, 1) := by decide +kernel
theorem d_K_stage_52 : decode c_K_stage 52 = .ok (.dup, 1) := by decide +kernel
theorem d_K_stage_53 : decode c_K_stage 53 = .ok (.getfield 67, 3) := by decide +kernel
theorem d_K_stage_56 : decode c_K_stage 56 = .ok (.iconst 1, 1) := by decide +kernel
theorem d_K_stage_57 : decode c_K_stage 57 = .ok (.iadd, 1) := by decide +kernel
theorem d_K_stage_58 : decode c_K_stage 58 = .ok (.putfield 67, 3) := by decide +kernel
theorem d_K_stage_61 : decode c_K_stage 61 = .ok (.aload_n 0, 1) := by decide +kernel
theorem d_K_stage_62 : decode c_K_stage 62 = .ok (.getfield 67, 3) := by decide +kernel
theorem d_K_stage_65 : decode c_K_stage 65 = .ok (.ireturn, 1) := by decide +kernel
theorem d_K_out_0 : decode c_K_out 0 = .ok (.iload_n 1, 1) := by decide +kernel
theorem d_K_out_1 : decode c_K_out 1 = .ok (.ifCond .lt 8, 3) := by decide +kernel
theorem d_K_out_4 : decode c_K_out 4 = .ok (.iload_n 1, 1) := by decide +kernel
theorem d_K_out_5 : decode c_K_out 5 = .ok (.iload_n 2, 1) := by decide +kernel
theorem d_K_out_6 : decode c_K_out 6 = .ok (.if_icmp .lt 7, 3) := by decide +kernel
theorem d_K_out_9 : decode c_K_out 9 = .ok (.iconst 1, 1) := by decide +kernel
theorem d_K_out_10 : decode c_K_out 10 = .ok (.goto 4, 3) := by decide +kernel
theorem d_K_out_13 : decode c_K_out 13 = .ok (.iconst 0, 1) := by decide +kernel
theorem d_K_out_14 : decode c_K_out 14 = .ok (.ireturn, 1) := by decide +kernel
theorem d_K_commit_0 : decode c_K_commit 0 = .ok (.aload_n 0, 1) := by decide +kernel
theorem d_K_commit_1 : decode c_K_commit 1 = .ok (.getfield 38, 3) := by decide +kernel
theorem d_K_commit_4 : decode c_K_commit 4 = .ok (.iconst 2, 1) := by decide +kernel
theorem d_K_commit_5 : decode c_K_commit 5 = .ok (.if_icmp .eq 10, 3) := by decide +kernel
theorem d_K_commit_8 : decode c_K_commit 8 = .ok (.aload_n 0, 1) := by decide +kernel
theorem d_K_commit_9 : decode c_K_commit 9 = .ok (.getfield 67, 3) := by decide +kernel
theorem d_K_commit_12 : decode c_K_commit 12 = .ok (.ifCond .ne 5, 3) := by decide +kernel
theorem d_K_commit_15 : decode c_K_commit 15 = .ok (.iconst (-1), 1) := by decide +kernel
theorem d_K_commit_16 : decode c_K_commit 16 = .ok (.ireturn, 1) := by decide +kernel
theorem d_K_commit_17 : decode c_K_commit 17 = .ok (.aload_n 0, 1) := by decide +kernel
theorem d_K_commit_18 : decode c_K_commit 18 = .ok (.getfield 48, 3) := by decide +kernel
theorem d_K_commit_21 : decode c_K_commit 21 = .ok (.ifCond .ne 38, 3) := by decide +kernel
theorem d_K_commit_24 : decode c_K_commit 24 = .ok (.aload_n 0, 1) := by decide +kernel
theorem d_K_commit_25 : decode c_K_commit 25 = .ok (.getfield 23, 3) := by decide +kernel
theorem d_K_commit_28 : decode c_K_commit 28 = .ok (.aload_n 0, 1) := by decide +kernel
theorem d_K_commit_29 : decode c_K_commit 29 = .ok (.getfield 38, 3) := by decide +kernel
theorem d_K_commit_32 : decode c_K_commit 32 = .ok (.baload, 1) := by decide +kernel
theorem d_K_commit_33 : decode c_K_commit 33 = .ok (.ifCond .ne 26, 3) := by decide +kernel
theorem d_K_commit_36 : decode c_K_commit 36 = .ok (.aload_n 0, 1) := by decide +kernel
theorem d_K_commit_37 : decode c_K_commit 37 = .ok (.getfield 26, 3) := by decide +kernel
theorem d_K_commit_40 : decode c_K_commit 40 = .ok (.aload_n 0, 1) := by decide +kernel
theorem d_K_commit_41 : decode c_K_commit 41 = .ok (.getfield 38, 3) := by decide +kernel
theorem d_K_commit_44 : decode c_K_commit 44 = .ok (.baload, 1) := by decide +kernel
theorem d_K_commit_45 : decode c_K_commit 45 = .ok (.ifCond .eq 6, 3) := by decide +kernel
theorem d_K_commit_48 : decode c_K_commit 48 = .ok (.bipush (-3), 2) := by decide +kernel
theorem d_K_commit_50 : decode c_K_commit 50 = .ok (.ireturn, 1) := by decide +kernel
theorem d_K_commit_51 : decode c_K_commit 51 = .ok (.aload_n 0, 1) := by decide +kernel
theorem d_K_commit_52 : decode c_K_commit 52 = .ok (.aload_n 0, 1) := by decide +kernel
theorem d_K_commit_53 : decode c_K_commit 53 = .ok (.getfield 38, 3) := by decide +kernel
theorem d_K_commit_56 : decode c_K_commit 56 = .ok (.invokevirtual 97, 3) := by decide +kernel
theorem d_K_commit_59 : decode c_K_commit 59 = .ok (.aload_n 0, 1) := by decide +kernel
theorem d_K_commit_60 : decode c_K_commit 60 = .ok (.getfield 67, 3) := by decide +kernel
theorem d_K_commit_63 : decode c_K_commit 63 = .ok (.istore_n 3, 1) := by decide +kernel
theorem d_K_commit_64 : decode c_K_commit 64 = .ok (.iconst 3, 1) := by decide +kernel
theorem d_K_commit_65 : decode c_K_commit 65 = .ok (.iload_n 3, 1) := by decide +kernel
theorem d_K_commit_66 : decode c_K_commit 66 = .ok (.imul, 1) := by decide +kernel
theorem d_K_commit_67 : decode c_K_commit 67 = .ok (.bipush 7, 2) := by decide +kernel
theorem d_K_commit_69 : decode c_K_commit 69 = .ok (.iadd, 1) := by decide +kernel
theorem d_K_commit_70 : decode c_K_commit 70 = .ok (.istore 4, 2) := by decide +kernel
theorem d_K_commit_72 : decode c_K_commit 72 = .ok (.iload_n 1, 1) := by decide +kernel
theorem d_K_commit_73 : decode c_K_commit 73 = .ok (.ifCond .lt 13, 3) := by decide +kernel
theorem d_K_commit_76 : decode c_K_commit 76 = .ok (.iload_n 1, 1) := by decide +kernel
theorem d_K_commit_77 : decode c_K_commit 77 = .ok (.iload 4, 2) := by decide +kernel
theorem d_K_commit_79 : decode c_K_commit 79 = .ok (.if_icmp .ge 7, 3) := by decide +kernel
theorem d_K_commit_82 : decode c_K_commit 82 = .ok (.iconst 1, 1) := by decide +kernel
theorem d_K_commit_83 : decode c_K_commit 83 = .ok (.goto 4, 3) := by decide +kernel
theorem d_K_commit_86 : decode c_K_commit 86 = .ok (.iconst 0, 1) := by decide +kernel
theorem d_K_commit_87 : decode c_K_commit 87 = .ok (.istore 5, 2) := by decide +kernel
theorem d_K_commit_89 : decode c_K_commit 89 = .ok (.iconst 0, 1) := by decide +kernel
theorem d_K_commit_90 : decode c_K_commit 90 = .ok (.istore 6, 2) := by decide +kernel
theorem d_K_commit_92 : decode c_K_commit 92 = .ok (.iload 6, 2) := by decide +kernel
theorem d_K_commit_94 : decode c_K_commit 94 = .ok (.iload 5, 2) := by decide +kernel
theorem d_K_commit_96 : decode c_K_commit 96 = .ok (.ifCond .eq 7, 3) := by decide +kernel
theorem d_K_commit_99 : decode c_K_commit 99 = .ok (.iload_n 1, 1) := by decide +kernel
theorem d_K_commit_100 : decode c_K_commit 100 = .ok (.goto 5, 3) := by decide +kernel
theorem d_K_commit_103 : decode c_K_commit 103 = .ok (.iload 4, 2) := by decide +kernel
theorem d_K_commit_105 : decode c_K_commit 105 = .ok (.if_icmp .ge 16, 3) := by decide +kernel
theorem d_K_commit_108 : decode c_K_commit 108 = .ok (.aload_n 0, 1) := by decide +kernel
theorem d_K_commit_109 : decode c_K_commit 109 = .ok (.iload 6, 2) := by decide +kernel
theorem d_K_commit_111 : decode c_K_commit 111 = .ok (.iload_n 3, 1) := by decide +kernel
theorem d_K_commit_112 : decode c_K_commit 112 = .ok (.invokevirtual 100, 3) := by decide +kernel
theorem d_K_commit_115 : decode c_K_commit 115 = .ok (.iinc 6 1, 3) := by decide +kernel
theorem d_K_commit_118 : decode c_K_commit 118 = .ok (.goto (-26), 3) := by decide +kernel
theorem d_K_commit_121 : decode c_K_commit 121 = .ok (.iload 5, 2) := by decide +kernel
theorem d_K_commit_123 : decode c_K_commit 123 = .ok (.ifCond .eq 17, 3) := by decide +kernel
theorem d_K_commit_126 : decode c_K_commit 126 = .ok (.aload_n 0, 1) := by decide +kernel
theorem d_K_commit_127 : decode c_K_commit 127 = .ok (.aload_n 0, 1) := by decide +kernel
theorem d_K_commit_128 : decode c_K_commit 128 = .ok (.getfield 38, 3) := by decide +kernel
theorem d_K_commit_131 : decode c_K_commit 131 = .ok (.iload_n 2, 1) := by decide +kernel
theorem d_K_commit_132 : decode c_K_commit 132 = .ok (.invokevirtual 103, 3) := by decide +kernel
theorem d_K_commit_135 : decode c_K_commit 135 = .ok (.istore 6, 2) := by decide +kernel
theorem d_K_commit_137 : decode c_K_commit 137 = .ok (.bipush (-7), 2) := by decide +kernel
theorem d_K_commit_139 : decode c_K_commit 139 = .ok (.ireturn, 1) := by decide +kernel
theorem d_K_commit_140 : decode c_K_commit 140 = .ok (.aload_n 0, 1) := by decide +kernel
theorem d_K_commit_141 : decode c_K_commit 141 = .ok (.iconst 0, 1) := by decide +kernel
theorem d_K_commit_142 : decode c_K_commit 142 = .ok (.putfield 67, 3) := by decide +kernel
theorem d_K_commit_145 : decode c_K_commit 145 = .ok (.iconst 0, 1) := by decide +kernel
theorem d_K_commit_146 : decode c_K_commit 146 = .ok (.ireturn, 1) := by decide +kernel
theorem d_K_goAlone_0 : decode c_K_goAlone 0 = .ok (.aload_n 0, 1) := by decide +kernel
theorem d_K_goAlone_1 : decode c_K_goAlone 1 = .ok (.dup, 1) := by decide +kernel
theorem d_K_goAlone_2 : decode c_K_goAlone 2 = .ok (.getfield 55, 3) := by decide +kernel
theorem d_K_goAlone_5 : decode c_K_goAlone 5 = .ok (.iconst 1, 1) := by decide +kernel
theorem d_K_goAlone_6 : decode c_K_goAlone 6 = .ok (.iadd, 1) := by decide +kernel
theorem d_K_goAlone_7 : decode c_K_goAlone 7 = .ok (.putfield 55, 3) := by decide +kernel
theorem d_K_goAlone_10 : decode c_K_goAlone 10 = .ok (.aload_n 0, 1) := by decide +kernel
theorem d_K_goAlone_11 : decode c_K_goAlone 11 = .ok (.getfield 32, 3) := by decide +kernel
theorem d_K_goAlone_14 : decode c_K_goAlone 14 = .ok (.iload_n 1, 1) := by decide +kernel
theorem d_K_goAlone_15 : decode c_K_goAlone 15 = .ok (.aload_n 0, 1) := by decide +kernel
theorem d_K_goAlone_16 : decode c_K_goAlone 16 = .ok (.getfield 29, 3) := by decide +kernel
theorem d_K_goAlone_19 : decode c_K_goAlone 19 = .ok (.iload_n 1, 1) := by decide +kernel
theorem d_K_goAlone_20 : decode c_K_goAlone 20 = .ok (.iaload, 1) := by decide +kernel
theorem d_K_goAlone_21 : decode c_K_goAlone 21 = .ok (.iastore, 1) := by decide +kernel
theorem d_K_goAlone_22 : decode c_K_goAlone 22 = .ok (.aload_n 0, 1) := by decide +kernel
theorem d_K_goAlone_23 : decode c_K_goAlone 23 = .ok (.getfield 29, 3) := by decide +kernel
theorem d_K_goAlone_26 : decode c_K_goAlone 26 = .ok (.iload_n 1, 1) := by decide +kernel
theorem d_K_goAlone_27 : decode c_K_goAlone 27 = .ok (.aload_n 0, 1) := by decide +kernel
theorem d_K_goAlone_28 : decode c_K_goAlone 28 = .ok (.getfield 55, 3) := by decide +kernel
theorem d_K_goAlone_31 : decode c_K_goAlone 31 = .ok (.iastore, 1) := by decide +kernel
theorem d_K_goAlone_32 : decode c_K_goAlone 32 = .ok (.aload_n 0, 1) := by decide +kernel
theorem d_K_goAlone_33 : decode c_K_goAlone 33 = .ok (.getfield 23, 3) := by decide +kernel
theorem d_K_goAlone_36 : decode c_K_goAlone 36 = .ok (.iload_n 1, 1) := by decide +kernel
theorem d_K_goAlone_37 : decode c_K_goAlone 37 = .ok (.iconst 1, 1) := by decide +kernel
theorem d_K_goAlone_38 : decode c_K_goAlone 38 = .ok (.bastore, 1) := by decide +kernel
theorem d_K_goAlone_39 : decode c_K_goAlone 39 = .ok (.return_, 1) := by decide +kernel
