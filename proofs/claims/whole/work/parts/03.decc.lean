theorem d_K_step_0 : decode c_K_step 0 = .ok (.iconst 3, 1) := by decide +kernel
theorem d_K_step_1 : decode c_K_step 1 = .ok (.iconst 2, 1) := by decide +kernel
theorem d_K_step_2 : decode c_K_step 2 = .ok (.iload_n 2, 1) := by decide +kernel
theorem d_K_step_3 : decode c_K_step 3 = .ok (.imul, 1) := by decide +kernel
theorem d_K_step_4 : decode c_K_step 4 = .ok (.iadd, 1) := by decide +kernel
theorem d_K_step_5 : decode c_K_step 5 = .ok (.istore_n 3, 1) := by decide +kernel
theorem d_K_step_6 : decode c_K_step 6 = .ok (.iload_n 1, 1) := by decide +kernel
theorem d_K_step_7 : decode c_K_step 7 = .ok (.ifCond .eq 20, 3) := by decide +kernel
theorem d_K_step_10 : decode c_K_step 10 = .ok (.iload_n 1, 1) := by decide +kernel
theorem d_K_step_11 : decode c_K_step 11 = .ok (.iconst 2, 1) := by decide +kernel
theorem d_K_step_12 : decode c_K_step 12 = .ok (.if_icmp .eq 15, 3) := by decide +kernel
theorem d_K_step_15 : decode c_K_step 15 = .ok (.iload_n 1, 1) := by decide +kernel
theorem d_K_step_16 : decode c_K_step 16 = .ok (.iload_n 3, 1) := by decide +kernel
theorem d_K_step_17 : decode c_K_step 17 = .ok (.if_icmp .eq 10, 3) := by decide +kernel
theorem d_K_step_20 : decode c_K_step 20 = .ok (.iload_n 1, 1) := by decide +kernel
theorem d_K_step_21 : decode c_K_step 21 = .ok (.iload_n 3, 1) := by decide +kernel
theorem d_K_step_22 : decode c_K_step 22 = .ok (.iconst 2, 1) := by decide +kernel
theorem d_K_step_23 : decode c_K_step 23 = .ok (.iadd, 1) := by decide +kernel
theorem d_K_step_24 : decode c_K_step 24 = .ok (.if_icmp .ne 10, 3) := by decide +kernel
theorem d_K_step_27 : decode c_K_step 27 = .ok (.aload_n 0, 1) := by decide +kernel
theorem d_K_step_28 : decode c_K_step 28 = .ok (.invokevirtual 86, 3) := by decide +kernel
theorem d_K_step_31 : decode c_K_step 31 = .ok (.goto 147, 3) := by decide +kernel
theorem d_K_step_34 : decode c_K_step 34 = .ok (.iload_n 1, 1) := by decide +kernel
theorem d_K_step_35 : decode c_K_step 35 = .ok (.iconst 1, 1) := by decide +kernel
theorem d_K_step_36 : decode c_K_step 36 = .ok (.if_icmp .ne 13, 3) := by decide +kernel
theorem d_K_step_39 : decode c_K_step 39 = .ok (.aload_n 0, 1) := by decide +kernel
theorem d_K_step_40 : decode c_K_step 40 = .ok (.bipush 24, 2) := by decide +kernel
theorem d_K_step_42 : decode c_K_step 42 = .ok (.iconst 0, 1) := by decide +kernel
theorem d_K_step_43 : decode c_K_step 43 = .ok (.invokevirtual 89, 3) := by decide +kernel
theorem d_K_step_46 : decode c_K_step 46 = .ok (.goto 132, 3) := by decide +kernel
theorem d_K_step_49 : decode c_K_step 49 = .ok (.iload_n 1, 1) := by decide +kernel
theorem d_K_step_50 : decode c_K_step 50 = .ok (.iload_n 3, 1) := by decide +kernel
theorem d_K_step_51 : decode c_K_step 51 = .ok (.iconst 1, 1) := by decide +kernel
theorem d_K_step_52 : decode c_K_step 52 = .ok (.iadd, 1) := by decide +kernel
theorem d_K_step_53 : decode c_K_step 53 = .ok (.if_icmp .ne 13, 3) := by decide +kernel
theorem d_K_step_56 : decode c_K_step 56 = .ok (.aload_n 0, 1) := by decide +kernel
theorem d_K_step_57 : decode c_K_step 57 = .ok (.bipush 24, 2) := by decide +kernel
theorem d_K_step_59 : decode c_K_step 59 = .ok (.iload_n 2, 1) := by decide +kernel
theorem d_K_step_60 : decode c_K_step 60 = .ok (.invokevirtual 89, 3) := by decide +kernel
theorem d_K_step_63 : decode c_K_step 63 = .ok (.goto 115, 3) := by decide +kernel
theorem d_K_step_66 : decode c_K_step 66 = .ok (.iload_n 1, 1) := by decide +kernel
theorem d_K_step_67 : decode c_K_step 67 = .ok (.iload_n 3, 1) := by decide +kernel
theorem d_K_step_68 : decode c_K_step 68 = .ok (.if_icmp .ge 76, 3) := by decide +kernel
theorem d_K_step_71 : decode c_K_step 71 = .ok (.iload_n 1, 1) := by decide +kernel
theorem d_K_step_72 : decode c_K_step 72 = .ok (.iconst 3, 1) := by decide +kernel
theorem d_K_step_73 : decode c_K_step 73 = .ok (.isub, 1) := by decide +kernel
theorem d_K_step_74 : decode c_K_step 74 = .ok (.iconst 2, 1) := by decide +kernel
theorem d_K_step_75 : decode c_K_step 75 = .ok (.idiv, 1) := by decide +kernel
theorem d_K_step_76 : decode c_K_step 76 = .ok (.istore 4, 2) := by decide +kernel
theorem d_K_step_78 : decode c_K_step 78 = .ok (.iload_n 1, 1) := by decide +kernel
theorem d_K_step_79 : decode c_K_step 79 = .ok (.iconst 3, 1) := by decide +kernel
theorem d_K_step_80 : decode c_K_step 80 = .ok (.isub, 1) := by decide +kernel
theorem d_K_step_81 : decode c_K_step 81 = .ok (.iconst 1, 1) := by decide +kernel
theorem d_K_step_82 : decode c_K_step 82 = .ok (.iand, 1) := by decide +kernel
theorem d_K_step_83 : decode c_K_step 83 = .ok (.ifCond .ne 7, 3) := by decide +kernel
theorem d_K_step_86 : decode c_K_step 86 = .ok (.iconst 1, 1) := by decide +kernel
theorem d_K_step_87 : decode c_K_step 87 = .ok (.goto 4, 3) := by decide +kernel
theorem d_K_step_90 : decode c_K_step 90 = .ok (.iconst 0, 1) := by decide +kernel
theorem d_K_step_91 : decode c_K_step 91 = .ok (.istore 5, 2) := by decide +kernel
theorem d_K_step_93 : decode c_K_step 93 = .ok (.aload_n 0, 1) := by decide +kernel
theorem d_K_step_94 : decode c_K_step 94 = .ok (.iload 5, 2) := by decide +kernel
theorem d_K_step_96 : decode c_K_step 96 = .ok (.ifCond .eq 13, 3) := by decide +kernel
theorem d_K_step_99 : decode c_K_step 99 = .ok (.bipush 25, 2) := by decide +kernel
theorem d_K_step_101 : decode c_K_step 101 = .ok (.iconst 2, 1) := by decide +kernel
theorem d_K_step_102 : decode c_K_step 102 = .ok (.iload 4, 2) := by decide +kernel
theorem d_K_step_104 : decode c_K_step 104 = .ok (.imul, 1) := by decide +kernel
theorem d_K_step_105 : decode c_K_step 105 = .ok (.iadd, 1) := by decide +kernel
theorem d_K_step_106 : decode c_K_step 106 = .ok (.goto 10, 3) := by decide +kernel
theorem d_K_step_109 : decode c_K_step 109 = .ok (.bipush 26, 2) := by decide +kernel
theorem d_K_step_111 : decode c_K_step 111 = .ok (.iconst 2, 1) := by decide +kernel
theorem d_K_step_112 : decode c_K_step 112 = .ok (.iload 4, 2) := by decide +kernel
theorem d_K_step_114 : decode c_K_step 114 = .ok (.imul, 1) := by decide +kernel
theorem d_K_step_115 : decode c_K_step 115 = .ok (.iadd, 1) := by decide +kernel
theorem d_K_step_116 : decode c_K_step 116 = .ok (.iload 5, 2) := by decide +kernel
theorem d_K_step_118 : decode c_K_step 118 = .ok (.ifCond .eq 13, 3) := by decide +kernel
theorem d_K_step_121 : decode c_K_step 121 = .ok (.aload_n 0, 1) := by decide +kernel
theorem d_K_step_122 : decode c_K_step 122 = .ok (.getfield 58, 3) := by decide +kernel
theorem d_K_step_125 : decode c_K_step 125 = .ok (.iload 4, 2) := by decide +kernel
theorem d_K_step_127 : decode c_K_step 127 = .ok (.iaload, 1) := by decide +kernel
theorem d_K_step_128 : decode c_K_step 128 = .ok (.goto 10, 3) := by decide +kernel
theorem d_K_step_131 : decode c_K_step 131 = .ok (.aload_n 0, 1) := by decide +kernel
theorem d_K_step_132 : decode c_K_step 132 = .ok (.getfield 61, 3) := by decide +kernel
theorem d_K_step_135 : decode c_K_step 135 = .ok (.iload 4, 2) := by decide +kernel
theorem d_K_step_137 : decode c_K_step 137 = .ok (.iaload, 1) := by decide +kernel
theorem d_K_step_138 : decode c_K_step 138 = .ok (.invokevirtual 89, 3) := by decide +kernel
theorem d_K_step_141 : decode c_K_step 141 = .ok (.goto 37, 3) := by decide +kernel
theorem d_K_step_144 : decode c_K_step 144 = .ok (.iload_n 1, 1) := by decide +kernel
theorem d_K_step_145 : decode c_K_step 145 = .ok (.iload_n 3, 1) := by decide +kernel
theorem d_K_step_146 : decode c_K_step 146 = .ok (.iconst 3, 1) := by decide +kernel
theorem d_K_step_147 : decode c_K_step 147 = .ok (.iadd, 1) := by decide +kernel
theorem d_K_step_148 : decode c_K_step 148 = .ok (.iload_n 2, 1) := by decide +kernel
theorem d_K_step_149 : decode c_K_step 149 = .ok (.iadd, 1) := by decide +kernel
theorem d_K_step_150 : decode c_K_step 150 = .ok (.if_icmp .ge 28, 3) := by decide +kernel
theorem d_K_step_153 : decode c_K_step 153 = .ok (.iload_n 1, 1) := by decide +kernel
theorem d_K_step_154 : decode c_K_step 154 = .ok (.iload_n 3, 1) := by decide +kernel
theorem d_K_step_155 : decode c_K_step 155 = .ok (.isub, 1) := by decide +kernel
theorem d_K_step_156 : decode c_K_step 156 = .ok (.iconst 3, 1) := by decide +kernel
theorem d_K_step_157 : decode c_K_step 157 = .ok (.isub, 1) := by decide +kernel
theorem d_K_step_158 : decode c_K_step 158 = .ok (.istore 4, 2) := by decide +kernel
theorem d_K_step_160 : decode c_K_step 160 = .ok (.aload_n 0, 1) := by decide +kernel
theorem d_K_step_161 : decode c_K_step 161 = .ok (.aload_n 0, 1) := by decide +kernel
theorem d_K_step_162 : decode c_K_step 162 = .ok (.getfield 58, 3) := by decide +kernel
theorem d_K_step_165 : decode c_K_step 165 = .ok (.iload 4, 2) := by decide +kernel
theorem d_K_step_167 : decode c_K_step 167 = .ok (.iaload, 1) := by decide +kernel
theorem d_K_step_168 : decode c_K_step 168 = .ok (.aload_n 0, 1) := by decide +kernel
theorem d_K_step_169 : decode c_K_step 169 = .ok (.getfield 61, 3) := by decide +kernel
theorem d_K_step_172 : decode c_K_step 172 = .ok (.iload 4, 2) := by decide +kernel
theorem d_K_step_174 : decode c_K_step 174 = .ok (.iaload, 1) := by decide +kernel
theorem d_K_step_175 : decode c_K_step 175 = .ok (.invokevirtual 89, 3) := by decide +kernel
theorem d_K_step_178 : decode c_K_step 178 = .ok (.return_, 1) := by decide +kernel
theorem d_K_flushStep_0 : decode c_K_flushStep 0 = .ok (.aload_n 0, 1) := by decide +kernel
theorem d_K_flushStep_1 : decode c_K_flushStep 1 = .ok (.getfield 48, 3) := by decide +kernel
theorem d_K_flushStep_4 : decode c_K_flushStep 4 = .ok (.ifCond .eq 13, 3) := by decide +kernel
theorem d_K_flushStep_7 : decode c_K_flushStep 7 = .ok (.aload_n 0, 1) := by decide +kernel
theorem d_K_flushStep_8 : decode c_K_flushStep 8 = .ok (.iconst 1, 1) := by decide +kernel
theorem d_K_flushStep_9 : decode c_K_flushStep 9 = .ok (.aload_n 0, 1) := by decide +kernel
theorem d_K_flushStep_10 : decode c_K_flushStep 10 = .ok (.getfield 38, 3) := by decide +kernel
theorem d_K_flushStep_13 : decode c_K_flushStep 13 = .ok (.isub, 1) := by decide +kernel
theorem d_K_flushStep_14 : decode c_K_flushStep 14 = .ok (.invokevirtual 82, 3) := by decide +kernel
theorem d_K_flushStep_17 : decode c_K_flushStep 17 = .ok (.aload_n 0, 1) := by decide +kernel
theorem d_K_flushStep_18 : decode c_K_flushStep 18 = .ok (.aload_n 0, 1) := by decide +kernel
theorem d_K_flushStep_19 : decode c_K_flushStep 19 = .ok (.getfield 38, 3) := by decide +kernel
theorem d_K_flushStep_22 : decode c_K_flushStep 22 = .ok (.invokevirtual 82, 3) := by decide +kernel
theorem d_K_flushStep_25 : decode c_K_flushStep 25 = .ok (.return_, 1) := by decide +kernel
theorem d_K_settle_0 : decode c_K_settle 0 = .ok (.iconst 0, 1) := by decide +kernel
theorem d_K_settle_1 : decode c_K_settle 1 = .ok (.istore_n 2, 1) := by decide +kernel
theorem d_K_settle_2 : decode c_K_settle 2 = .ok (.iload_n 2, 1) := by decide +kernel
theorem d_K_settle_3 : decode c_K_settle 3 = .ok (.bipush 32, 2) := by decide +kernel
theorem d_K_settle_5 : decode c_K_settle 5 = .ok (.if_icmp .ge 38, 3) := by decide +kernel
theorem d_K_settle_8 : decode c_K_settle 8 = .ok (.aload_n 0, 1) := by decide +kernel
theorem d_K_settle_9 : decode c_K_settle 9 = .ok (.getfield 7, 3) := by decide +kernel
theorem d_K_settle_12 : decode c_K_settle 12 = .ok (.iload_n 1, 1) := by decide +kernel
theorem d_K_settle_13 : decode c_K_settle 13 = .ok (.bipush 32, 2) := by decide +kernel
theorem d_K_settle_15 : decode c_K_settle 15 = .ok (.imul, 1) := by decide +kernel
theorem d_K_settle_16 : decode c_K_settle 16 = .ok (.iload_n 2, 1) := by decide +kernel
theorem d_K_settle_17 : decode c_K_settle 17 = .ok (.iadd, 1) := by decide +kernel
theorem d_K_settle_18 : decode c_K_settle 18 = .ok (.aload_n 0, 1) := by decide +kernel
theorem d_K_settle_19 : decode c_K_settle 19 = .ok (.iload_n 1, 1) := by decide +kernel
theorem d_K_settle_20 : decode c_K_settle 20 = .ok (.iload_n 2, 1) := by decide +kernel
theorem d_K_settle_21 : decode c_K_settle 21 = .ok (.invokevirtual 78, 3) := by decide +kernel
theorem d_K_settle_24 : decode c_K_settle 24 = .ok (.iastore, 1) := by decide +kernel
theorem d_K_settle_25 : decode c_K_settle 25 = .ok (.aload_n 0, 1) := by decide +kernel
theorem d_K_settle_26 : decode c_K_settle 26 = .ok (.getfield 16, 3) := by decide +kernel
theorem d_K_settle_29 : decode c_K_settle 29 = .ok (.iload_n 1, 1) := by decide +kernel
theorem d_K_settle_30 : decode c_K_settle 30 = .ok (.bipush 32, 2) := by decide +kernel
theorem d_K_settle_32 : decode c_K_settle 32 = .ok (.imul, 1) := by decide +kernel
theorem d_K_settle_33 : decode c_K_settle 33 = .ok (.iload_n 2, 1) := by decide +kernel
theorem d_K_settle_34 : decode c_K_settle 34 = .ok (.iadd, 1) := by decide +kernel
theorem d_K_settle_35 : decode c_K_settle 35 = .ok (.iconst 0, 1) := by decide +kernel
theorem d_K_settle_36 : decode c_K_settle 36 = .ok (.bastore, 1) := by decide +kernel
theorem d_K_settle_37 : decode c_K_settle 37 = .ok (.iinc 2 1, 3) := by decide +kernel
theorem d_K_settle_40 : decode c_K_settle 40 = .ok (.goto (-38), 3) := by decide +kernel
theorem d_K_settle_43 : decode c_K_settle 43 = .ok (.return_, 1) := by decide +kernel
theorem d_K_holds_0 : decode c_K_holds 0 = .ok (.aload_n 0, 1) := by decide +kernel
theorem d_K_holds_1 : decode c_K_holds 1 = .ok (.getfield 16, 3) := by decide +kernel
theorem d_K_holds_4 : decode c_K_holds 4 = .ok (.iload_n 1, 1) := by decide +kernel
theorem d_K_holds_5 : decode c_K_holds 5 = .ok (.bipush 32, 2) := by decide +kernel
theorem d_K_holds_7 : decode c_K_holds 7 = .ok (.imul, 1) := by decide +kernel
theorem d_K_holds_8 : decode c_K_holds 8 = .ok (.iload_n 2, 1) := by decide +kernel
theorem d_K_holds_9 : decode c_K_holds 9 = .ok (.iadd, 1) := by decide +kernel
theorem d_K_holds_10 : decode c_K_holds 10 = .ok (.baload, 1) := by decide +kernel
theorem d_K_holds_11 : decode c_K_holds 11 = .ok (.ifCond .eq 17, 3) := by decide +kernel
theorem d_K_holds_14 : decode c_K_holds 14 = .ok (.aload_n 0, 1) := by decide +kernel
theorem d_K_holds_15 : decode c_K_holds 15 = .ok (.getfield 13, 3) := by decide +kernel
theorem d_K_holds_18 : decode c_K_holds 18 = .ok (.iload_n 1, 1) := by decide +kernel
theorem d_K_holds_19 : decode c_K_holds 19 = .ok (.bipush 32, 2) := by decide +kernel
theorem d_K_holds_21 : decode c_K_holds 21 = .ok (.imul, 1) := by decide +kernel
theorem d_K_holds_22 : decode c_K_holds 22 = .ok (.iload_n 2, 1) := by decide +kernel
theorem d_K_holds_23 : decode c_K_holds 23 = .ok (.iadd, 1) := by decide +kernel
theorem d_K_holds_24 : decode c_K_holds 24 = .ok (.iaload, 1) := by decide +kernel
theorem d_K_holds_25 : decode c_K_holds 25 = .ok (.goto 14, 3) := by decide +kernel
theorem d_K_holds_28 : decode c_K_holds 28 = .ok (.aload_n 0, 1) := by decide +kernel
theorem d_K_holds_29 : decode c_K_holds 29 = .ok (.getfield 7, 3) := by decide +kernel
theorem d_K_holds_32 : decode c_K_holds 32 = .ok (.iload_n 1, 1) := by decide +kernel
theorem d_K_holds_33 : decode c_K_holds 33 = .ok (.bipush 32, 2) := by decide +kernel
theorem d_K_holds_35 : decode c_K_holds 35 = .ok (.imul, 1) := by decide +kernel
theorem d_K_holds_36 : decode c_K_holds 36 = .ok (.iload_n 2, 1) := by decide +kernel
theorem d_K_holds_37 : decode c_K_holds 37 = .ok (.iadd, 1) := by decide +kernel
theorem d_K_holds_38 : decode c_K_holds 38 = .ok (.iaload, 1) := by decide +kernel
theorem d_K_holds_39 : decode c_K_holds 39 = .ok (.ireturn, 1) := by decide +kernel
theorem d_K_writeStep_0 : decode c_K_writeStep 0 = .ok (.aload_n 0, 1) := by decide +kernel
theorem d_K_writeStep_1 : decode c_K_writeStep 1 = .ok (.aload_n 0, 1) := by decide +kernel
theorem d_K_writeStep_2 : decode c_K_writeStep 2 = .ok (.getfield 38, 3) := by decide +kernel
theorem d_K_writeStep_5 : decode c_K_writeStep 5 = .ok (.iload_n 1, 1) := by decide +kernel
theorem d_K_writeStep_6 : decode c_K_writeStep 6 = .ok (.iload_n 2, 1) := by decide +kernel
theorem d_K_writeStep_7 : decode c_K_writeStep 7 = .ok (.invokevirtual 70, 3) := by decide +kernel
theorem d_K_writeStep_10 : decode c_K_writeStep 10 = .ok (.aload_n 0, 1) := by decide +kernel
theorem d_K_writeStep_11 : decode c_K_writeStep 11 = .ok (.getfield 48, 3) := by decide +kernel
theorem d_K_writeStep_14 : decode c_K_writeStep 14 = .ok (.ifCond .eq 18, 3) := by decide +kernel
theorem d_K_writeStep_17 : decode c_K_writeStep 17 = .ok (.aload_n 0, 1) := by decide +kernel
theorem d_K_writeStep_18 : decode c_K_writeStep 18 = .ok (.iconst 1, 1) := by decide +kernel
theorem d_K_writeStep_19 : decode c_K_writeStep 19 = .ok (.aload_n 0, 1) := by decide +kernel
theorem d_K_writeStep_20 : decode c_K_writeStep 20 = .ok (.getfield 38, 3) := by decide +kernel
theorem d_K_writeStep_23 : decode c_K_writeStep 23 = .ok (.isub, 1) := by decide +kernel
theorem d_K_writeStep_24 : decode c_K_writeStep 24 = .ok (.iload_n 1, 1) := by decide +kernel
theorem d_K_writeStep_25 : decode c_K_writeStep 25 = .ok (.iload_n 2, 1) := by decide +kernel
theorem d_K_writeStep_26 : decode c_K_writeStep 26 = .ok (.invokevirtual 70, 3) := by decide +kernel
theorem d_K_writeStep_29 : decode c_K_writeStep 29 = .ok (.goto 20, 3) := by decide +kernel
theorem d_K_writeStep_32 : decode c_K_writeStep 32 = .ok (.aload_n 0, 1) := by decide +kernel
theorem d_K_writeStep_33 : decode c_K_writeStep 33 = .ok (.getfield 35, 3) := by decide +kernel
theorem d_K_writeStep_36 : decode c_K_writeStep 36 = .ok (.aload_n 0, 1) := by decide +kernel
theorem d_K_writeStep_37 : decode c_K_writeStep 37 = .ok (.getfield 38, 3) := by decide +kernel
theorem d_K_writeStep_40 : decode c_K_writeStep 40 = .ok (.dup2, 1) := by decide +kernel
theorem d_K_writeStep_41 : decode c_K_writeStep 41 = .ok (.iaload, 1) := by decide +kernel
theorem d_K_writeStep_42 : decode c_K_writeStep 42 = .ok (.aload_n 0, 1) := by decide +kernel
theorem d_K_writeStep_43 : decode c_K_writeStep 43 = .ok (.iload_n 1, 1) := by decide +kernel
theorem d_K_writeStep_44 : decode c_K_writeStep 44 = .ok (.invokevirtual 74, 3) := by decide +kernel
theorem d_K_writeStep_47 : decode c_K_writeStep 47 = .ok (.ior, 1) := by decide +kernel
theorem d_K_writeStep_48 : decode c_K_writeStep 48 = .ok (.iastore, 1) := by decide +kernel
theorem d_K_writeStep_49 : decode c_K_writeStep 49 = .ok (.return_, 1) := by decide +kernel
theorem d_K_keepIn_0 : decode c_K_keepIn 0 = .ok (.aload_n 0, 1) := by decide +kernel
theorem d_K_keepIn_1 : decode c_K_keepIn 1 = .ok (.getfield 13, 3) := by decide +kernel
theorem d_K_keepIn_4 : decode c_K_keepIn 4 = .ok (.iload_n 1, 1) := by decide +kernel
theorem d_K_keepIn_5 : decode c_K_keepIn 5 = .ok (.bipush 32, 2) := by decide +kernel
theorem d_K_keepIn_7 : decode c_K_keepIn 7 = .ok (.imul, 1) := by decide +kernel
theorem d_K_keepIn_8 : decode c_K_keepIn 8 = .ok (.iload_n 2, 1) := by decide +kernel
theorem d_K_keepIn_9 : decode c_K_keepIn 9 = .ok (.iadd, 1) := by decide +kernel
theorem d_K_keepIn_10 : decode c_K_keepIn 10 = .ok (.iload_n 3, 1) := by decide +kernel
theorem d_K_keepIn_11 : decode c_K_keepIn 11 = .ok (.iastore, 1) := by decide +kernel
theorem d_K_keepIn_12 : decode c_K_keepIn 12 = .ok (.aload_n 0, 1) := by decide +kernel
theorem d_K_keepIn_13 : decode c_K_keepIn 13 = .ok (.getfield 16, 3) := by decide +kernel
theorem d_K_keepIn_16 : decode c_K_keepIn 16 = .ok (.iload_n 1, 1) := by decide +kernel
theorem d_K_keepIn_17 : decode c_K_keepIn 17 = .ok (.bipush 32, 2) := by decide +kernel
theorem d_K_keepIn_19 : decode c_K_keepIn 19 = .ok (.imul, 1) := by decide +kernel
theorem d_K_keepIn_20 : decode c_K_keepIn 20 = .ok (.iload_n 2, 1) := by decide +kernel
theorem d_K_keepIn_21 : decode c_K_keepIn 21 = .ok (.iadd, 1) := by decide +kernel
theorem d_K_keepIn_22 : decode c_K_keepIn 22 = .ok (.iconst 1, 1) := by decide +kernel
theorem d_K_keepIn_23 : decode c_K_keepIn 23 = .ok (.bastore, 1) := by decide +kernel
theorem d_K_keepIn_24 : decode c_K_keepIn 24 = .ok (.return_, 1) := by decide +kernel
theorem d_K_extentBit_0 : decode c_K_extentBit 0 = .ok (.iconst 1, 1) := by decide +kernel
theorem d_K_extentBit_1 : decode c_K_extentBit 1 = .ok (.iload_n 1, 1) := by decide +kernel
theorem d_K_extentBit_2 : decode c_K_extentBit 2 = .ok (.iconst 4, 1) := by decide +kernel
theorem d_K_extentBit_3 : decode c_K_extentBit 3 = .ok (.idiv, 1) := by decide +kernel
theorem d_K_extentBit_4 : decode c_K_extentBit 4 = .ok (.ishl, 1) := by decide +kernel
theorem d_K_extentBit_5 : decode c_K_extentBit 5 = .ok (.ireturn, 1) := by decide +kernel
theorem d_K_crash_0 : decode c_K_crash 0 = .ok (.aload_n 0, 1) := by decide +kernel
theorem d_K_crash_1 : decode c_K_crash 1 = .ok (.iload_n 1, 1) := by decide +kernel
theorem d_K_crash_2 : decode c_K_crash 2 = .ok (.iconst 2, 1) := by decide +kernel
theorem d_K_crash_3 : decode c_K_crash 3 = .ok (.invokevirtual 93, 3) := by decide +kernel
theorem d_K_crash_6 : decode c_K_crash 6 = .ok (.ifCond .ne 12, 3) := by decide +kernel
theorem d_K_crash_9 : decode c_K_crash 9 = .ok (.aload_n 0, 1) := by decide +kernel
theorem d_K_crash_10 : decode c_K_crash 10 = .ok (.getfield 20, 3) := by decide +kernel
theorem d_K_crash_13 : decode c_K_crash 13 = .ok (.iload_n 1, 1) := by decide +kernel
theorem d_K_crash_14 : decode c_K_crash 14 = .ok (.baload, 1) := by decide +kernel
theorem d_K_crash_15 : decode c_K_crash 15 = .ok (.ifCond .eq 5, 3) := by decide +kernel
theorem d_K_crash_18 : decode c_K_crash 18 = .ok (.iconst (-1), 1) := by decide +kernel
theorem d_K_crash_19 : decode c_K_crash 19 = .ok (.ireturn, 1) := by decide +kernel
theorem d_K_crash_20 : decode c_K_crash 20 = .ok (.iconst 0, 1) := by decide +kernel
theorem d_K_crash_21 : decode c_K_crash 21 = .ok (.istore_n 3, 1) := by decide +kernel
theorem d_K_crash_22 : decode c_K_crash 22 = .ok (.iload_n 3, 1) := by decide +kernel
theorem d_K_crash_23 : decode c_K_crash 23 = .ok (.bipush 32, 2) := by decide +kernel
theorem d_K_crash_25 : decode c_K_crash 25 = .ok (.if_icmp .ge 103, 3) := by decide +kernel
theorem d_K_crash_28 : decode c_K_crash 28 = .ok (.aload_n 0, 1) := by decide +kernel
theorem d_K_crash_29 : decode c_K_crash 29 = .ok (.getfield 16, 3) := by decide +kernel
theorem d_K_crash_32 : decode c_K_crash 32 = .ok (.iload_n 1, 1) := by decide +kernel
theorem d_K_crash_33 : decode c_K_crash 33 = .ok (.bipush 32, 2) := by decide +kernel
theorem d_K_crash_35 : decode c_K_crash 35 = .ok (.imul, 1) := by decide +kernel
theorem d_K_crash_36 : decode c_K_crash 36 = .ok (.iload_n 3, 1) := by decide +kernel
theorem d_K_crash_37 : decode c_K_crash 37 = .ok (.iadd, 1) := by decide +kernel
theorem d_K_crash_38 : decode c_K_crash 38 = .ok (.baload, 1) := by decide +kernel
theorem d_K_crash_39 : decode c_K_crash 39 = .ok (.ifCond .eq 83, 3) := by decide +kernel
theorem d_K_crash_42 : decode c_K_crash 42 = .ok (.aload_n 0, 1) := by decide +kernel
theorem d_K_crash_43 : decode c_K_crash 43 = .ok (.getfield 35, 3) := by decide +kernel
theorem d_K_crash_46 : decode c_K_crash 46 = .ok (.iload_n 1, 1) := by decide +kernel
theorem d_K_crash_47 : decode c_K_crash 47 = .ok (.dup2, 1) := by decide +kernel
theorem d_K_crash_48 : decode c_K_crash 48 = .ok (.iaload, 1) := by decide +kernel
theorem d_K_crash_49 : decode c_K_crash 49 = .ok (.aload_n 0, 1) := by decide +kernel
theorem d_K_crash_50 : decode c_K_crash 50 = .ok (.iload_n 3, 1) := by decide +kernel
theorem d_K_crash_51 : decode c_K_crash 51 = .ok (.invokevirtual 74, 3) := by decide +kernel
theorem d_K_crash_54 : decode c_K_crash 54 = .ok (.ior, 1) := by decide +kernel
theorem d_K_crash_55 : decode c_K_crash 55 = .ok (.iastore, 1) := by decide +kernel
theorem d_K_crash_56 : decode c_K_crash 56 = .ok (.aload_n 0, 1) := by decide +kernel
theorem d_K_crash_57 : decode c_K_crash 57 = .ok (.getfield 48, 3) := by decide +kernel
theorem d_K_crash_60 : decode c_K_crash 60 = .ok (.ifCond .eq 19, 3) := by decide +kernel
theorem d_K_crash_63 : decode c_K_crash 63 = .ok (.aload_n 0, 1) := by decide +kernel
theorem d_K_crash_64 : decode c_K_crash 64 = .ok (.getfield 35, 3) := by decide +kernel
theorem d_K_crash_67 : decode c_K_crash 67 = .ok (.iconst 1, 1) := by decide +kernel
theorem d_K_crash_68 : decode c_K_crash 68 = .ok (.iload_n 1, 1) := by decide +kernel
theorem d_K_crash_69 : decode c_K_crash 69 = .ok (.isub, 1) := by decide +kernel
theorem d_K_crash_70 : decode c_K_crash 70 = .ok (.dup2, 1) := by decide +kernel
theorem d_K_crash_71 : decode c_K_crash 71 = .ok (.iaload, 1) := by decide +kernel
theorem d_K_crash_72 : decode c_K_crash 72 = .ok (.aload_n 0, 1) := by decide +kernel
theorem d_K_crash_73 : decode c_K_crash 73 = .ok (.iload_n 3, 1) := by decide +kernel
theorem d_K_crash_74 : decode c_K_crash 74 = .ok (.invokevirtual 74, 3) := by decide +kernel
theorem d_K_crash_77 : decode c_K_crash 77 = .ok (.ior, 1) := by decide +kernel
theorem d_K_crash_78 : decode c_K_crash 78 = .ok (.iastore, 1) := by decide +kernel
theorem d_K_crash_79 : decode c_K_crash 79 = .ok (.iload_n 2, 1) := by decide +kernel
theorem d_K_crash_80 : decode c_K_crash 80 = .ok (.iload_n 3, 1) := by decide +kernel
theorem d_K_crash_81 : decode c_K_crash 81 = .ok (.iushr, 1) := by decide +kernel
theorem d_K_crash_82 : decode c_K_crash 82 = .ok (.iconst 1, 1) := by decide +kernel
theorem d_K_crash_83 : decode c_K_crash 83 = .ok (.iand, 1) := by decide +kernel
theorem d_K_crash_84 : decode c_K_crash 84 = .ok (.iconst 1, 1) := by decide +kernel
theorem d_K_crash_85 : decode c_K_crash 85 = .ok (.if_icmp .ne 25, 3) := by decide +kernel
theorem d_K_crash_88 : decode c_K_crash 88 = .ok (.aload_n 0, 1) := by decide +kernel
theorem d_K_crash_89 : decode c_K_crash 89 = .ok (.getfield 7, 3) := by decide +kernel
theorem d_K_crash_92 : decode c_K_crash 92 = .ok (.iload_n 1, 1) := by decide +kernel
theorem d_K_crash_93 : decode c_K_crash 93 = .ok (.bipush 32, 2) := by decide +kernel
theorem d_K_crash_95 : decode c_K_crash 95 = .ok (.imul, 1) := by decide +kernel
theorem d_K_crash_96 : decode c_K_crash 96 = .ok (.iload_n 3, 1) := by decide +kernel
theorem d_K_crash_97 : decode c_K_crash 97 = .ok (.iadd, 1) := by decide +kernel
theorem d_K_crash_98 : decode c_K_crash 98 = .ok (.aload_n 0, 1) := by decide +kernel
theorem d_K_crash_99 : decode c_K_crash 99 = .ok (.getfield 13, 3) := by decide +kernel
theorem d_K_crash_102 : decode c_K_crash 102 = .ok (.iload_n 1, 1) := by decide +kernel
theorem d_K_crash_103 : decode c_K_crash 103 = .ok (.bipush 32, 2) := by decide +kernel
theorem d_K_crash_105 : decode c_K_crash 105 = .ok (.imul, 1) := by decide +kernel
theorem d_K_crash_106 : decode c_K_crash 106 = .ok (.iload_n 3, 1) := by decide +kernel
theorem d_K_crash_107 : decode c_K_crash 107 = .ok (.iadd, 1) := by decide +kernel
theorem d_K_crash_108 : decode c_K_crash 108 = .ok (.iaload, 1) := by decide +kernel
theorem d_K_crash_109 : decode c_K_crash 109 = .ok (.iastore, 1) := by decide +kernel
theorem d_K_crash_110 : decode c_K_crash 110 = .ok (.aload_n 0, 1) := by decide +kernel
theorem d_K_crash_111 : decode c_K_crash 111 = .ok (.getfield 16, 3) := by decide +kernel
theorem d_K_crash_114 : decode c_K_crash 114 = .ok (.iload_n 1, 1) := by decide +kernel
theorem d_K_crash_115 : decode c_K_crash 115 = .ok (.bipush 32, 2) := by decide +kernel
theorem d_K_crash_117 : decode c_K_crash 117 = .ok (.imul, 1) := by decide +kernel
theorem d_K_crash_118 : decode c_K_crash 118 = .ok (.iload_n 3, 1) := by decide +kernel
theorem d_K_crash_119 : decode c_K_crash 119 = .ok (.iadd, 1) := by decide +kernel
theorem d_K_crash_120 : decode c_K_crash 120 = .ok (.iconst 0, 1) := by decide +kernel
theorem d_K_crash_121 : decode c_K_crash 121 = .ok (.bastore, 1) := by decide +kernel
theorem d_K_crash_122 : decode c_K_crash 122 = .ok (.iinc 3 1, 3) := by decide +kernel
theorem d_K_crash_125 : decode c_K_crash 125 = .ok (.goto (-103), 3) := by decide +kernel
theorem d_K_crash_128 : decode c_K_crash 128 = .ok (.aload_n 0, 1) := by decide +kernel
theorem d_K_crash_129 : decode c_K_crash 129 = .ok (.getfield 20, 3) := by decide +kernel
theorem d_K_crash_132 : decode c_K_crash 132 = .ok (.iload_n 1, 1) := by decide +kernel
theorem d_K_crash_133 : decode c_K_crash 133 = .ok (.iconst 1, 1) := by decide +kernel
theorem d_K_crash_134 : decode c_K_crash 134 = .ok (.bastore, 1) := by decide +kernel
theorem d_K_crash_135 : decode c_K_crash 135 = .ok (.aload_n 0, 1) := by decide +kernel
theorem d_K_crash_136 : decode c_K_crash 136 = .ok (.getfield 38, 3) := by decide +kernel
theorem d_K_crash_139 : decode c_K_crash 139 = .ok (.iload_n 1, 1) := by decide +kernel
theorem d_K_crash_140 : decode c_K_crash 140 = .ok (.if_icmp .ne 7, 3) := by decide +kernel
theorem d_K_crash_143 : decode c_K_crash 143 = .ok (.aload_n 0, 1) := by decide +kernel
theorem d_K_crash_144 : decode c_K_crash 144 = .ok (.invokevirtual 108, 3) := by decide +kernel
theorem d_K_crash_147 : decode c_K_crash 147 = .ok (.aload_n 0, 1) := by decide +kernel
theorem d_K_crash_148 : decode c_K_crash 148 = .ok (.invokevirtual 111, 3) := by decide +kernel
theorem d_K_crash_151 : decode c_K_crash 151 = .ok (.iconst 0, 1) := by decide +kernel
theorem d_K_crash_152 : decode c_K_crash 152 = .ok (.ireturn, 1) := by decide +kernel
theorem d_K_noPrimary_0 : decode c_K_noPrimary 0 = .ok (.aload_n 0, 1) := by decide +kernel
theorem d_K_noPrimary_1 : decode c_K_noPrimary 1 = .ok (.iconst 2, 1) := by decide +kernel
theorem d_K_noPrimary_2 : decode c_K_noPrimary 2 = .ok (.putfield 38, 3) := by decide +kernel
theorem d_K_noPrimary_5 : decode c_K_noPrimary 5 = .ok (.aload_n 0, 1) := by decide +kernel
theorem d_K_noPrimary_6 : decode c_K_noPrimary 6 = .ok (.iconst 0, 1) := by decide +kernel
theorem d_K_noPrimary_7 : decode c_K_noPrimary 7 = .ok (.putfield 67, 3) := by decide +kernel
theorem d_K_noPrimary_10 : decode c_K_noPrimary 10 = .ok (.return_, 1) := by decide +kernel
theorem d_K_disconnect_0 : decode c_K_disconnect 0 = .ok (.aload_n 0, 1) := by decide +kernel
theorem d_K_disconnect_1 : decode c_K_disconnect 1 = .ok (.iconst 0, 1) := by decide +kernel
theorem d_K_disconnect_2 : decode c_K_disconnect 2 = .ok (.putfield 48, 3) := by decide +kernel
theorem d_K_disconnect_5 : decode c_K_disconnect 5 = .ok (.aload_n 0, 1) := by decide +kernel
theorem d_K_disconnect_6 : decode c_K_disconnect 6 = .ok (.iconst 2, 1) := by decide +kernel
theorem d_K_disconnect_7 : decode c_K_disconnect 7 = .ok (.putfield 42, 3) := by decide +kernel
theorem d_K_disconnect_10 : decode c_K_disconnect 10 = .ok (.return_, 1) := by decide +kernel
theorem d_K_cell_0 : decode c_K_cell 0 = .ok (.aload_n 0, 1) := by decide +kernel
theorem d_K_cell_1 : decode c_K_cell 1 = .ok (.iload_n 1, 1) := by decide +kernel
theorem d_K_cell_2 : decode c_K_cell 2 = .ok (.bipush 24, 2) := by decide +kernel
theorem d_K_cell_4 : decode c_K_cell 4 = .ok (.invokevirtual 93, 3) := by decide +kernel
theorem d_K_cell_7 : decode c_K_cell 7 = .ok (.ifCond .ne 11, 3) := by decide +kernel
theorem d_K_cell_10 : decode c_K_cell 10 = .ok (.aload_n 0, 1) := by decide +kernel
theorem d_K_cell_11 : decode c_K_cell 11 = .ok (.getfield 38, 3) := by decide +kernel
theorem d_K_cell_14 : decode c_K_cell 14 = .ok (.iconst 2, 1) := by decide +kernel
theorem d_K_cell_15 : decode c_K_cell 15 = .ok (.if_icmp .ne 9, 3) := by decide +kernel
theorem d_K_cell_18 : decode c_K_cell 18 = .ok (.ldc2_w 106, 3) := by decide +kernel
theorem d_K_cell_21 : decode c_K_cell 21 = .ok (.goto 13, 3) := by decide +kernel
theorem d_K_cell_24 : decode c_K_cell 24 = .ok (.aload_n 0, 1) := by decide +kernel
theorem d_K_cell_25 : decode c_K_cell 25 = .ok (.aload_n 0, 1) := by decide +kernel
theorem d_K_cell_26 : decode c_K_cell 26 = .ok (.getfield 38, 3) := by decide +kernel
theorem d_K_cell_29 : decode c_K_cell 29 = .ok (.iload_n 1, 1) := by decide +kernel
theorem d_K_cell_30 : decode c_K_cell 30 = .ok (.invokevirtual 78, 3) := by decide +kernel
theorem d_K_cell_33 : decode c_K_cell 33 = .ok (.i2l, 1) := by decide +kernel
theorem d_K_cell_34 : decode c_K_cell 34 = .ok (.lreturn, 1) := by decide +kernel
theorem d_K_restart_0 : decode c_K_restart 0 = .ok (.aload_n 0, 1) := by decide +kernel
theorem d_K_restart_1 : decode c_K_restart 1 = .ok (.iload_n 1, 1) := by decide +kernel
theorem d_K_restart_2 : decode c_K_restart 2 = .ok (.iconst 2, 1) := by decide +kernel
theorem d_K_restart_3 : decode c_K_restart 3 = .ok (.invokevirtual 93, 3) := by decide +kernel
theorem d_K_restart_6 : decode c_K_restart 6 = .ok (.ifCond .ne 12, 3) := by decide +kernel
theorem d_K_restart_9 : decode c_K_restart 9 = .ok (.aload_n 0, 1) := by decide +kernel
theorem d_K_restart_10 : decode c_K_restart 10 = .ok (.getfield 20, 3) := by decide +kernel
theorem d_K_restart_13 : decode c_K_restart 13 = .ok (.iload_n 1, 1) := by decide +kernel
theorem d_K_restart_14 : decode c_K_restart 14 = .ok (.baload, 1) := by decide +kernel
theorem d_K_restart_15 : decode c_K_restart 15 = .ok (.ifCond .ne 5, 3) := by decide +kernel
theorem d_K_restart_18 : decode c_K_restart 18 = .ok (.iconst (-1), 1) := by decide +kernel
theorem d_K_restart_19 : decode c_K_restart 19 = .ok (.ireturn, 1) := by decide +kernel
theorem d_K_restart_20 : decode c_K_restart 20 = .ok (.aload_n 0, 1) := by decide +kernel
theorem d_K_restart_21 : decode c_K_restart 21 = .ok (.getfield 20, 3) := by decide +kernel
theorem d_K_restart_24 : decode c_K_restart 24 = .ok (.iload_n 1, 1) := by decide +kernel
theorem d_K_restart_25 : decode c_K_restart 25 = .ok (.iconst 0, 1) := by decide +kernel
theorem d_K_restart_26 : decode c_K_restart 26 = .ok (.bastore, 1) := by decide +kernel
theorem d_K_restart_27 : decode c_K_restart 27 = .ok (.iconst 0, 1) := by decide +kernel
theorem d_K_restart_28 : decode c_K_restart 28 = .ok (.ireturn, 1) := by decide +kernel
theorem d_K_swap_0 : decode c_K_swap 0 = .ok (.aload_n 0, 1) := by decide +kernel
theorem d_K_swap_1 : decode c_K_swap 1 = .ok (.iload_n 1, 1) := by decide +kernel
theorem d_K_swap_2 : decode c_K_swap 2 = .ok (.iconst 2, 1) := by decide +kernel
theorem d_K_swap_3 : decode c_K_swap 3 = .ok (.invokevirtual 93, 3) := by decide +kernel
theorem d_K_swap_6 : decode c_K_swap 6 = .ok (.ifCond .ne 12, 3) := by decide +kernel
theorem d_K_swap_9 : decode c_K_swap 9 = .ok (.aload_n 0, 1) := by decide +kernel
theorem d_K_swap_10 : decode c_K_swap 10 = .ok (.getfield 20, 3) := by decide +kernel
theorem d_K_swap_13 : decode c_K_swap 13 = .ok (.iload_n 1, 1) := by decide +kernel
theorem d_K_swap_14 : decode c_K_swap 14 = .ok (.baload, 1) := by decide +kernel
theorem d_K_swap_15 : decode c_K_swap 15 = .ok (.ifCond .ne 5, 3) := by decide +kernel
theorem d_K_swap_18 : decode c_K_swap 18 = .ok (.iconst (-1), 1) := by decide +kernel
theorem d_K_swap_19 : decode c_K_swap 19 = .ok (.ireturn, 1) := by decide +kernel
theorem d_K_swap_20 : decode c_K_swap 20 = .ok (.iconst 0, 1) := by decide +kernel
theorem d_K_swap_21 : decode c_K_swap 21 = .ok (.istore_n 2, 1) := by decide +kernel
theorem d_K_swap_22 : decode c_K_swap 22 = .ok (.iload_n 2, 1) := by decide +kernel
theorem d_K_swap_23 : decode c_K_swap 23 = .ok (.bipush 32, 2) := by decide +kernel
theorem d_K_swap_25 : decode c_K_swap 25 = .ok (.if_icmp .ge 33, 3) := by decide +kernel
theorem d_K_swap_28 : decode c_K_swap 28 = .ok (.aload_n 0, 1) := by decide +kernel
theorem d_K_swap_29 : decode c_K_swap 29 = .ok (.getfield 7, 3) := by decide +kernel
theorem d_K_swap_32 : decode c_K_swap 32 = .ok (.iload_n 1, 1) := by decide +kernel
theorem d_K_swap_33 : decode c_K_swap 33 = .ok (.bipush 32, 2) := by decide +kernel
theorem d_K_swap_35 : decode c_K_swap 35 = .ok (.imul, 1) := by decide +kernel
theorem d_K_swap_36 : decode c_K_swap 36 = .ok (.iload_n 2, 1) := by decide +kernel
theorem d_K_swap_37 : decode c_K_swap 37 = .ok (.iadd, 1) := by decide +kernel
theorem d_K_swap_38 : decode c_K_swap 38 = .ok (.iconst 0, 1) := by decide +kernel
theorem d_K_swap_39 : decode c_K_swap 39 = .ok (.iastore, 1) := by decide +kernel
theorem d_K_swap_40 : decode c_K_swap 40 = .ok (.aload_n 0, 1) := by decide +kernel
theorem d_K_swap_41 : decode c_K_swap 41 = .ok (.getfield 16, 3) := by decide +kernel
theorem d_K_swap_44 : decode c_K_swap 44 = .ok (.iload_n 1, 1) := by decide +kernel
theorem d_K_swap_45 : decode c_K_swap 45 = .ok (.bipush 32, 2) := by decide +kernel
theorem d_K_swap_47 : decode c_K_swap 47 = .ok (.imul, 1) := by decide +kernel
theorem d_K_swap_48 : decode c_K_swap 48 = .ok (.iload_n 2, 1) := by decide +kernel
theorem d_K_swap_49 : decode c_K_swap 49 = .ok (.iadd, 1) := by decide +kernel
theorem d_K_swap_50 : decode c_K_swap 50 = .ok (.iconst 0, 1) := by decide +kernel
theorem d_K_swap_51 : decode c_K_swap 51 = .ok (.bastore, 1) := by decide +kernel
theorem d_K_swap_52 : decode c_K_swap 52 = .ok (.iinc 2 1, 3) := by decide +kernel
theorem d_K_swap_55 : decode c_K_swap 55 = .ok (.goto (-33), 3) := by decide +kernel
theorem d_K_swap_58 : decode c_K_swap 58 = .ok (.aload_n 0, 1) := by decide +kernel
theorem d_K_swap_59 : decode c_K_swap 59 = .ok (.getfield 29, 3) := by decide +kernel
theorem d_K_swap_62 : decode c_K_swap 62 = .ok (.iload_n 1, 1) := by decide +kernel
theorem d_K_swap_63 : decode c_K_swap 63 = .ok (.iconst 0, 1) := by decide +kernel
theorem d_K_swap_64 : decode c_K_swap 64 = .ok (.iastore, 1) := by decide +kernel
theorem d_K_swap_65 : decode c_K_swap 65 = .ok (.aload_n 0, 1) := by decide +kernel
theorem d_K_swap_66 : decode c_K_swap 66 = .ok (.getfield 32, 3) := by decide +kernel
theorem d_K_swap_69 : decode c_K_swap 69 = .ok (.iload_n 1, 1) := by decide +kernel
theorem d_K_swap_70 : decode c_K_swap 70 = .ok (.iconst 0, 1) := by decide +kernel
theorem d_K_swap_71 : decode c_K_swap 71 = .ok (.iastore, 1) := by decide +kernel
theorem d_K_swap_72 : decode c_K_swap 72 = .ok (.aload_n 0, 1) := by decide +kernel
theorem d_K_swap_73 : decode c_K_swap 73 = .ok (.getfield 23, 3) := by decide +kernel
theorem d_K_swap_76 : decode c_K_swap 76 = .ok (.iload_n 1, 1) := by decide +kernel
theorem d_K_swap_77 : decode c_K_swap 77 = .ok (.iconst 0, 1) := by decide +kernel
theorem d_K_swap_78 : decode c_K_swap 78 = .ok (.bastore, 1) := by decide +kernel
theorem d_K_swap_79 : decode c_K_swap 79 = .ok (.aload_n 0, 1) := by decide +kernel
theorem d_K_swap_80 : decode c_K_swap 80 = .ok (.getfield 35, 3) := by decide +kernel
theorem d_K_swap_83 : decode c_K_swap 83 = .ok (.iload_n 1, 1) := by decide +kernel
theorem d_K_swap_84 : decode c_K_swap 84 = .ok (.iconst 0, 1) := by decide +kernel
theorem d_K_swap_85 : decode c_K_swap 85 = .ok (.iastore, 1) := by decide +kernel
theorem d_K_swap_86 : decode c_K_swap 86 = .ok (.iconst 0, 1) := by decide +kernel
theorem d_K_swap_87 : decode c_K_swap 87 = .ok (.ireturn, 1) := by decide +kernel
theorem d_K_line_0 : decode c_K_line 0 = .ok (.aload_n 0, 1) := by decide +kernel
theorem d_K_line_1 : decode c_K_line 1 = .ok (.iload_n 1, 1) := by decide +kernel
theorem d_K_line_2 : decode c_K_line 2 = .ok (.putfield 52, 3) := by decide +kernel
theorem d_K_line_5 : decode c_K_line 5 = .ok (.iload_n 1, 1) := by decide +kernel
theorem d_K_line_6 : decode c_K_line 6 = .ok (.ifCond .ne 7, 3) := by decide +kernel
theorem d_K_line_9 : decode c_K_line 9 = .ok (.aload_n 0, 1) := by decide +kernel
theorem d_K_line_10 : decode c_K_line 10 = .ok (.invokevirtual 111, 3) := by decide +kernel
theorem d_K_line_13 : decode c_K_line 13 = .ok (.iconst 0, 1) := by decide +kernel
theorem d_K_line_14 : decode c_K_line 14 = .ok (.ireturn, 1) := by decide +kernel
theorem d_K_witnessLine_0 : decode c_K_witnessLine 0 = .ok (.aload_n 0, 1) := by decide +kernel
theorem d_K_witnessLine_1 : decode c_K_witnessLine 1 = .ok (.iload_n 1, 1) := by decide +kernel
theorem d_K_witnessLine_2 : decode c_K_witnessLine 2 = .ok (.iconst 2, 1) := by decide +kernel
theorem d_K_witnessLine_3 : decode c_K_witnessLine 3 = .ok (.invokevirtual 93, 3) := by decide +kernel
theorem d_K_witnessLine_6 : decode c_K_witnessLine 6 = .ok (.ifCond .eq 5, 3) := by decide +kernel
theorem d_K_witnessLine_9 : decode c_K_witnessLine 9 = .ok (.iconst (-1), 1) := by decide +kernel
theorem d_K_witnessLine_10 : decode c_K_witnessLine 10 = .ok (.ireturn, 1) := by decide +kernel
theorem d_K_witnessLine_11 : decode c_K_witnessLine 11 = .ok (.aload_n 0, 1) := by decide +kernel
theorem d_K_witnessLine_12 : decode c_K_witnessLine 12 = .ok (.getfield 26, 3) := by decide +kernel
theorem d_K_witnessLine_15 : decode c_K_witnessLine 15 = .ok (.iload_n 1, 1) := by decide +kernel
theorem d_K_witnessLine_16 : decode c_K_witnessLine 16 = .ok (.iload_n 2, 1) := by decide +kernel
theorem d_K_witnessLine_17 : decode c_K_witnessLine 17 = .ok (.ifCond .ne 7, 3) := by decide +kernel
theorem d_K_witnessLine_20 : decode c_K_witnessLine 20 = .ok (.iconst 1, 1) := by decide +kernel
theorem d_K_witnessLine_21 : decode c_K_witnessLine 21 = .ok (.goto 4, 3) := by decide +kernel
theorem d_K_witnessLine_24 : decode c_K_witnessLine 24 = .ok (.iconst 0, 1) := by decide +kernel
theorem d_K_witnessLine_25 : decode c_K_witnessLine 25 = .ok (.bastore, 1) := by decide +kernel
theorem d_K_witnessLine_26 : decode c_K_witnessLine 26 = .ok (.iconst 0, 1) := by decide +kernel
theorem d_K_witnessLine_27 : decode c_K_witnessLine 27 = .ok (.ireturn, 1) := by decide +kernel
theorem d_K_connect_0 : decode c_K_connect 0 = .ok (.aload_n 0, 1) := by decide +kernel
theorem d_K_connect_1 : decode c_K_connect 1 = .ok (.getfield 48, 3) := by decide +kernel
theorem d_K_connect_4 : decode c_K_connect 4 = .ok (.ifCond .ne 28, 3) := by decide +kernel
theorem d_K_connect_7 : decode c_K_connect 7 = .ok (.aload_n 0, 1) := by decide +kernel
theorem d_K_connect_8 : decode c_K_connect 8 = .ok (.getfield 52, 3) := by decide +kernel
theorem d_K_connect_11 : decode c_K_connect 11 = .ok (.ifCond .eq 21, 3) := by decide +kernel
theorem d_K_connect_14 : decode c_K_connect 14 = .ok (.aload_n 0, 1) := by decide +kernel
theorem d_K_connect_15 : decode c_K_connect 15 = .ok (.getfield 20, 3) := by decide +kernel
theorem d_K_connect_18 : decode c_K_connect 18 = .ok (.iconst 0, 1) := by decide +kernel
theorem d_K_connect_19 : decode c_K_connect 19 = .ok (.baload, 1) := by decide +kernel
theorem d_K_connect_20 : decode c_K_connect 20 = .ok (.ifCond .ne 12, 3) := by decide +kernel
theorem d_K_connect_23 : decode c_K_connect 23 = .ok (.aload_n 0, 1) := by decide +kernel
theorem d_K_connect_24 : decode c_K_connect 24 = .ok (.getfield 20, 3) := by decide +kernel
theorem d_K_connect_27 : decode c_K_connect 27 = .ok (.iconst 1, 1) := by decide +kernel
theorem d_K_connect_28 : decode c_K_connect 28 = .ok (.baload, 1) := by decide +kernel
theorem d_K_connect_29 : decode c_K_connect 29 = .ok (.ifCond .eq 5, 3) := by decide +kernel
theorem d_K_connect_32 : decode c_K_connect 32 = .ok (.iconst (-1), 1) := by decide +kernel
theorem d_K_connect_33 : decode c_K_connect 33 = .ok (.ireturn, 1) := by decide +kernel
theorem d_K_connect_34 : decode c_K_connect 34 = .ok (.aload_n 0, 1) := by decide +kernel
theorem d_K_connect_35 : decode c_K_connect 35 = .ok (.getfield 29, 3) := by decide +kernel
theorem d_K_connect_38 : decode c_K_connect 38 = .ok (.iconst 0, 1) := by decide +kernel
theorem d_K_connect_39 : decode c_K_connect 39 = .ok (.iaload, 1) := by decide +kernel
theorem d_K_connect_40 : decode c_K_connect 40 = .ok (.ifCond .ne 15, 3) := by decide +kernel
theorem d_K_connect_43 : decode c_K_connect 43 = .ok (.aload_n 0, 1) := by decide +kernel
theorem d_K_connect_44 : decode c_K_connect 44 = .ok (.getfield 29, 3) := by decide +kernel
theorem d_K_connect_47 : decode c_K_connect 47 = .ok (.iconst 1, 1) := by decide +kernel
theorem d_K_connect_48 : decode c_K_connect 48 = .ok (.iaload, 1) := by decide +kernel
theorem d_K_connect_49 : decode c_K_connect 49 = .ok (.ifCond .ne 6, 3) := by decide +kernel
theorem d_K_connect_52 : decode c_K_connect 52 = .ok (.bipush (-6), 2) := by decide +kernel
theorem d_K_connect_54 : decode c_K_connect 54 = .ok (.ireturn, 1) := by decide +kernel
theorem d_K_connect_55 : decode c_K_connect 55 = .ok (.aload_n 0, 1) := by decide +kernel
theorem d_K_connect_56 : decode c_K_connect 56 = .ok (.getfield 35, 3) := by decide +kernel
theorem d_K_connect_59 : decode c_K_connect 59 = .ok (.iconst 0, 1) := by decide +kernel
theorem d_K_connect_60 : decode c_K_connect 60 = .ok (.iaload, 1) := by decide +kernel
theorem d_K_connect_61 : decode c_K_connect 61 = .ok (.aload_n 0, 1) := by decide +kernel
theorem d_K_connect_62 : decode c_K_connect 62 = .ok (.getfield 35, 3) := by decide +kernel
theorem d_K_connect_65 : decode c_K_connect 65 = .ok (.iconst 1, 1) := by decide +kernel
theorem d_K_connect_66 : decode c_K_connect 66 = .ok (.iaload, 1) := by decide +kernel
theorem d_K_connect_67 : decode c_K_connect 67 = .ok (.ior, 1) := by decide +kernel
theorem d_K_connect_68 : decode c_K_connect 68 = .ok (.istore_n 1, 1) := by decide +kernel
theorem d_K_connect_69 : decode c_K_connect 69 = .ok (.aload_n 0, 1) := by decide +kernel
theorem d_K_connect_70 : decode c_K_connect 70 = .ok (.getfield 29, 3) := by decide +kernel
theorem d_K_connect_73 : decode c_K_connect 73 = .ok (.iconst 1, 1) := by decide +kernel
theorem d_K_connect_74 : decode c_K_connect 74 = .ok (.iaload, 1) := by decide +kernel
theorem d_K_connect_75 : decode c_K_connect 75 = .ok (.aload_n 0, 1) := by decide +kernel
theorem d_K_connect_76 : decode c_K_connect 76 = .ok (.getfield 29, 3) := by decide +kernel
theorem d_K_connect_79 : decode c_K_connect 79 = .ok (.iconst 0, 1) := by decide +kernel
theorem d_K_connect_80 : decode c_K_connect 80 = .ok (.iaload, 1) := by decide +kernel
theorem d_K_connect_81 : decode c_K_connect 81 = .ok (.if_icmp .le 7, 3) := by decide +kernel
theorem d_K_connect_84 : decode c_K_connect 84 = .ok (.iconst 1, 1) := by decide +kernel
theorem d_K_connect_85 : decode c_K_connect 85 = .ok (.goto 4, 3) := by decide +kernel
theorem d_K_connect_88 : decode c_K_connect 88 = .ok (.iconst 0, 1) := by decide +kernel
theorem d_K_connect_89 : decode c_K_connect 89 = .ok (.istore_n 2, 1) := by decide +kernel
theorem d_K_connect_90 : decode c_K_connect 90 = .ok (.aload_n 0, 1) := by decide +kernel
theorem d_K_connect_91 : decode c_K_connect 91 = .ok (.getfield 29, 3) := by decide +kernel
theorem d_K_connect_94 : decode c_K_connect 94 = .ok (.iconst 0, 1) := by decide +kernel
theorem d_K_connect_95 : decode c_K_connect 95 = .ok (.iaload, 1) := by decide +kernel
theorem d_K_connect_96 : decode c_K_connect 96 = .ok (.aload_n 0, 1) := by decide +kernel
theorem d_K_connect_97 : decode c_K_connect 97 = .ok (.getfield 29, 3) := by decide +kernel
theorem d_K_connect_100 : decode c_K_connect 100 = .ok (.iconst 1, 1) := by decide +kernel
theorem d_K_connect_101 : decode c_K_connect 101 = .ok (.iaload, 1) := by decide +kernel
theorem d_K_connect_102 : decode c_K_connect 102 = .ok (.if_icmp .ne 20, 3) := by decide +kernel
theorem d_K_connect_105 : decode c_K_connect 105 = .ok (.aload_n 0, 1) := by decide +kernel
theorem d_K_connect_106 : decode c_K_connect 106 = .ok (.getfield 38, 3) := by decide +kernel
theorem d_K_connect_109 : decode c_K_connect 109 = .ok (.iconst 1, 1) := by decide +kernel
theorem d_K_connect_110 : decode c_K_connect 110 = .ok (.if_icmp .ne 7, 3) := by decide +kernel
theorem d_K_connect_113 : decode c_K_connect 113 = .ok (.iconst 1, 1) := by decide +kernel
theorem d_K_connect_114 : decode c_K_connect 114 = .ok (.goto 4, 3) := by decide +kernel
theorem d_K_connect_117 : decode c_K_connect 117 = .ok (.iconst 0, 1) := by decide +kernel
theorem d_K_connect_118 : decode c_K_connect 118 = .ok (.istore_n 2, 1) := by decide +kernel
theorem d_K_connect_119 : decode c_K_connect 119 = .ok (.goto 33, 3) := by decide +kernel
theorem d_K_connect_122 : decode c_K_connect 122 = .ok (.aload_n 0, 1) := by decide +kernel
theorem d_K_connect_123 : decode c_K_connect 123 = .ok (.getfield 23, 3) := by decide +kernel
theorem d_K_connect_126 : decode c_K_connect 126 = .ok (.iload_n 2, 1) := by decide +kernel
theorem d_K_connect_127 : decode c_K_connect 127 = .ok (.baload, 1) := by decide +kernel
theorem d_K_connect_128 : decode c_K_connect 128 = .ok (.ifCond .eq 20, 3) := by decide +kernel
theorem d_K_connect_131 : decode c_K_connect 131 = .ok (.aload_n 0, 1) := by decide +kernel
theorem d_K_connect_132 : decode c_K_connect 132 = .ok (.getfield 32, 3) := by decide +kernel
theorem d_K_connect_135 : decode c_K_connect 135 = .ok (.iload_n 2, 1) := by decide +kernel
theorem d_K_connect_136 : decode c_K_connect 136 = .ok (.iaload, 1) := by decide +kernel
theorem d_K_connect_137 : decode c_K_connect 137 = .ok (.aload_n 0, 1) := by decide +kernel
theorem d_K_connect_138 : decode c_K_connect 138 = .ok (.getfield 29, 3) := by decide +kernel
theorem d_K_connect_141 : decode c_K_connect 141 = .ok (.iconst 1, 1) := by decide +kernel
theorem d_K_connect_142 : decode c_K_connect 142 = .ok (.iload_n 2, 1) := by decide +kernel
theorem d_K_connect_143 : decode c_K_connect 143 = .ok (.isub, 1) := by decide +kernel
theorem d_K_connect_144 : decode c_K_connect 144 = .ok (.iaload, 1) := by decide +kernel
theorem d_K_connect_145 : decode c_K_connect 145 = .ok (.if_icmp .eq 7, 3) := by decide +kernel
theorem d_K_connect_148 : decode c_K_connect 148 = .ok (.sipush 255, 3) := by decide +kernel
theorem d_K_connect_151 : decode c_K_connect 151 = .ok (.istore_n 1, 1) := by decide +kernel
theorem d_K_connect_152 : decode c_K_connect 152 = .ok (.aload_n 0, 1) := by decide +kernel
theorem d_K_connect_153 : decode c_K_connect 153 = .ok (.iconst 1, 1) := by decide +kernel
theorem d_K_connect_154 : decode c_K_connect 154 = .ok (.putfield 48, 3) := by decide +kernel
theorem d_K_connect_157 : decode c_K_connect 157 = .ok (.iconst 0, 1) := by decide +kernel
theorem d_K_connect_158 : decode c_K_connect 158 = .ok (.istore_n 3, 1) := by decide +kernel
theorem d_K_connect_159 : decode c_K_connect 159 = .ok (.iconst 0, 1) := by decide +kernel
theorem d_K_connect_160 : decode c_K_connect 160 = .ok (.istore 4, 2) := by decide +kernel
theorem d_K_connect_162 : decode c_K_connect 162 = .ok (.iload 4, 2) := by decide +kernel
theorem d_K_connect_164 : decode c_K_connect 164 = .ok (.bipush 8, 2) := by decide +kernel
theorem d_K_connect_166 : decode c_K_connect 166 = .ok (.if_icmp .ge 18, 3) := by decide +kernel
theorem d_K_connect_169 : decode c_K_connect 169 = .ok (.iload_n 3, 1) := by decide +kernel
theorem d_K_connect_170 : decode c_K_connect 170 = .ok (.iload_n 1, 1) := by decide +kernel
theorem d_K_connect_171 : decode c_K_connect 171 = .ok (.iload 4, 2) := by decide +kernel
theorem d_K_connect_173 : decode c_K_connect 173 = .ok (.ishr, 1) := by decide +kernel
theorem d_K_connect_174 : decode c_K_connect 174 = .ok (.iconst 1, 1) := by decide +kernel
theorem d_K_connect_175 : decode c_K_connect 175 = .ok (.iand, 1) := by decide +kernel
theorem d_K_connect_176 : decode c_K_connect 176 = .ok (.iadd, 1) := by decide +kernel
theorem d_K_connect_177 : decode c_K_connect 177 = .ok (.istore_n 3, 1) := by decide +kernel
theorem d_K_connect_178 : decode c_K_connect 178 = .ok (.iinc 4 1, 3) := by decide +kernel
theorem d_K_connect_181 : decode c_K_connect 181 = .ok (.goto (-19), 3) := by decide +kernel
theorem d_K_connect_184 : decode c_K_connect 184 = .ok (.iload_n 1, 1) := by decide +kernel
theorem d_K_connect_185 : decode c_K_connect 185 = .ok (.ifCond .ne 10, 3) := by decide +kernel
theorem d_K_connect_188 : decode c_K_connect 188 = .ok (.aload_n 0, 1) := by decide +kernel
theorem d_K_connect_189 : decode c_K_connect 189 = .ok (.iload_n 2, 1) := by decide +kernel
theorem d_K_connect_190 : decode c_K_connect 190 = .ok (.invokevirtual 114, 3) := by decide +kernel
theorem d_K_connect_193 : decode c_K_connect 193 = .ok (.iconst 0, 1) := by decide +kernel
theorem d_K_connect_194 : decode c_K_connect 194 = .ok (.ireturn, 1) := by decide +kernel
theorem d_K_connect_195 : decode c_K_connect 195 = .ok (.aload_n 0, 1) := by decide +kernel
theorem d_K_connect_196 : decode c_K_connect 196 = .ok (.getfield 35, 3) := by decide +kernel
theorem d_K_connect_199 : decode c_K_connect 199 = .ok (.iload_n 2, 1) := by decide +kernel
theorem d_K_connect_200 : decode c_K_connect 200 = .ok (.iload_n 1, 1) := by decide +kernel
theorem d_K_connect_201 : decode c_K_connect 201 = .ok (.iastore, 1) := by decide +kernel
theorem d_K_connect_202 : decode c_K_connect 202 = .ok (.aload_n 0, 1) := by decide +kernel
theorem d_K_connect_203 : decode c_K_connect 203 = .ok (.getfield 35, 3) := by decide +kernel
theorem d_K_connect_206 : decode c_K_connect 206 = .ok (.iconst 1, 1) := by decide +kernel
theorem d_K_connect_207 : decode c_K_connect 207 = .ok (.iload_n 2, 1) := by decide +kernel
theorem d_K_connect_208 : decode c_K_connect 208 = .ok (.isub, 1) := by decide +kernel
theorem d_K_connect_209 : decode c_K_connect 209 = .ok (.iconst 0, 1) := by decide +kernel
theorem d_K_connect_210 : decode c_K_connect 210 = .ok (.iastore, 1) := by decide +kernel
theorem d_K_connect_211 : decode c_K_connect 211 = .ok (.aload_n 0, 1) := by decide +kernel
theorem d_K_connect_212 : decode c_K_connect 212 = .ok (.getfield 29, 3) := by decide +kernel
theorem d_K_connect_215 : decode c_K_connect 215 = .ok (.iconst 1, 1) := by decide +kernel
theorem d_K_connect_216 : decode c_K_connect 216 = .ok (.iload_n 2, 1) := by decide +kernel
theorem d_K_connect_217 : decode c_K_connect 217 = .ok (.isub, 1) := by decide +kernel
theorem d_K_connect_218 : decode c_K_connect 218 = .ok (.iconst 0, 1) := by decide +kernel
theorem d_K_connect_219 : decode c_K_connect 219 = .ok (.iastore, 1) := by decide +kernel
theorem d_K_connect_220 : decode c_K_connect 220 = .ok (.aload_n 0, 1) := by decide +kernel
theorem d_K_connect_221 : decode c_K_connect 221 = .ok (.getfield 23, 3) := by decide +kernel
theorem d_K_connect_224 : decode c_K_connect 224 = .ok (.iconst 1, 1) := by decide +kernel
theorem d_K_connect_225 : decode c_K_connect 225 = .ok (.iload_n 2, 1) := by decide +kernel
theorem d_K_connect_226 : decode c_K_connect 226 = .ok (.isub, 1) := by decide +kernel
theorem d_K_connect_227 : decode c_K_connect 227 = .ok (.iconst 0, 1) := by decide +kernel
theorem d_K_connect_228 : decode c_K_connect 228 = .ok (.bastore, 1) := by decide +kernel
theorem d_K_connect_229 : decode c_K_connect 229 = .ok (.aload_n 0, 1) := by decide +kernel
theorem d_K_connect_230 : decode c_K_connect 230 = .ok (.iload_n 2, 1) := by decide +kernel
theorem d_K_connect_231 : decode c_K_connect 231 = .ok (.putfield 42, 3) := by decide +kernel
theorem d_K_connect_234 : decode c_K_connect 234 = .ok (.iload_n 3, 1) := by decide +kernel
theorem d_K_connect_235 : decode c_K_connect 235 = .ok (.ireturn, 1) := by decide +kernel
theorem d_K_finished_0 : decode c_K_finished 0 = .ok (.aload_n 0, 1) := by decide +kernel
theorem d_K_finished_1 : decode c_K_finished 1 = .ok (.iconst 0, 1) := by decide +kernel
theorem d_K_finished_2 : decode c_K_finished 2 = .ok (.invokevirtual 82, 3) := by decide +kernel
theorem d_K_finished_5 : decode c_K_finished 5 = .ok (.aload_n 0, 1) := by decide +kernel
theorem d_K_finished_6 : decode c_K_finished 6 = .ok (.iconst 1, 1) := by decide +kernel
theorem d_K_finished_7 : decode c_K_finished 7 = .ok (.invokevirtual 82, 3) := by decide +kernel
theorem d_K_finished_10 : decode c_K_finished 10 = .ok (.aload_n 0, 1) := by decide +kernel
theorem d_K_finished_11 : decode c_K_finished 11 = .ok (.getfield 29, 3) := by decide +kernel
theorem d_K_finished_14 : decode c_K_finished 14 = .ok (.iconst 1, 1) := by decide +kernel
theorem d_K_finished_15 : decode c_K_finished 15 = .ok (.iload_n 1, 1) := by decide +kernel
theorem d_K_finished_16 : decode c_K_finished 16 = .ok (.isub, 1) := by decide +kernel
theorem d_K_finished_17 : decode c_K_finished 17 = .ok (.aload_n 0, 1) := by decide +kernel
theorem d_K_finished_18 : decode c_K_finished 18 = .ok (.getfield 29, 3) := by decide +kernel
theorem d_K_finished_21 : decode c_K_finished 21 = .ok (.iload_n 1, 1) := by decide +kernel
theorem d_K_finished_22 : decode c_K_finished 22 = .ok (.iaload, 1) := by decide +kernel
theorem d_K_finished_23 : decode c_K_finished 23 = .ok (.iastore, 1) := by decide +kernel
theorem d_K_finished_24 : decode c_K_finished 24 = .ok (.iconst 0, 1) := by decide +kernel
theorem d_K_finished_25 : decode c_K_finished 25 = .ok (.istore_n 2, 1) := by decide +kernel
theorem d_K_finished_26 : decode c_K_finished 26 = .ok (.iload_n 2, 1) := by decide +kernel
theorem d_K_finished_27 : decode c_K_finished 27 = .ok (.iconst 2, 1) := by decide +kernel
theorem d_K_finished_28 : decode c_K_finished 28 = .ok (.if_icmp .ge 23, 3) := by decide +kernel
theorem d_K_finished_31 : decode c_K_finished 31 = .ok (.aload_n 0, 1) := by decide +kernel
theorem d_K_finished_32 : decode c_K_finished 32 = .ok (.getfield 23, 3) := by decide +kernel
theorem d_K_finished_35 : decode c_K_finished 35 = .ok (.iload_n 2, 1) := by decide +kernel
theorem d_K_finished_36 : decode c_K_finished 36 = .ok (.iconst 0, 1) := by decide +kernel
theorem d_K_finished_37 : decode c_K_finished 37 = .ok (.bastore, 1) := by decide +kernel
theorem d_K_finished_38 : decode c_K_finished 38 = .ok (.aload_n 0, 1) := by decide +kernel
theorem d_K_finished_39 : decode c_K_finished 39 = .ok (.getfield 35, 3) := by decide +kernel
theorem d_K_finished_42 : decode c_K_finished 42 = .ok (.iload_n 2, 1) := by decide +kernel
theorem d_K_finished_43 : decode c_K_finished 43 = .ok (.iconst 0, 1) := by decide +kernel
theorem d_K_finished_44 : decode c_K_finished 44 = .ok (.iastore, 1) := by decide +kernel
theorem d_K_finished_45 : decode c_K_finished 45 = .ok (.iinc 2 1, 3) := by decide +kernel
theorem d_K_finished_48 : decode c_K_finished 48 = .ok (.goto (-22), 3) := by decide +kernel
theorem d_K_finished_51 : decode c_K_finished 51 = .ok (.aload_n 0, 1) := by decide +kernel
theorem d_K_finished_52 : decode c_K_finished 52 = .ok (.iconst 2, 1) := by decide +kernel
theorem d_K_finished_53 : decode c_K_finished 53 = .ok (.putfield 42, 3) := by decide +kernel
theorem d_K_finished_56 : decode c_K_finished 56 = .ok (.return_, 1) := by decide +kernel
theorem d_K_resync_0 : decode c_K_resync 0 = .ok (.iload_n 1, 1) := by decide +kernel
theorem d_K_resync_1 : decode c_K_resync 1 = .ok (.iconst 1, 1) := by decide +kernel
theorem d_K_resync_2 : decode c_K_resync 2 = .ok (.if_icmp .lt 16, 3) := by decide +kernel
theorem d_K_resync_5 : decode c_K_resync 5 = .ok (.iload_n 1, 1) := by decide +kernel
theorem d_K_resync_6 : decode c_K_resync 6 = .ok (.iconst 4, 1) := by decide +kernel
theorem d_K_resync_7 : decode c_K_resync 7 = .ok (.if_icmp .gt 11, 3) := by decide +kernel
theorem d_K_resync_10 : decode c_K_resync 10 = .ok (.aload_n 0, 1) := by decide +kernel
theorem d_K_resync_11 : decode c_K_resync 11 = .ok (.getfield 42, 3) := by decide +kernel
theorem d_K_resync_14 : decode c_K_resync 14 = .ok (.iconst 2, 1) := by decide +kernel
theorem d_K_resync_15 : decode c_K_resync 15 = .ok (.if_icmp .ne 5, 3) := by decide +kernel
theorem d_K_resync_18 : decode c_K_resync 18 = .ok (.iconst (-1), 1) := by decide +kernel
theorem d_K_resync_19 : decode c_K_resync 19 = .ok (.ireturn, 1) := by decide +kernel
theorem d_K_resync_20 : decode c_K_resync 20 = .ok (.aload_n 0, 1) := by decide +kernel
theorem d_K_resync_21 : decode c_K_resync 21 = .ok (.getfield 42, 3) := by decide +kernel
theorem d_K_resync_24 : decode c_K_resync 24 = .ok (.istore_n 2, 1) := by decide +kernel
theorem d_K_resync_25 : decode c_K_resync 25 = .ok (.iconst 0, 1) := by decide +kernel
theorem d_K_resync_26 : decode c_K_resync 26 = .ok (.istore_n 3, 1) := by decide +kernel
theorem d_K_resync_27 : decode c_K_resync 27 = .ok (.iconst 0, 1) := by decide +kernel
theorem d_K_resync_28 : decode c_K_resync 28 = .ok (.istore 4, 2) := by decide +kernel
theorem d_K_resync_30 : decode c_K_resync 30 = .ok (.iload 4, 2) := by decide +kernel
theorem d_K_resync_32 : decode c_K_resync 32 = .ok (.bipush 8, 2) := by decide +kernel
theorem d_K_resync_34 : decode c_K_resync 34 = .ok (.if_icmp .ge 96, 3) := by decide +kernel
theorem d_K_resync_37 : decode c_K_resync 37 = .ok (.aload_n 0, 1) := by decide +kernel
theorem d_K_resync_38 : decode c_K_resync 38 = .ok (.getfield 35, 3) := by decide +kernel
theorem d_K_resync_41 : decode c_K_resync 41 = .ok (.iload_n 2, 1) := by decide +kernel
theorem d_K_resync_42 : decode c_K_resync 42 = .ok (.iaload, 1) := by decide +kernel
theorem d_K_resync_43 : decode c_K_resync 43 = .ok (.iload 4, 2) := by decide +kernel
theorem d_K_resync_45 : decode c_K_resync 45 = .ok (.ishr, 1) := by decide +kernel
theorem d_K_resync_46 : decode c_K_resync 46 = .ok (.iconst 1, 1) := by decide +kernel
theorem d_K_resync_47 : decode c_K_resync 47 = .ok (.iand, 1) := by decide +kernel
theorem d_K_resync_48 : decode c_K_resync 48 = .ok (.iconst 1, 1) := by decide +kernel
theorem d_K_resync_49 : decode c_K_resync 49 = .ok (.if_icmp .ne 7, 3) := by decide +kernel
theorem d_K_resync_52 : decode c_K_resync 52 = .ok (.iconst 1, 1) := by decide +kernel
theorem d_K_resync_53 : decode c_K_resync 53 = .ok (.goto 4, 3) := by decide +kernel
theorem d_K_resync_56 : decode c_K_resync 56 = .ok (.iconst 0, 1) := by decide +kernel
theorem d_K_resync_57 : decode c_K_resync 57 = .ok (.istore 5, 2) := by decide +kernel
theorem d_K_resync_59 : decode c_K_resync 59 = .ok (.iload 5, 2) := by decide +kernel
theorem d_K_resync_61 : decode c_K_resync 61 = .ok (.ifCond .eq 63, 3) := by decide +kernel
theorem d_K_resync_64 : decode c_K_resync 64 = .ok (.iload_n 3, 1) := by decide +kernel
theorem d_K_resync_65 : decode c_K_resync 65 = .ok (.iload_n 1, 1) := by decide +kernel
theorem d_K_resync_66 : decode c_K_resync 66 = .ok (.if_icmp .ge 58, 3) := by decide +kernel
theorem d_K_resync_69 : decode c_K_resync 69 = .ok (.iinc 3 1, 3) := by decide +kernel
theorem d_K_resync_72 : decode c_K_resync 72 = .ok (.aload_n 0, 1) := by decide +kernel
theorem d_K_resync_73 : decode c_K_resync 73 = .ok (.getfield 35, 3) := by decide +kernel
theorem d_K_resync_76 : decode c_K_resync 76 = .ok (.iload_n 2, 1) := by decide +kernel
theorem d_K_resync_77 : decode c_K_resync 77 = .ok (.dup2, 1) := by decide +kernel
theorem d_K_resync_78 : decode c_K_resync 78 = .ok (.iaload, 1) := by decide +kernel
theorem d_K_resync_79 : decode c_K_resync 79 = .ok (.iconst 1, 1) := by decide +kernel
theorem d_K_resync_80 : decode c_K_resync 80 = .ok (.iload 4, 2) := by decide +kernel
theorem d_K_resync_82 : decode c_K_resync 82 = .ok (.ishl, 1) := by decide +kernel
theorem d_K_resync_83 : decode c_K_resync 83 = .ok (.isub, 1) := by decide +kernel
theorem d_K_resync_84 : decode c_K_resync 84 = .ok (.iastore, 1) := by decide +kernel
theorem d_K_resync_85 : decode c_K_resync 85 = .ok (.iconst 4, 1) := by decide +kernel
theorem d_K_resync_86 : decode c_K_resync 86 = .ok (.iload 4, 2) := by decide +kernel
theorem d_K_resync_88 : decode c_K_resync 88 = .ok (.imul, 1) := by decide +kernel
theorem d_K_resync_89 : decode c_K_resync 89 = .ok (.istore 6, 2) := by decide +kernel
theorem d_K_resync_91 : decode c_K_resync 91 = .ok (.iload 6, 2) := by decide +kernel
theorem d_K_resync_93 : decode c_K_resync 93 = .ok (.iconst 4, 1) := by decide +kernel
theorem d_K_resync_94 : decode c_K_resync 94 = .ok (.iload 4, 2) := by decide +kernel
theorem d_K_resync_96 : decode c_K_resync 96 = .ok (.imul, 1) := by decide +kernel
theorem d_K_resync_97 : decode c_K_resync 97 = .ok (.iconst 4, 1) := by decide +kernel
theorem d_K_resync_98 : decode c_K_resync 98 = .ok (.iadd, 1) := by decide +kernel
theorem d_K_resync_99 : decode c_K_resync 99 = .ok (.if_icmp .ge 25, 3) := by decide +kernel
theorem d_K_resync_102 : decode c_K_resync 102 = .ok (.aload_n 0, 1) := by decide +kernel
theorem d_K_resync_103 : decode c_K_resync 103 = .ok (.iconst 1, 1) := by decide +kernel
theorem d_K_resync_104 : decode c_K_resync 104 = .ok (.iload_n 2, 1) := by decide +kernel
theorem d_K_resync_105 : decode c_K_resync 105 = .ok (.isub, 1) := by decide +kernel
theorem d_K_resync_106 : decode c_K_resync 106 = .ok (.iload 6, 2) := by decide +kernel
theorem d_K_resync_108 : decode c_K_resync 108 = .ok (.aload_n 0, 1) := by decide +kernel
theorem d_K_resync_109 : decode c_K_resync 109 = .ok (.iload_n 2, 1) := by decide +kernel
theorem d_K_resync_110 : decode c_K_resync 110 = .ok (.iload 6, 2) := by decide +kernel
theorem d_K_resync_112 : decode c_K_resync 112 = .ok (.invokevirtual 78, 3) := by decide +kernel
theorem d_K_resync_115 : decode c_K_resync 115 = .ok (.invokevirtual 70, 3) := by decide +kernel
theorem d_K_resync_118 : decode c_K_resync 118 = .ok (.iinc 6 1, 3) := by decide +kernel
theorem d_K_resync_121 : decode c_K_resync 121 = .ok (.goto (-30), 3) := by decide +kernel
theorem d_K_resync_124 : decode c_K_resync 124 = .ok (.iinc 4 1, 3) := by decide +kernel
theorem d_K_resync_127 : decode c_K_resync 127 = .ok (.goto (-97), 3) := by decide +kernel
theorem d_K_resync_130 : decode c_K_resync 130 = .ok (.iconst 0, 1) := by decide +kernel
theorem d_K_resync_131 : decode c_K_resync 131 = .ok (.istore 4, 2) := by decide +kernel
theorem d_K_resync_133 : decode c_K_resync 133 = .ok (.iconst 0, 1) := by decide +kernel
theorem d_K_resync_134 : decode c_K_resync 134 = .ok (.istore 5, 2) := by decide +kernel
theorem d_K_resync_136 : decode c_K_resync 136 = .ok (.iload 5, 2) := by decide +kernel
theorem d_K_resync_138 : decode c_K_resync 138 = .ok (.bipush 8, 2) := by decide +kernel
theorem d_K_resync_140 : decode c_K_resync 140 = .ok (.if_icmp .ge 25, 3) := by decide +kernel
theorem d_K_resync_143 : decode c_K_resync 143 = .ok (.iload 4, 2) := by decide +kernel
theorem d_K_resync_145 : decode c_K_resync 145 = .ok (.aload_n 0, 1) := by decide +kernel
theorem d_K_resync_146 : decode c_K_resync 146 = .ok (.getfield 35, 3) := by decide +kernel
theorem d_K_resync_149 : decode c_K_resync 149 = .ok (.iload_n 2, 1) := by decide +kernel
theorem d_K_resync_150 : decode c_K_resync 150 = .ok (.iaload, 1) := by decide +kernel
theorem d_K_resync_151 : decode c_K_resync 151 = .ok (.iload 5, 2) := by decide +kernel
theorem d_K_resync_153 : decode c_K_resync 153 = .ok (.ishr, 1) := by decide +kernel
theorem d_K_resync_154 : decode c_K_resync 154 = .ok (.iconst 1, 1) := by decide +kernel
theorem d_K_resync_155 : decode c_K_resync 155 = .ok (.iand, 1) := by decide +kernel
theorem d_K_resync_156 : decode c_K_resync 156 = .ok (.iadd, 1) := by decide +kernel
theorem d_K_resync_157 : decode c_K_resync 157 = .ok (.istore 4, 2) := by decide +kernel
theorem d_K_resync_159 : decode c_K_resync 159 = .ok (.iinc 5 1, 3) := by decide +kernel
theorem d_K_resync_162 : decode c_K_resync 162 = .ok (.goto (-26), 3) := by decide +kernel
theorem d_K_resync_165 : decode c_K_resync 165 = .ok (.iload 4, 2) := by decide +kernel
theorem d_K_resync_167 : decode c_K_resync 167 = .ok (.ifCond .ne 8, 3) := by decide +kernel
theorem d_K_resync_170 : decode c_K_resync 170 = .ok (.aload_n 0, 1) := by decide +kernel
theorem d_K_resync_171 : decode c_K_resync 171 = .ok (.iload_n 2, 1) := by decide +kernel
theorem d_K_resync_172 : decode c_K_resync 172 = .ok (.invokevirtual 114, 3) := by decide +kernel
theorem d_K_resync_175 : decode c_K_resync 175 = .ok (.iload 4, 2) := by decide +kernel
theorem d_K_resync_177 : decode c_K_resync 177 = .ok (.ireturn, 1) := by decide +kernel
theorem d_K_promote_0 : decode c_K_promote 0 = .ok (.aload_n 0, 1) := by decide +kernel
theorem d_K_promote_1 : decode c_K_promote 1 = .ok (.iload_n 1, 1) := by decide +kernel
theorem d_K_promote_2 : decode c_K_promote 2 = .ok (.iconst 2, 1) := by decide +kernel
theorem d_K_promote_3 : decode c_K_promote 3 = .ok (.invokevirtual 93, 3) := by decide +kernel
theorem d_K_promote_6 : decode c_K_promote 6 = .ok (.ifCond .ne 29, 3) := by decide +kernel
theorem d_K_promote_9 : decode c_K_promote 9 = .ok (.aload_n 0, 1) := by decide +kernel
theorem d_K_promote_10 : decode c_K_promote 10 = .ok (.getfield 20, 3) := by decide +kernel
theorem d_K_promote_13 : decode c_K_promote 13 = .ok (.iload_n 1, 1) := by decide +kernel
theorem d_K_promote_14 : decode c_K_promote 14 = .ok (.baload, 1) := by decide +kernel
theorem d_K_promote_15 : decode c_K_promote 15 = .ok (.ifCond .ne 20, 3) := by decide +kernel
theorem d_K_promote_18 : decode c_K_promote 18 = .ok (.aload_n 0, 1) := by decide +kernel
theorem d_K_promote_19 : decode c_K_promote 19 = .ok (.getfield 38, 3) := by decide +kernel
theorem d_K_promote_22 : decode c_K_promote 22 = .ok (.iload_n 1, 1) := by decide +kernel
theorem d_K_promote_23 : decode c_K_promote 23 = .ok (.if_icmp .eq 12, 3) := by decide +kernel
theorem d_K_promote_26 : decode c_K_promote 26 = .ok (.aload_n 0, 1) := by decide +kernel
theorem d_K_promote_27 : decode c_K_promote 27 = .ok (.getfield 26, 3) := by decide +kernel
theorem d_K_promote_30 : decode c_K_promote 30 = .ok (.iload_n 1, 1) := by decide +kernel
theorem d_K_promote_31 : decode c_K_promote 31 = .ok (.baload, 1) := by decide +kernel
theorem d_K_promote_32 : decode c_K_promote 32 = .ok (.ifCond .eq 5, 3) := by decide +kernel
theorem d_K_promote_35 : decode c_K_promote 35 = .ok (.iconst (-1), 1) := by decide +kernel
theorem d_K_promote_36 : decode c_K_promote 36 = .ok (.ireturn, 1) := by decide +kernel
theorem d_K_promote_37 : decode c_K_promote 37 = .ok (.aload_n 0, 1) := by decide +kernel
theorem d_K_promote_38 : decode c_K_promote 38 = .ok (.getfield 45, 3) := by decide +kernel
theorem d_K_promote_41 : decode c_K_promote 41 = .ok (.iconst 1, 1) := by decide +kernel
theorem d_K_promote_42 : decode c_K_promote 42 = .ok (.iload_n 1, 1) := by decide +kernel
theorem d_K_promote_43 : decode c_K_promote 43 = .ok (.isub, 1) := by decide +kernel
theorem d_K_promote_44 : decode c_K_promote 44 = .ok (.if_icmp .ne 17, 3) := by decide +kernel
theorem d_K_promote_47 : decode c_K_promote 47 = .ok (.aload_n 0, 1) := by decide +kernel
theorem d_K_promote_48 : decode c_K_promote 48 = .ok (.getfield 117, 3) := by decide +kernel
theorem d_K_promote_51 : decode c_K_promote 51 = .ok (.aload_n 0, 1) := by decide +kernel
theorem d_K_promote_52 : decode c_K_promote 52 = .ok (.getfield 120, 3) := by decide +kernel
theorem d_K_promote_55 : decode c_K_promote 55 = .ok (.if_icmp .le 6, 3) := by decide +kernel
theorem d_K_promote_58 : decode c_K_promote 58 = .ok (.bipush (-4), 2) := by decide +kernel
theorem d_K_promote_60 : decode c_K_promote 60 = .ok (.ireturn, 1) := by decide +kernel
theorem d_K_promote_61 : decode c_K_promote 61 = .ok (.aload_n 0, 1) := by decide +kernel
theorem d_K_promote_62 : decode c_K_promote 62 = .ok (.getfield 29, 3) := by decide +kernel
theorem d_K_promote_65 : decode c_K_promote 65 = .ok (.iload_n 1, 1) := by decide +kernel
theorem d_K_promote_66 : decode c_K_promote 66 = .ok (.iaload, 1) := by decide +kernel
theorem d_K_promote_67 : decode c_K_promote 67 = .ok (.ifCond .ne 6, 3) := by decide +kernel
theorem d_K_promote_70 : decode c_K_promote 70 = .ok (.bipush (-6), 2) := by decide +kernel
theorem d_K_promote_72 : decode c_K_promote 72 = .ok (.ireturn, 1) := by decide +kernel
theorem d_K_promote_73 : decode c_K_promote 73 = .ok (.aload_n 0, 1) := by decide +kernel
theorem d_K_promote_74 : decode c_K_promote 74 = .ok (.getfield 29, 3) := by decide +kernel
theorem d_K_promote_77 : decode c_K_promote 77 = .ok (.iload_n 1, 1) := by decide +kernel
theorem d_K_promote_78 : decode c_K_promote 78 = .ok (.iaload, 1) := by decide +kernel
theorem d_K_promote_79 : decode c_K_promote 79 = .ok (.aload_n 0, 1) := by decide +kernel
theorem d_K_promote_80 : decode c_K_promote 80 = .ok (.getfield 55, 3) := by decide +kernel
theorem d_K_promote_83 : decode c_K_promote 83 = .ok (.if_icmp .eq 7, 3) := by decide +kernel
theorem d_K_promote_86 : decode c_K_promote 86 = .ok (.iconst 1, 1) := by decide +kernel
theorem d_K_promote_87 : decode c_K_promote 87 = .ok (.goto 4, 3) := by decide +kernel
theorem d_K_promote_90 : decode c_K_promote 90 = .ok (.iconst 0, 1) := by decide +kernel
theorem d_K_promote_91 : decode c_K_promote 91 = .ok (.istore_n 3, 1) := by decide +kernel
theorem d_K_promote_92 : decode c_K_promote 92 = .ok (.iload_n 3, 1) := by decide +kernel
theorem d_K_promote_93 : decode c_K_promote 93 = .ok (.ifCond .eq 10, 3) := by decide +kernel
theorem d_K_promote_96 : decode c_K_promote 96 = .ok (.iload_n 2, 1) := by decide +kernel
theorem d_K_promote_97 : decode c_K_promote 97 = .ok (.ifCond .ne 6, 3) := by decide +kernel
theorem d_K_promote_100 : decode c_K_promote 100 = .ok (.bipush (-5), 2) := by decide +kernel
theorem d_K_promote_102 : decode c_K_promote 102 = .ok (.ireturn, 1) := by decide +kernel
theorem d_K_promote_103 : decode c_K_promote 103 = .ok (.aload_n 0, 1) := by decide +kernel
theorem d_K_promote_104 : decode c_K_promote 104 = .ok (.getfield 38, 3) := by decide +kernel
theorem d_K_promote_107 : decode c_K_promote 107 = .ok (.iconst 2, 1) := by decide +kernel
theorem d_K_promote_108 : decode c_K_promote 108 = .ok (.if_icmp .eq 7, 3) := by decide +kernel
theorem d_K_promote_111 : decode c_K_promote 111 = .ok (.aload_n 0, 1) := by decide +kernel
theorem d_K_promote_112 : decode c_K_promote 112 = .ok (.invokevirtual 108, 3) := by decide +kernel
theorem d_K_promote_115 : decode c_K_promote 115 = .ok (.aload_n 0, 1) := by decide +kernel
theorem d_K_promote_116 : decode c_K_promote 116 = .ok (.iload_n 1, 1) := by decide +kernel
theorem d_K_promote_117 : decode c_K_promote 117 = .ok (.putfield 38, 3) := by decide +kernel
theorem d_K_promote_120 : decode c_K_promote 120 = .ok (.aload_n 0, 1) := by decide +kernel
theorem d_K_promote_121 : decode c_K_promote 121 = .ok (.iload_n 1, 1) := by decide +kernel
theorem d_K_promote_122 : decode c_K_promote 122 = .ok (.putfield 45, 3) := by decide +kernel
theorem d_K_promote_125 : decode c_K_promote 125 = .ok (.aload_n 0, 1) := by decide +kernel
theorem d_K_promote_126 : decode c_K_promote 126 = .ok (.aload_n 0, 1) := by decide +kernel
theorem d_K_promote_127 : decode c_K_promote 127 = .ok (.getfield 120, 3) := by decide +kernel
theorem d_K_promote_130 : decode c_K_promote 130 = .ok (.aload_n 0, 1) := by decide +kernel
theorem d_K_promote_131 : decode c_K_promote 131 = .ok (.getfield 64, 3) := by decide +kernel
theorem d_K_promote_134 : decode c_K_promote 134 = .ok (.iadd, 1) := by decide +kernel
theorem d_K_promote_135 : decode c_K_promote 135 = .ok (.putfield 117, 3) := by decide +kernel
theorem d_K_promote_138 : decode c_K_promote 138 = .ok (.iload_n 3, 1) := by decide +kernel
theorem d_K_promote_139 : decode c_K_promote 139 = .ok (.ifCond .ne 19, 3) := by decide +kernel
theorem d_K_promote_142 : decode c_K_promote 142 = .ok (.aload_n 0, 1) := by decide +kernel
theorem d_K_promote_143 : decode c_K_promote 143 = .ok (.getfield 48, 3) := by decide +kernel
theorem d_K_promote_146 : decode c_K_promote 146 = .ok (.ifCond .ne 17, 3) := by decide +kernel
theorem d_K_promote_149 : decode c_K_promote 149 = .ok (.aload_n 0, 1) := by decide +kernel
theorem d_K_promote_150 : decode c_K_promote 150 = .ok (.getfield 23, 3) := by decide +kernel
theorem d_K_promote_153 : decode c_K_promote 153 = .ok (.iload_n 1, 1) := by decide +kernel
theorem d_K_promote_154 : decode c_K_promote 154 = .ok (.baload, 1) := by decide +kernel
theorem d_K_promote_155 : decode c_K_promote 155 = .ok (.ifCond .ne 8, 3) := by decide +kernel
theorem d_K_promote_158 : decode c_K_promote 158 = .ok (.aload_n 0, 1) := by decide +kernel
theorem d_K_promote_159 : decode c_K_promote 159 = .ok (.iload_n 1, 1) := by decide +kernel
theorem d_K_promote_160 : decode c_K_promote 160 = .ok (.invokevirtual 97, 3) := by decide +kernel
theorem d_K_promote_163 : decode c_K_promote 163 = .ok (.aload_n 0, 1) := by decide +kernel
theorem d_K_promote_164 : decode c_K_promote 164 = .ok (.invokevirtual 86, 3) := by decide +kernel
theorem d_K_promote_167 : decode c_K_promote 167 = .ok (.aload_n 0, 1) := by decide +kernel
theorem d_K_promote_168 : decode c_K_promote 168 = .ok (.iload_n 1, 1) := by decide +kernel
theorem d_K_promote_169 : decode c_K_promote 169 = .ok (.bipush 24, 2) := by decide +kernel
theorem d_K_promote_171 : decode c_K_promote 171 = .ok (.invokevirtual 78, 3) := by decide +kernel
theorem d_K_promote_174 : decode c_K_promote 174 = .ok (.istore 4, 2) := by decide +kernel
theorem d_K_promote_176 : decode c_K_promote 176 = .ok (.iload 4, 2) := by decide +kernel
theorem d_K_promote_178 : decode c_K_promote 178 = .ok (.iconst 1, 1) := by decide +kernel
theorem d_K_promote_179 : decode c_K_promote 179 = .ok (.if_icmp .lt 9, 3) := by decide +kernel
theorem d_K_promote_182 : decode c_K_promote 182 = .ok (.iload 4, 2) := by decide +kernel
theorem d_K_promote_184 : decode c_K_promote 184 = .ok (.iconst 3, 1) := by decide +kernel
theorem d_K_promote_185 : decode c_K_promote 185 = .ok (.if_icmp .le 5, 3) := by decide +kernel
theorem d_K_promote_188 : decode c_K_promote 188 = .ok (.iconst 0, 1) := by decide +kernel
theorem d_K_promote_189 : decode c_K_promote 189 = .ok (.ireturn, 1) := by decide +kernel
theorem d_K_promote_190 : decode c_K_promote 190 = .ok (.iconst 0, 1) := by decide +kernel
theorem d_K_promote_191 : decode c_K_promote 191 = .ok (.istore 5, 2) := by decide +kernel
theorem d_K_promote_193 : decode c_K_promote 193 = .ok (.iload 5, 2) := by decide +kernel
theorem d_K_promote_195 : decode c_K_promote 195 = .ok (.iload 4, 2) := by decide +kernel
theorem d_K_promote_197 : decode c_K_promote 197 = .ok (.if_icmp .ge 52, 3) := by decide +kernel
theorem d_K_promote_200 : decode c_K_promote 200 = .ok (.aload_n 0, 1) := by decide +kernel
theorem d_K_promote_201 : decode c_K_promote 201 = .ok (.iload_n 1, 1) := by decide +kernel
theorem d_K_promote_202 : decode c_K_promote 202 = .ok (.bipush 25, 2) := by decide +kernel
theorem d_K_promote_204 : decode c_K_promote 204 = .ok (.iconst 2, 1) := by decide +kernel
theorem d_K_promote_205 : decode c_K_promote 205 = .ok (.iload 5, 2) := by decide +kernel
theorem d_K_promote_207 : decode c_K_promote 207 = .ok (.imul, 1) := by decide +kernel
theorem d_K_promote_208 : decode c_K_promote 208 = .ok (.iadd, 1) := by decide +kernel
theorem d_K_promote_209 : decode c_K_promote 209 = .ok (.invokevirtual 78, 3) := by decide +kernel
theorem d_K_promote_212 : decode c_K_promote 212 = .ok (.istore 6, 2) := by decide +kernel
theorem d_K_promote_214 : decode c_K_promote 214 = .ok (.aload_n 0, 1) := by decide +kernel
theorem d_K_promote_215 : decode c_K_promote 215 = .ok (.iload 6, 2) := by decide +kernel
theorem d_K_promote_217 : decode c_K_promote 217 = .ok (.bipush 24, 2) := by decide +kernel
theorem d_K_promote_219 : decode c_K_promote 219 = .ok (.invokevirtual 93, 3) := by decide +kernel
theorem d_K_promote_222 : decode c_K_promote 222 = .ok (.ifCond .ne 21, 3) := by decide +kernel
theorem d_K_promote_225 : decode c_K_promote 225 = .ok (.aload_n 0, 1) := by decide +kernel
theorem d_K_promote_226 : decode c_K_promote 226 = .ok (.iload 6, 2) := by decide +kernel
theorem d_K_promote_228 : decode c_K_promote 228 = .ok (.aload_n 0, 1) := by decide +kernel
theorem d_K_promote_229 : decode c_K_promote 229 = .ok (.iload_n 1, 1) := by decide +kernel
theorem d_K_promote_230 : decode c_K_promote 230 = .ok (.bipush 26, 2) := by decide +kernel
theorem d_K_promote_232 : decode c_K_promote 232 = .ok (.iconst 2, 1) := by decide +kernel
theorem d_K_promote_233 : decode c_K_promote 233 = .ok (.iload 5, 2) := by decide +kernel
theorem d_K_promote_235 : decode c_K_promote 235 = .ok (.imul, 1) := by decide +kernel
theorem d_K_promote_236 : decode c_K_promote 236 = .ok (.iadd, 1) := by decide +kernel
theorem d_K_promote_237 : decode c_K_promote 237 = .ok (.invokevirtual 78, 3) := by decide +kernel
theorem d_K_promote_240 : decode c_K_promote 240 = .ok (.invokevirtual 89, 3) := by decide +kernel
theorem d_K_promote_243 : decode c_K_promote 243 = .ok (.iinc 5 1, 3) := by decide +kernel
theorem d_K_promote_246 : decode c_K_promote 246 = .ok (.goto (-53), 3) := by decide +kernel
theorem d_K_promote_249 : decode c_K_promote 249 = .ok (.iload 4, 2) := by decide +kernel
theorem d_K_promote_251 : decode c_K_promote 251 = .ok (.ireturn, 1) := by decide +kernel
theorem d_K_demote_0 : decode c_K_demote 0 = .ok (.aload_n 0, 1) := by decide +kernel
theorem d_K_demote_1 : decode c_K_demote 1 = .ok (.iload_n 1, 1) := by decide +kernel
theorem d_K_demote_2 : decode c_K_demote 2 = .ok (.iconst 2, 1) := by decide +kernel
theorem d_K_demote_3 : decode c_K_demote 3 = .ok (.invokevirtual 93, 3) := by decide +kernel
theorem d_K_demote_6 : decode c_K_demote 6 = .ok (.ifCond .ne 11, 3) := by decide +kernel
theorem d_K_demote_9 : decode c_K_demote 9 = .ok (.aload_n 0, 1) := by decide +kernel
theorem d_K_demote_10 : decode c_K_demote 10 = .ok (.getfield 38, 3) := by decide +kernel
theorem d_K_demote_13 : decode c_K_demote 13 = .ok (.iload_n 1, 1) := by decide +kernel
theorem d_K_demote_14 : decode c_K_demote 14 = .ok (.if_icmp .eq 5, 3) := by decide +kernel
theorem d_K_demote_17 : decode c_K_demote 17 = .ok (.iconst (-1), 1) := by decide +kernel
theorem d_K_demote_18 : decode c_K_demote 18 = .ok (.ireturn, 1) := by decide +kernel
theorem d_K_demote_19 : decode c_K_demote 19 = .ok (.aload_n 0, 1) := by decide +kernel
theorem d_K_demote_20 : decode c_K_demote 20 = .ok (.invokevirtual 108, 3) := by decide +kernel
theorem d_K_demote_23 : decode c_K_demote 23 = .ok (.aload_n 0, 1) := by decide +kernel
theorem d_K_demote_24 : decode c_K_demote 24 = .ok (.getfield 45, 3) := by decide +kernel
theorem d_K_demote_27 : decode c_K_demote 27 = .ok (.iload_n 1, 1) := by decide +kernel
theorem d_K_demote_28 : decode c_K_demote 28 = .ok (.if_icmp .ne 8, 3) := by decide +kernel
theorem d_K_demote_31 : decode c_K_demote 31 = .ok (.aload_n 0, 1) := by decide +kernel
theorem d_K_demote_32 : decode c_K_demote 32 = .ok (.iconst 2, 1) := by decide +kernel
theorem d_K_demote_33 : decode c_K_demote 33 = .ok (.putfield 45, 3) := by decide +kernel
theorem d_K_demote_36 : decode c_K_demote 36 = .ok (.iconst 0, 1) := by decide +kernel
theorem d_K_demote_37 : decode c_K_demote 37 = .ok (.ireturn, 1) := by decide +kernel
