theorem d_K_renew_0 : decode c_K_renew 0 = .ok (.aload_n 0, 1) := by decide +kernel
theorem d_K_renew_1 : decode c_K_renew 1 = .ok (.getfield 38, 3) := by decide +kernel
theorem d_K_renew_4 : decode c_K_renew 4 = .ok (.iconst 2, 1) := by decide +kernel
theorem d_K_renew_5 : decode c_K_renew 5 = .ok (.if_icmp .eq 15, 3) := by decide +kernel
theorem d_K_renew_8 : decode c_K_renew 8 = .ok (.aload_n 0, 1) := by decide +kernel
theorem d_K_renew_9 : decode c_K_renew 9 = .ok (.getfield 26, 3) := by decide +kernel
theorem d_K_renew_12 : decode c_K_renew 12 = .ok (.aload_n 0, 1) := by decide +kernel
theorem d_K_renew_13 : decode c_K_renew 13 = .ok (.getfield 38, 3) := by decide +kernel
theorem d_K_renew_16 : decode c_K_renew 16 = .ok (.baload, 1) := by decide +kernel
theorem d_K_renew_17 : decode c_K_renew 17 = .ok (.ifCond .eq 5, 3) := by decide +kernel
theorem d_K_renew_20 : decode c_K_renew 20 = .ok (.iconst (-1), 1) := by decide +kernel
theorem d_K_renew_21 : decode c_K_renew 21 = .ok (.ireturn, 1) := by decide +kernel
theorem d_K_renew_22 : decode c_K_renew 22 = .ok (.aload_n 0, 1) := by decide +kernel
theorem d_K_renew_23 : decode c_K_renew 23 = .ok (.aload_n 0, 1) := by decide +kernel
theorem d_K_renew_24 : decode c_K_renew 24 = .ok (.getfield 120, 3) := by decide +kernel
theorem d_K_renew_27 : decode c_K_renew 27 = .ok (.aload_n 0, 1) := by decide +kernel
theorem d_K_renew_28 : decode c_K_renew 28 = .ok (.getfield 64, 3) := by decide +kernel
theorem d_K_renew_31 : decode c_K_renew 31 = .ok (.iadd, 1) := by decide +kernel
theorem d_K_renew_32 : decode c_K_renew 32 = .ok (.putfield 117, 3) := by decide +kernel
theorem d_K_renew_35 : decode c_K_renew 35 = .ok (.aload_n 0, 1) := by decide +kernel
theorem d_K_renew_36 : decode c_K_renew 36 = .ok (.getfield 117, 3) := by decide +kernel
theorem d_K_renew_39 : decode c_K_renew 39 = .ok (.ireturn, 1) := by decide +kernel
theorem d_K_tick_0 : decode c_K_tick 0 = .ok (.iload_n 1, 1) := by decide +kernel
theorem d_K_tick_1 : decode c_K_tick 1 = .ok (.ifCond .lt 9, 3) := by decide +kernel
theorem d_K_tick_4 : decode c_K_tick 4 = .ok (.iload_n 1, 1) := by decide +kernel
theorem d_K_tick_5 : decode c_K_tick 5 = .ok (.bipush 100, 2) := by decide +kernel
theorem d_K_tick_7 : decode c_K_tick 7 = .ok (.if_icmp .le 5, 3) := by decide +kernel
theorem d_K_tick_10 : decode c_K_tick 10 = .ok (.iconst (-1), 1) := by decide +kernel
theorem d_K_tick_11 : decode c_K_tick 11 = .ok (.ireturn, 1) := by decide +kernel
theorem d_K_tick_12 : decode c_K_tick 12 = .ok (.aload_n 0, 1) := by decide +kernel
theorem d_K_tick_13 : decode c_K_tick 13 = .ok (.dup, 1) := by decide +kernel
theorem d_K_tick_14 : decode c_K_tick 14 = .ok (.getfield 120, 3) := by decide +kernel
theorem d_K_tick_17 : decode c_K_tick 17 = .ok (.iload_n 1, 1) := by decide +kernel
theorem d_K_tick_18 : decode c_K_tick 18 = .ok (.iadd, 1) := by decide +kernel
theorem d_K_tick_19 : decode c_K_tick 19 = .ok (.putfield 120, 3) := by decide +kernel
theorem d_K_tick_22 : decode c_K_tick 22 = .ok (.aload_n 0, 1) := by decide +kernel
theorem d_K_tick_23 : decode c_K_tick 23 = .ok (.getfield 45, 3) := by decide +kernel
theorem d_K_tick_26 : decode c_K_tick 26 = .ok (.iconst 2, 1) := by decide +kernel
theorem d_K_tick_27 : decode c_K_tick 27 = .ok (.if_icmp .eq 14, 3) := by decide +kernel
theorem d_K_tick_30 : decode c_K_tick 30 = .ok (.aload_n 0, 1) := by decide +kernel
theorem d_K_tick_31 : decode c_K_tick 31 = .ok (.getfield 117, 3) := by decide +kernel
theorem d_K_tick_34 : decode c_K_tick 34 = .ok (.aload_n 0, 1) := by decide +kernel
theorem d_K_tick_35 : decode c_K_tick 35 = .ok (.getfield 120, 3) := by decide +kernel
theorem d_K_tick_38 : decode c_K_tick 38 = .ok (.if_icmp .gt 20, 3) := by decide +kernel
theorem d_K_tick_41 : decode c_K_tick 41 = .ok (.aload_n 0, 1) := by decide +kernel
theorem d_K_tick_42 : decode c_K_tick 42 = .ok (.iconst 2, 1) := by decide +kernel
theorem d_K_tick_43 : decode c_K_tick 43 = .ok (.putfield 45, 3) := by decide +kernel
theorem d_K_tick_46 : decode c_K_tick 46 = .ok (.aload_n 0, 1) := by decide +kernel
theorem d_K_tick_47 : decode c_K_tick 47 = .ok (.getfield 38, 3) := by decide +kernel
theorem d_K_tick_50 : decode c_K_tick 50 = .ok (.iconst 2, 1) := by decide +kernel
theorem d_K_tick_51 : decode c_K_tick 51 = .ok (.if_icmp .eq 7, 3) := by decide +kernel
theorem d_K_tick_54 : decode c_K_tick 54 = .ok (.aload_n 0, 1) := by decide +kernel
theorem d_K_tick_55 : decode c_K_tick 55 = .ok (.invokevirtual 108, 3) := by decide +kernel
theorem d_K_tick_58 : decode c_K_tick 58 = .ok (.aload_n 0, 1) := by decide +kernel
theorem d_K_tick_59 : decode c_K_tick 59 = .ok (.getfield 120, 3) := by decide +kernel
theorem d_K_tick_62 : decode c_K_tick 62 = .ok (.ireturn, 1) := by decide +kernel
theorem d_K_block_0 : decode c_K_block 0 = .ok (.aload_n 0, 1) := by decide +kernel
theorem d_K_block_1 : decode c_K_block 1 = .ok (.iload_n 1, 1) := by decide +kernel
theorem d_K_block_2 : decode c_K_block 2 = .ok (.iconst 2, 1) := by decide +kernel
theorem d_K_block_3 : decode c_K_block 3 = .ok (.invokevirtual 93, 3) := by decide +kernel
theorem d_K_block_6 : decode c_K_block 6 = .ok (.ifCond .ne 13, 3) := by decide +kernel
theorem d_K_block_9 : decode c_K_block 9 = .ok (.aload_n 0, 1) := by decide +kernel
theorem d_K_block_10 : decode c_K_block 10 = .ok (.iload_n 2, 1) := by decide +kernel
theorem d_K_block_11 : decode c_K_block 11 = .ok (.bipush 32, 2) := by decide +kernel
theorem d_K_block_13 : decode c_K_block 13 = .ok (.invokevirtual 93, 3) := by decide +kernel
theorem d_K_block_16 : decode c_K_block 16 = .ok (.ifCond .eq 7, 3) := by decide +kernel
theorem d_K_block_19 : decode c_K_block 19 = .ok (.ldc2_w 106, 3) := by decide +kernel
theorem d_K_block_22 : decode c_K_block 22 = .ok (.lreturn, 1) := by decide +kernel
theorem d_K_block_23 : decode c_K_block 23 = .ok (.iload_n 3, 1) := by decide +kernel
theorem d_K_block_24 : decode c_K_block 24 = .ok (.ifCond .eq 18, 3) := by decide +kernel
theorem d_K_block_27 : decode c_K_block 27 = .ok (.aload_n 0, 1) := by decide +kernel
theorem d_K_block_28 : decode c_K_block 28 = .ok (.getfield 7, 3) := by decide +kernel
theorem d_K_block_31 : decode c_K_block 31 = .ok (.iload_n 1, 1) := by decide +kernel
theorem d_K_block_32 : decode c_K_block 32 = .ok (.bipush 32, 2) := by decide +kernel
theorem d_K_block_34 : decode c_K_block 34 = .ok (.imul, 1) := by decide +kernel
theorem d_K_block_35 : decode c_K_block 35 = .ok (.iload_n 2, 1) := by decide +kernel
theorem d_K_block_36 : decode c_K_block 36 = .ok (.iadd, 1) := by decide +kernel
theorem d_K_block_37 : decode c_K_block 37 = .ok (.iaload, 1) := by decide +kernel
theorem d_K_block_38 : decode c_K_block 38 = .ok (.i2l, 1) := by decide +kernel
theorem d_K_block_39 : decode c_K_block 39 = .ok (.goto 10, 3) := by decide +kernel
theorem d_K_block_42 : decode c_K_block 42 = .ok (.aload_n 0, 1) := by decide +kernel
theorem d_K_block_43 : decode c_K_block 43 = .ok (.iload_n 1, 1) := by decide +kernel
theorem d_K_block_44 : decode c_K_block 44 = .ok (.iload_n 2, 1) := by decide +kernel
theorem d_K_block_45 : decode c_K_block 45 = .ok (.invokevirtual 78, 3) := by decide +kernel
theorem d_K_block_48 : decode c_K_block 48 = .ok (.i2l, 1) := by decide +kernel
theorem d_K_block_49 : decode c_K_block 49 = .ok (.lreturn, 1) := by decide +kernel
theorem d_K_node_0 : decode c_K_node 0 = .ok (.aload_n 0, 1) := by decide +kernel
theorem d_K_node_1 : decode c_K_node 1 = .ok (.iload_n 1, 1) := by decide +kernel
theorem d_K_node_2 : decode c_K_node 2 = .ok (.iconst 2, 1) := by decide +kernel
theorem d_K_node_3 : decode c_K_node 3 = .ok (.invokevirtual 93, 3) := by decide +kernel
theorem d_K_node_6 : decode c_K_node 6 = .ok (.ifCond .eq 5, 3) := by decide +kernel
theorem d_K_node_9 : decode c_K_node 9 = .ok (.iconst (-1), 1) := by decide +kernel
theorem d_K_node_10 : decode c_K_node 10 = .ok (.ireturn, 1) := by decide +kernel
theorem d_K_node_11 : decode c_K_node 11 = .ok (.iconst 0, 1) := by decide +kernel
theorem d_K_node_12 : decode c_K_node 12 = .ok (.istore_n 3, 1) := by decide +kernel
theorem d_K_node_13 : decode c_K_node 13 = .ok (.iconst 0, 1) := by decide +kernel
theorem d_K_node_14 : decode c_K_node 14 = .ok (.istore 4, 2) := by decide +kernel
theorem d_K_node_16 : decode c_K_node 16 = .ok (.iload 4, 2) := by decide +kernel
theorem d_K_node_18 : decode c_K_node 18 = .ok (.bipush 32, 2) := by decide +kernel
theorem d_K_node_20 : decode c_K_node 20 = .ok (.if_icmp .ge 32, 3) := by decide +kernel
theorem d_K_node_23 : decode c_K_node 23 = .ok (.iload_n 3, 1) := by decide +kernel
theorem d_K_node_24 : decode c_K_node 24 = .ok (.aload_n 0, 1) := by decide +kernel
theorem d_K_node_25 : decode c_K_node 25 = .ok (.getfield 16, 3) := by decide +kernel
theorem d_K_node_28 : decode c_K_node 28 = .ok (.iload_n 1, 1) := by decide +kernel
theorem d_K_node_29 : decode c_K_node 29 = .ok (.bipush 32, 2) := by decide +kernel
theorem d_K_node_31 : decode c_K_node 31 = .ok (.imul, 1) := by decide +kernel
theorem d_K_node_32 : decode c_K_node 32 = .ok (.iload 4, 2) := by decide +kernel
theorem d_K_node_34 : decode c_K_node 34 = .ok (.iadd, 1) := by decide +kernel
theorem d_K_node_35 : decode c_K_node 35 = .ok (.baload, 1) := by decide +kernel
theorem d_K_node_36 : decode c_K_node 36 = .ok (.ifCond .eq 7, 3) := by decide +kernel
theorem d_K_node_39 : decode c_K_node 39 = .ok (.iconst 1, 1) := by decide +kernel
theorem d_K_node_40 : decode c_K_node 40 = .ok (.goto 4, 3) := by decide +kernel
theorem d_K_node_43 : decode c_K_node 43 = .ok (.iconst 0, 1) := by decide +kernel
theorem d_K_node_44 : decode c_K_node 44 = .ok (.iadd, 1) := by decide +kernel
theorem d_K_node_45 : decode c_K_node 45 = .ok (.istore_n 3, 1) := by decide +kernel
theorem d_K_node_46 : decode c_K_node 46 = .ok (.iinc 4 1, 3) := by decide +kernel
theorem d_K_node_49 : decode c_K_node 49 = .ok (.goto (-33), 3) := by decide +kernel
theorem d_K_node_52 : decode c_K_node 52 = .ok (.iload_n 2, 1) := by decide +kernel
theorem d_K_node_53 : decode c_K_node 53 = .ok (.tableswitch 129 0 7 #[47, 62, 76, 83, 90, 105, 112, 114], 47) := by decide +kernel
theorem d_K_node_100 : decode c_K_node 100 = .ok (.aload_n 0, 1) := by decide +kernel
theorem d_K_node_101 : decode c_K_node 101 = .ok (.getfield 20, 3) := by decide +kernel
theorem d_K_node_104 : decode c_K_node 104 = .ok (.iload_n 1, 1) := by decide +kernel
theorem d_K_node_105 : decode c_K_node 105 = .ok (.baload, 1) := by decide +kernel
theorem d_K_node_106 : decode c_K_node 106 = .ok (.ifCond .eq 7, 3) := by decide +kernel
theorem d_K_node_109 : decode c_K_node 109 = .ok (.iconst 0, 1) := by decide +kernel
theorem d_K_node_110 : decode c_K_node 110 = .ok (.goto 4, 3) := by decide +kernel
theorem d_K_node_113 : decode c_K_node 113 = .ok (.iconst 1, 1) := by decide +kernel
theorem d_K_node_114 : decode c_K_node 114 = .ok (.ireturn, 1) := by decide +kernel
theorem d_K_node_115 : decode c_K_node 115 = .ok (.aload_n 0, 1) := by decide +kernel
theorem d_K_node_116 : decode c_K_node 116 = .ok (.getfield 38, 3) := by decide +kernel
theorem d_K_node_119 : decode c_K_node 119 = .ok (.iload_n 1, 1) := by decide +kernel
theorem d_K_node_120 : decode c_K_node 120 = .ok (.if_icmp .ne 7, 3) := by decide +kernel
theorem d_K_node_123 : decode c_K_node 123 = .ok (.iconst 1, 1) := by decide +kernel
theorem d_K_node_124 : decode c_K_node 124 = .ok (.goto 4, 3) := by decide +kernel
theorem d_K_node_127 : decode c_K_node 127 = .ok (.iconst 0, 1) := by decide +kernel
theorem d_K_node_128 : decode c_K_node 128 = .ok (.ireturn, 1) := by decide +kernel
theorem d_K_node_129 : decode c_K_node 129 = .ok (.aload_n 0, 1) := by decide +kernel
theorem d_K_node_130 : decode c_K_node 130 = .ok (.getfield 29, 3) := by decide +kernel
theorem d_K_node_133 : decode c_K_node 133 = .ok (.iload_n 1, 1) := by decide +kernel
theorem d_K_node_134 : decode c_K_node 134 = .ok (.iaload, 1) := by decide +kernel
theorem d_K_node_135 : decode c_K_node 135 = .ok (.ireturn, 1) := by decide +kernel
theorem d_K_node_136 : decode c_K_node 136 = .ok (.aload_n 0, 1) := by decide +kernel
theorem d_K_node_137 : decode c_K_node 137 = .ok (.getfield 32, 3) := by decide +kernel
theorem d_K_node_140 : decode c_K_node 140 = .ok (.iload_n 1, 1) := by decide +kernel
theorem d_K_node_141 : decode c_K_node 141 = .ok (.iaload, 1) := by decide +kernel
theorem d_K_node_142 : decode c_K_node 142 = .ok (.ireturn, 1) := by decide +kernel
theorem d_K_node_143 : decode c_K_node 143 = .ok (.aload_n 0, 1) := by decide +kernel
theorem d_K_node_144 : decode c_K_node 144 = .ok (.getfield 23, 3) := by decide +kernel
theorem d_K_node_147 : decode c_K_node 147 = .ok (.iload_n 1, 1) := by decide +kernel
theorem d_K_node_148 : decode c_K_node 148 = .ok (.baload, 1) := by decide +kernel
theorem d_K_node_149 : decode c_K_node 149 = .ok (.ifCond .eq 7, 3) := by decide +kernel
theorem d_K_node_152 : decode c_K_node 152 = .ok (.iconst 1, 1) := by decide +kernel
theorem d_K_node_153 : decode c_K_node 153 = .ok (.goto 4, 3) := by decide +kernel
theorem d_K_node_156 : decode c_K_node 156 = .ok (.iconst 0, 1) := by decide +kernel
theorem d_K_node_157 : decode c_K_node 157 = .ok (.ireturn, 1) := by decide +kernel
theorem d_K_node_158 : decode c_K_node 158 = .ok (.aload_n 0, 1) := by decide +kernel
theorem d_K_node_159 : decode c_K_node 159 = .ok (.getfield 35, 3) := by decide +kernel
theorem d_K_node_162 : decode c_K_node 162 = .ok (.iload_n 1, 1) := by decide +kernel
theorem d_K_node_163 : decode c_K_node 163 = .ok (.iaload, 1) := by decide +kernel
theorem d_K_node_164 : decode c_K_node 164 = .ok (.ireturn, 1) := by decide +kernel
theorem d_K_node_165 : decode c_K_node 165 = .ok (.iload_n 3, 1) := by decide +kernel
theorem d_K_node_166 : decode c_K_node 166 = .ok (.ireturn, 1) := by decide +kernel
theorem d_K_node_167 : decode c_K_node 167 = .ok (.aload_n 0, 1) := by decide +kernel
theorem d_K_node_168 : decode c_K_node 168 = .ok (.getfield 26, 3) := by decide +kernel
theorem d_K_node_171 : decode c_K_node 171 = .ok (.iload_n 1, 1) := by decide +kernel
theorem d_K_node_172 : decode c_K_node 172 = .ok (.baload, 1) := by decide +kernel
theorem d_K_node_173 : decode c_K_node 173 = .ok (.ifCond .eq 7, 3) := by decide +kernel
theorem d_K_node_176 : decode c_K_node 176 = .ok (.iconst 0, 1) := by decide +kernel
theorem d_K_node_177 : decode c_K_node 177 = .ok (.goto 4, 3) := by decide +kernel
theorem d_K_node_180 : decode c_K_node 180 = .ok (.iconst 1, 1) := by decide +kernel
theorem d_K_node_181 : decode c_K_node 181 = .ok (.ireturn, 1) := by decide +kernel
theorem d_K_node_182 : decode c_K_node 182 = .ok (.iconst (-1), 1) := by decide +kernel
theorem d_K_node_183 : decode c_K_node 183 = .ok (.ireturn, 1) := by decide +kernel
theorem d_K_mirror_0 : decode c_K_mirror 0 = .ok (.iload_n 1, 1) := by decide +kernel
theorem d_K_mirror_1 : decode c_K_mirror 1 = .ok (.tableswitch 106 0 6 #[43, 56, 61, 66, 71, 88, 93], 43) := by decide +kernel
theorem d_K_mirror_44 : decode c_K_mirror 44 = .ok (.aload_n 0, 1) := by decide +kernel
theorem d_K_mirror_45 : decode c_K_mirror 45 = .ok (.getfield 48, 3) := by decide +kernel
theorem d_K_mirror_48 : decode c_K_mirror 48 = .ok (.ifCond .eq 7, 3) := by decide +kernel
theorem d_K_mirror_51 : decode c_K_mirror 51 = .ok (.iconst 1, 1) := by decide +kernel
theorem d_K_mirror_52 : decode c_K_mirror 52 = .ok (.goto 4, 3) := by decide +kernel
theorem d_K_mirror_55 : decode c_K_mirror 55 = .ok (.iconst 0, 1) := by decide +kernel
theorem d_K_mirror_56 : decode c_K_mirror 56 = .ok (.ireturn, 1) := by decide +kernel
theorem d_K_mirror_57 : decode c_K_mirror 57 = .ok (.aload_n 0, 1) := by decide +kernel
theorem d_K_mirror_58 : decode c_K_mirror 58 = .ok (.getfield 42, 3) := by decide +kernel
theorem d_K_mirror_61 : decode c_K_mirror 61 = .ok (.ireturn, 1) := by decide +kernel
theorem d_K_mirror_62 : decode c_K_mirror 62 = .ok (.aload_n 0, 1) := by decide +kernel
theorem d_K_mirror_63 : decode c_K_mirror 63 = .ok (.getfield 55, 3) := by decide +kernel
theorem d_K_mirror_66 : decode c_K_mirror 66 = .ok (.ireturn, 1) := by decide +kernel
theorem d_K_mirror_67 : decode c_K_mirror 67 = .ok (.aload_n 0, 1) := by decide +kernel
theorem d_K_mirror_68 : decode c_K_mirror 68 = .ok (.getfield 45, 3) := by decide +kernel
theorem d_K_mirror_71 : decode c_K_mirror 71 = .ok (.ireturn, 1) := by decide +kernel
theorem d_K_mirror_72 : decode c_K_mirror 72 = .ok (.aload_n 0, 1) := by decide +kernel
theorem d_K_mirror_73 : decode c_K_mirror 73 = .ok (.getfield 45, 3) := by decide +kernel
theorem d_K_mirror_76 : decode c_K_mirror 76 = .ok (.iconst 2, 1) := by decide +kernel
theorem d_K_mirror_77 : decode c_K_mirror 77 = .ok (.if_icmp .ne 7, 3) := by decide +kernel
theorem d_K_mirror_80 : decode c_K_mirror 80 = .ok (.iconst 0, 1) := by decide +kernel
theorem d_K_mirror_81 : decode c_K_mirror 81 = .ok (.goto 7, 3) := by decide +kernel
theorem d_K_mirror_84 : decode c_K_mirror 84 = .ok (.aload_n 0, 1) := by decide +kernel
theorem d_K_mirror_85 : decode c_K_mirror 85 = .ok (.getfield 117, 3) := by decide +kernel
theorem d_K_mirror_88 : decode c_K_mirror 88 = .ok (.ireturn, 1) := by decide +kernel
theorem d_K_mirror_89 : decode c_K_mirror 89 = .ok (.aload_n 0, 1) := by decide +kernel
theorem d_K_mirror_90 : decode c_K_mirror 90 = .ok (.getfield 67, 3) := by decide +kernel
theorem d_K_mirror_93 : decode c_K_mirror 93 = .ok (.ireturn, 1) := by decide +kernel
theorem d_K_mirror_94 : decode c_K_mirror 94 = .ok (.aload_n 0, 1) := by decide +kernel
theorem d_K_mirror_95 : decode c_K_mirror 95 = .ok (.getfield 52, 3) := by decide +kernel
theorem d_K_mirror_98 : decode c_K_mirror 98 = .ok (.ifCond .eq 7, 3) := by decide +kernel
theorem d_K_mirror_101 : decode c_K_mirror 101 = .ok (.iconst 1, 1) := by decide +kernel
theorem d_K_mirror_102 : decode c_K_mirror 102 = .ok (.goto 4, 3) := by decide +kernel
theorem d_K_mirror_105 : decode c_K_mirror 105 = .ok (.iconst 0, 1) := by decide +kernel
theorem d_K_mirror_106 : decode c_K_mirror 106 = .ok (.ireturn, 1) := by decide +kernel
theorem d_K_mirror_107 : decode c_K_mirror 107 = .ok (.iconst (-1), 1) := by decide +kernel
theorem d_K_mirror_108 : decode c_K_mirror 108 = .ok (.ireturn, 1) := by decide +kernel
theorem d_L_law_0 : decode c_L_law 0 = .ok (.new 7, 3) := by decide +kernel
theorem d_L_law_3 : decode c_L_law 3 = .ok (.dup, 1) := by decide +kernel
theorem d_L_law_4 : decode c_L_law 4 = .ok (.aload_n 0, 1) := by decide +kernel
theorem d_L_law_5 : decode c_L_law 5 = .ok (.iconst 0, 1) := by decide +kernel
theorem d_L_law_6 : decode c_L_law 6 = .ok (.invokestatic 9, 3) := by decide +kernel
theorem d_L_law_9 : decode c_L_law 9 = .ok (.invokespecial 15, 3) := by decide +kernel
theorem d_L_law_12 : decode c_L_law 12 = .ok (.astore_n 1, 1) := by decide +kernel
theorem d_L_law_13 : decode c_L_law 13 = .ok (.new 18, 3) := by decide +kernel
theorem d_L_law_16 : decode c_L_law 16 = .ok (.dup, 1) := by decide +kernel
theorem d_L_law_17 : decode c_L_law 17 = .ok (.aload_n 0, 1) := by decide +kernel
theorem d_L_law_18 : decode c_L_law 18 = .ok (.iconst 0, 1) := by decide +kernel
theorem d_L_law_19 : decode c_L_law 19 = .ok (.invokestatic 9, 3) := by decide +kernel
theorem d_L_law_22 : decode c_L_law 22 = .ok (.invokespecial 20, 3) := by decide +kernel
theorem d_L_law_25 : decode c_L_law 25 = .ok (.astore_n 2, 1) := by decide +kernel
theorem d_L_law_26 : decode c_L_law 26 = .ok (.iconst 1, 1) := by decide +kernel
theorem d_L_law_27 : decode c_L_law 27 = .ok (.istore_n 3, 1) := by decide +kernel
theorem d_L_law_28 : decode c_L_law 28 = .ok (.iload_n 3, 1) := by decide +kernel
theorem d_L_law_29 : decode c_L_law 29 = .ok (.aload_n 0, 1) := by decide +kernel
theorem d_L_law_30 : decode c_L_law 30 = .ok (.arraylength, 1) := by decide +kernel
theorem d_L_law_31 : decode c_L_law 31 = .ok (.iconst 4, 1) := by decide +kernel
theorem d_L_law_32 : decode c_L_law 32 = .ok (.isub, 1) := by decide +kernel
theorem d_L_law_33 : decode c_L_law 33 = .ok (.if_icmp .gt 614, 3) := by decide +kernel
theorem d_L_law_36 : decode c_L_law 36 = .ok (.aload_n 0, 1) := by decide +kernel
theorem d_L_law_37 : decode c_L_law 37 = .ok (.iload_n 3, 1) := by decide +kernel
theorem d_L_law_38 : decode c_L_law 38 = .ok (.iaload, 1) := by decide +kernel
theorem d_L_law_39 : decode c_L_law 39 = .ok (.bipush 31, 2) := by decide +kernel
theorem d_L_law_41 : decode c_L_law 41 = .ok (.iand, 1) := by decide +kernel
theorem d_L_law_42 : decode c_L_law 42 = .ok (.tableswitch 599 0 16 #[82, 115, 148, 172, 205, 228, 251, 290, 339, 352, 375, 424, 447, 460, 483, 543, 576], 82) := by decide +kernel
theorem d_L_law_124 : decode c_L_law 124 = .ok (.aload_n 1, 1) := by decide +kernel
theorem d_L_law_125 : decode c_L_law 125 = .ok (.aload_n 0, 1) := by decide +kernel
theorem d_L_law_126 : decode c_L_law 126 = .ok (.iload_n 3, 1) := by decide +kernel
theorem d_L_law_127 : decode c_L_law 127 = .ok (.iconst 1, 1) := by decide +kernel
theorem d_L_law_128 : decode c_L_law 128 = .ok (.iadd, 1) := by decide +kernel
theorem d_L_law_129 : decode c_L_law 129 = .ok (.iaload, 1) := by decide +kernel
theorem d_L_law_130 : decode c_L_law 130 = .ok (.aload_n 0, 1) := by decide +kernel
theorem d_L_law_131 : decode c_L_law 131 = .ok (.iload_n 3, 1) := by decide +kernel
theorem d_L_law_132 : decode c_L_law 132 = .ok (.iconst 2, 1) := by decide +kernel
theorem d_L_law_133 : decode c_L_law 133 = .ok (.iadd, 1) := by decide +kernel
theorem d_L_law_134 : decode c_L_law 134 = .ok (.iaload, 1) := by decide +kernel
theorem d_L_law_135 : decode c_L_law 135 = .ok (.invokevirtual 21, 3) := by decide +kernel
theorem d_L_law_138 : decode c_L_law 138 = .ok (.aload_n 2, 1) := by decide +kernel
theorem d_L_law_139 : decode c_L_law 139 = .ok (.aload_n 0, 1) := by decide +kernel
theorem d_L_law_140 : decode c_L_law 140 = .ok (.iload_n 3, 1) := by decide +kernel
theorem d_L_law_141 : decode c_L_law 141 = .ok (.iconst 1, 1) := by decide +kernel
theorem d_L_law_142 : decode c_L_law 142 = .ok (.iadd, 1) := by decide +kernel
theorem d_L_law_143 : decode c_L_law 143 = .ok (.iaload, 1) := by decide +kernel
theorem d_L_law_144 : decode c_L_law 144 = .ok (.aload_n 0, 1) := by decide +kernel
theorem d_L_law_145 : decode c_L_law 145 = .ok (.iload_n 3, 1) := by decide +kernel
theorem d_L_law_146 : decode c_L_law 146 = .ok (.iconst 2, 1) := by decide +kernel
theorem d_L_law_147 : decode c_L_law 147 = .ok (.iadd, 1) := by decide +kernel
theorem d_L_law_148 : decode c_L_law 148 = .ok (.iaload, 1) := by decide +kernel
theorem d_L_law_149 : decode c_L_law 149 = .ok (.invokevirtual 25, 3) := by decide +kernel
theorem d_L_law_152 : decode c_L_law 152 = .ok (.if_icmp .eq 489, 3) := by decide +kernel
theorem d_L_law_155 : decode c_L_law 155 = .ok (.iconst 0, 1) := by decide +kernel
theorem d_L_law_156 : decode c_L_law 156 = .ok (.ireturn, 1) := by decide +kernel
theorem d_L_law_157 : decode c_L_law 157 = .ok (.aload_n 1, 1) := by decide +kernel
theorem d_L_law_158 : decode c_L_law 158 = .ok (.aload_n 0, 1) := by decide +kernel
theorem d_L_law_159 : decode c_L_law 159 = .ok (.iload_n 3, 1) := by decide +kernel
theorem d_L_law_160 : decode c_L_law 160 = .ok (.iconst 1, 1) := by decide +kernel
theorem d_L_law_161 : decode c_L_law 161 = .ok (.iadd, 1) := by decide +kernel
theorem d_L_law_162 : decode c_L_law 162 = .ok (.iaload, 1) := by decide +kernel
theorem d_L_law_163 : decode c_L_law 163 = .ok (.aload_n 0, 1) := by decide +kernel
theorem d_L_law_164 : decode c_L_law 164 = .ok (.iload_n 3, 1) := by decide +kernel
theorem d_L_law_165 : decode c_L_law 165 = .ok (.iconst 2, 1) := by decide +kernel
theorem d_L_law_166 : decode c_L_law 166 = .ok (.iadd, 1) := by decide +kernel
theorem d_L_law_167 : decode c_L_law 167 = .ok (.iaload, 1) := by decide +kernel
theorem d_L_law_168 : decode c_L_law 168 = .ok (.invokevirtual 26, 3) := by decide +kernel
theorem d_L_law_171 : decode c_L_law 171 = .ok (.aload_n 2, 1) := by decide +kernel
theorem d_L_law_172 : decode c_L_law 172 = .ok (.aload_n 0, 1) := by decide +kernel
theorem d_L_law_173 : decode c_L_law 173 = .ok (.iload_n 3, 1) := by decide +kernel
theorem d_L_law_174 : decode c_L_law 174 = .ok (.iconst 1, 1) := by decide +kernel
theorem d_L_law_175 : decode c_L_law 175 = .ok (.iadd, 1) := by decide +kernel
theorem d_L_law_176 : decode c_L_law 176 = .ok (.iaload, 1) := by decide +kernel
theorem d_L_law_177 : decode c_L_law 177 = .ok (.aload_n 0, 1) := by decide +kernel
theorem d_L_law_178 : decode c_L_law 178 = .ok (.iload_n 3, 1) := by decide +kernel
theorem d_L_law_179 : decode c_L_law 179 = .ok (.iconst 2, 1) := by decide +kernel
theorem d_L_law_180 : decode c_L_law 180 = .ok (.iadd, 1) := by decide +kernel
theorem d_L_law_181 : decode c_L_law 181 = .ok (.iaload, 1) := by decide +kernel
theorem d_L_law_182 : decode c_L_law 182 = .ok (.invokevirtual 29, 3) := by decide +kernel
theorem d_L_law_185 : decode c_L_law 185 = .ok (.if_icmp .eq 456, 3) := by decide +kernel
theorem d_L_law_188 : decode c_L_law 188 = .ok (.iconst 0, 1) := by decide +kernel
theorem d_L_law_189 : decode c_L_law 189 = .ok (.ireturn, 1) := by decide +kernel
theorem d_L_law_190 : decode c_L_law 190 = .ok (.aload_n 1, 1) := by decide +kernel
theorem d_L_law_191 : decode c_L_law 191 = .ok (.aload_n 0, 1) := by decide +kernel
theorem d_L_law_192 : decode c_L_law 192 = .ok (.iload_n 3, 1) := by decide +kernel
theorem d_L_law_193 : decode c_L_law 193 = .ok (.iconst 1, 1) := by decide +kernel
theorem d_L_law_194 : decode c_L_law 194 = .ok (.iadd, 1) := by decide +kernel
theorem d_L_law_195 : decode c_L_law 195 = .ok (.iaload, 1) := by decide +kernel
theorem d_L_law_196 : decode c_L_law 196 = .ok (.invokevirtual 30, 3) := by decide +kernel
theorem d_L_law_199 : decode c_L_law 199 = .ok (.aload_n 2, 1) := by decide +kernel
theorem d_L_law_200 : decode c_L_law 200 = .ok (.aload_n 0, 1) := by decide +kernel
theorem d_L_law_201 : decode c_L_law 201 = .ok (.iload_n 3, 1) := by decide +kernel
theorem d_L_law_202 : decode c_L_law 202 = .ok (.iconst 1, 1) := by decide +kernel
theorem d_L_law_203 : decode c_L_law 203 = .ok (.iadd, 1) := by decide +kernel
theorem d_L_law_204 : decode c_L_law 204 = .ok (.iaload, 1) := by decide +kernel
theorem d_L_law_205 : decode c_L_law 205 = .ok (.invokevirtual 33, 3) := by decide +kernel
theorem d_L_law_208 : decode c_L_law 208 = .ok (.lcmp, 1) := by decide +kernel
theorem d_L_law_209 : decode c_L_law 209 = .ok (.ifCond .eq 432, 3) := by decide +kernel
theorem d_L_law_212 : decode c_L_law 212 = .ok (.iconst 0, 1) := by decide +kernel
theorem d_L_law_213 : decode c_L_law 213 = .ok (.ireturn, 1) := by decide +kernel
theorem d_L_law_214 : decode c_L_law 214 = .ok (.aload_n 1, 1) := by decide +kernel
theorem d_L_law_215 : decode c_L_law 215 = .ok (.aload_n 0, 1) := by decide +kernel
theorem d_L_law_216 : decode c_L_law 216 = .ok (.iload_n 3, 1) := by decide +kernel
theorem d_L_law_217 : decode c_L_law 217 = .ok (.iconst 1, 1) := by decide +kernel
theorem d_L_law_218 : decode c_L_law 218 = .ok (.iadd, 1) := by decide +kernel
theorem d_L_law_219 : decode c_L_law 219 = .ok (.iaload, 1) := by decide +kernel
theorem d_L_law_220 : decode c_L_law 220 = .ok (.aload_n 0, 1) := by decide +kernel
theorem d_L_law_221 : decode c_L_law 221 = .ok (.iload_n 3, 1) := by decide +kernel
theorem d_L_law_222 : decode c_L_law 222 = .ok (.iconst 2, 1) := by decide +kernel
theorem d_L_law_223 : decode c_L_law 223 = .ok (.iadd, 1) := by decide +kernel
theorem d_L_law_224 : decode c_L_law 224 = .ok (.iaload, 1) := by decide +kernel
theorem d_L_law_225 : decode c_L_law 225 = .ok (.invokevirtual 34, 3) := by decide +kernel
theorem d_L_law_228 : decode c_L_law 228 = .ok (.aload_n 2, 1) := by decide +kernel
theorem d_L_law_229 : decode c_L_law 229 = .ok (.aload_n 0, 1) := by decide +kernel
theorem d_L_law_230 : decode c_L_law 230 = .ok (.iload_n 3, 1) := by decide +kernel
theorem d_L_law_231 : decode c_L_law 231 = .ok (.iconst 1, 1) := by decide +kernel
theorem d_L_law_232 : decode c_L_law 232 = .ok (.iadd, 1) := by decide +kernel
theorem d_L_law_233 : decode c_L_law 233 = .ok (.iaload, 1) := by decide +kernel
theorem d_L_law_234 : decode c_L_law 234 = .ok (.aload_n 0, 1) := by decide +kernel
theorem d_L_law_235 : decode c_L_law 235 = .ok (.iload_n 3, 1) := by decide +kernel
theorem d_L_law_236 : decode c_L_law 236 = .ok (.iconst 2, 1) := by decide +kernel
theorem d_L_law_237 : decode c_L_law 237 = .ok (.iadd, 1) := by decide +kernel
theorem d_L_law_238 : decode c_L_law 238 = .ok (.iaload, 1) := by decide +kernel
theorem d_L_law_239 : decode c_L_law 239 = .ok (.invokevirtual 37, 3) := by decide +kernel
theorem d_L_law_242 : decode c_L_law 242 = .ok (.if_icmp .eq 399, 3) := by decide +kernel
theorem d_L_law_245 : decode c_L_law 245 = .ok (.iconst 0, 1) := by decide +kernel
theorem d_L_law_246 : decode c_L_law 246 = .ok (.ireturn, 1) := by decide +kernel
theorem d_L_law_247 : decode c_L_law 247 = .ok (.aload_n 1, 1) := by decide +kernel
theorem d_L_law_248 : decode c_L_law 248 = .ok (.aload_n 0, 1) := by decide +kernel
theorem d_L_law_249 : decode c_L_law 249 = .ok (.iload_n 3, 1) := by decide +kernel
theorem d_L_law_250 : decode c_L_law 250 = .ok (.iconst 1, 1) := by decide +kernel
theorem d_L_law_251 : decode c_L_law 251 = .ok (.iadd, 1) := by decide +kernel
theorem d_L_law_252 : decode c_L_law 252 = .ok (.iaload, 1) := by decide +kernel
theorem d_L_law_253 : decode c_L_law 253 = .ok (.invokevirtual 38, 3) := by decide +kernel
theorem d_L_law_256 : decode c_L_law 256 = .ok (.aload_n 2, 1) := by decide +kernel
theorem d_L_law_257 : decode c_L_law 257 = .ok (.aload_n 0, 1) := by decide +kernel
theorem d_L_law_258 : decode c_L_law 258 = .ok (.iload_n 3, 1) := by decide +kernel
theorem d_L_law_259 : decode c_L_law 259 = .ok (.iconst 1, 1) := by decide +kernel
theorem d_L_law_260 : decode c_L_law 260 = .ok (.iadd, 1) := by decide +kernel
theorem d_L_law_261 : decode c_L_law 261 = .ok (.iaload, 1) := by decide +kernel
theorem d_L_law_262 : decode c_L_law 262 = .ok (.invokevirtual 42, 3) := by decide +kernel
theorem d_L_law_265 : decode c_L_law 265 = .ok (.if_icmp .eq 376, 3) := by decide +kernel
theorem d_L_law_268 : decode c_L_law 268 = .ok (.iconst 0, 1) := by decide +kernel
theorem d_L_law_269 : decode c_L_law 269 = .ok (.ireturn, 1) := by decide +kernel
theorem d_L_law_270 : decode c_L_law 270 = .ok (.aload_n 1, 1) := by decide +kernel
theorem d_L_law_271 : decode c_L_law 271 = .ok (.aload_n 0, 1) := by decide +kernel
theorem d_L_law_272 : decode c_L_law 272 = .ok (.iload_n 3, 1) := by decide +kernel
theorem d_L_law_273 : decode c_L_law 273 = .ok (.iconst 1, 1) := by decide +kernel
theorem d_L_law_274 : decode c_L_law 274 = .ok (.iadd, 1) := by decide +kernel
theorem d_L_law_275 : decode c_L_law 275 = .ok (.iaload, 1) := by decide +kernel
theorem d_L_law_276 : decode c_L_law 276 = .ok (.invokevirtual 43, 3) := by decide +kernel
theorem d_L_law_279 : decode c_L_law 279 = .ok (.aload_n 2, 1) := by decide +kernel
theorem d_L_law_280 : decode c_L_law 280 = .ok (.aload_n 0, 1) := by decide +kernel
theorem d_L_law_281 : decode c_L_law 281 = .ok (.iload_n 3, 1) := by decide +kernel
theorem d_L_law_282 : decode c_L_law 282 = .ok (.iconst 1, 1) := by decide +kernel
theorem d_L_law_283 : decode c_L_law 283 = .ok (.iadd, 1) := by decide +kernel
theorem d_L_law_284 : decode c_L_law 284 = .ok (.iaload, 1) := by decide +kernel
theorem d_L_law_285 : decode c_L_law 285 = .ok (.invokevirtual 46, 3) := by decide +kernel
theorem d_L_law_288 : decode c_L_law 288 = .ok (.if_icmp .eq 353, 3) := by decide +kernel
theorem d_L_law_291 : decode c_L_law 291 = .ok (.iconst 0, 1) := by decide +kernel
theorem d_L_law_292 : decode c_L_law 292 = .ok (.ireturn, 1) := by decide +kernel
theorem d_L_law_293 : decode c_L_law 293 = .ok (.aload_n 1, 1) := by decide +kernel
theorem d_L_law_294 : decode c_L_law 294 = .ok (.aload_n 0, 1) := by decide +kernel
theorem d_L_law_295 : decode c_L_law 295 = .ok (.iload_n 3, 1) := by decide +kernel
theorem d_L_law_296 : decode c_L_law 296 = .ok (.iconst 1, 1) := by decide +kernel
theorem d_L_law_297 : decode c_L_law 297 = .ok (.iadd, 1) := by decide +kernel
theorem d_L_law_298 : decode c_L_law 298 = .ok (.iaload, 1) := by decide +kernel
theorem d_L_law_299 : decode c_L_law 299 = .ok (.ifCond .eq 7, 3) := by decide +kernel
theorem d_L_law_302 : decode c_L_law 302 = .ok (.iconst 1, 1) := by decide +kernel
theorem d_L_law_303 : decode c_L_law 303 = .ok (.goto 4, 3) := by decide +kernel
theorem d_L_law_306 : decode c_L_law 306 = .ok (.iconst 0, 1) := by decide +kernel
theorem d_L_law_307 : decode c_L_law 307 = .ok (.invokevirtual 47, 3) := by decide +kernel
theorem d_L_law_310 : decode c_L_law 310 = .ok (.aload_n 2, 1) := by decide +kernel
theorem d_L_law_311 : decode c_L_law 311 = .ok (.aload_n 0, 1) := by decide +kernel
theorem d_L_law_312 : decode c_L_law 312 = .ok (.iload_n 3, 1) := by decide +kernel
theorem d_L_law_313 : decode c_L_law 313 = .ok (.iconst 1, 1) := by decide +kernel
theorem d_L_law_314 : decode c_L_law 314 = .ok (.iadd, 1) := by decide +kernel
theorem d_L_law_315 : decode c_L_law 315 = .ok (.iaload, 1) := by decide +kernel
theorem d_L_law_316 : decode c_L_law 316 = .ok (.ifCond .eq 7, 3) := by decide +kernel
theorem d_L_law_319 : decode c_L_law 319 = .ok (.iconst 1, 1) := by decide +kernel
theorem d_L_law_320 : decode c_L_law 320 = .ok (.goto 4, 3) := by decide +kernel
theorem d_L_law_323 : decode c_L_law 323 = .ok (.iconst 0, 1) := by decide +kernel
theorem d_L_law_324 : decode c_L_law 324 = .ok (.invokevirtual 51, 3) := by decide +kernel
theorem d_L_law_327 : decode c_L_law 327 = .ok (.if_icmp .eq 314, 3) := by decide +kernel
theorem d_L_law_330 : decode c_L_law 330 = .ok (.iconst 0, 1) := by decide +kernel
theorem d_L_law_331 : decode c_L_law 331 = .ok (.ireturn, 1) := by decide +kernel
theorem d_L_law_332 : decode c_L_law 332 = .ok (.aload_n 1, 1) := by decide +kernel
theorem d_L_law_333 : decode c_L_law 333 = .ok (.aload_n 0, 1) := by decide +kernel
theorem d_L_law_334 : decode c_L_law 334 = .ok (.iload_n 3, 1) := by decide +kernel
theorem d_L_law_335 : decode c_L_law 335 = .ok (.iconst 1, 1) := by decide +kernel
theorem d_L_law_336 : decode c_L_law 336 = .ok (.iadd, 1) := by decide +kernel
theorem d_L_law_337 : decode c_L_law 337 = .ok (.iaload, 1) := by decide +kernel
theorem d_L_law_338 : decode c_L_law 338 = .ok (.aload_n 0, 1) := by decide +kernel
theorem d_L_law_339 : decode c_L_law 339 = .ok (.iload_n 3, 1) := by decide +kernel
theorem d_L_law_340 : decode c_L_law 340 = .ok (.iconst 2, 1) := by decide +kernel
theorem d_L_law_341 : decode c_L_law 341 = .ok (.iadd, 1) := by decide +kernel
theorem d_L_law_342 : decode c_L_law 342 = .ok (.iaload, 1) := by decide +kernel
theorem d_L_law_343 : decode c_L_law 343 = .ok (.ifCond .eq 7, 3) := by decide +kernel
theorem d_L_law_346 : decode c_L_law 346 = .ok (.iconst 1, 1) := by decide +kernel
theorem d_L_law_347 : decode c_L_law 347 = .ok (.goto 4, 3) := by decide +kernel
theorem d_L_law_350 : decode c_L_law 350 = .ok (.iconst 0, 1) := by decide +kernel
theorem d_L_law_351 : decode c_L_law 351 = .ok (.invokevirtual 52, 3) := by decide +kernel
theorem d_L_law_354 : decode c_L_law 354 = .ok (.aload_n 2, 1) := by decide +kernel
theorem d_L_law_355 : decode c_L_law 355 = .ok (.aload_n 0, 1) := by decide +kernel
theorem d_L_law_356 : decode c_L_law 356 = .ok (.iload_n 3, 1) := by decide +kernel
theorem d_L_law_357 : decode c_L_law 357 = .ok (.iconst 1, 1) := by decide +kernel
theorem d_L_law_358 : decode c_L_law 358 = .ok (.iadd, 1) := by decide +kernel
theorem d_L_law_359 : decode c_L_law 359 = .ok (.iaload, 1) := by decide +kernel
theorem d_L_law_360 : decode c_L_law 360 = .ok (.aload_n 0, 1) := by decide +kernel
theorem d_L_law_361 : decode c_L_law 361 = .ok (.iload_n 3, 1) := by decide +kernel
theorem d_L_law_362 : decode c_L_law 362 = .ok (.iconst 2, 1) := by decide +kernel
theorem d_L_law_363 : decode c_L_law 363 = .ok (.iadd, 1) := by decide +kernel
theorem d_L_law_364 : decode c_L_law 364 = .ok (.iaload, 1) := by decide +kernel
theorem d_L_law_365 : decode c_L_law 365 = .ok (.ifCond .eq 7, 3) := by decide +kernel
theorem d_L_law_368 : decode c_L_law 368 = .ok (.iconst 1, 1) := by decide +kernel
theorem d_L_law_369 : decode c_L_law 369 = .ok (.goto 4, 3) := by decide +kernel
theorem d_L_law_372 : decode c_L_law 372 = .ok (.iconst 0, 1) := by decide +kernel
theorem d_L_law_373 : decode c_L_law 373 = .ok (.invokevirtual 56, 3) := by decide +kernel
theorem d_L_law_376 : decode c_L_law 376 = .ok (.if_icmp .eq 265, 3) := by decide +kernel
theorem d_L_law_379 : decode c_L_law 379 = .ok (.iconst 0, 1) := by decide +kernel
theorem d_L_law_380 : decode c_L_law 380 = .ok (.ireturn, 1) := by decide +kernel
theorem d_L_law_381 : decode c_L_law 381 = .ok (.aload_n 1, 1) := by decide +kernel
theorem d_L_law_382 : decode c_L_law 382 = .ok (.invokevirtual 57, 3) := by decide +kernel
theorem d_L_law_385 : decode c_L_law 385 = .ok (.aload_n 2, 1) := by decide +kernel
theorem d_L_law_386 : decode c_L_law 386 = .ok (.invokevirtual 61, 3) := by decide +kernel
theorem d_L_law_389 : decode c_L_law 389 = .ok (.if_icmp .eq 252, 3) := by decide +kernel
theorem d_L_law_392 : decode c_L_law 392 = .ok (.iconst 0, 1) := by decide +kernel
theorem d_L_law_393 : decode c_L_law 393 = .ok (.ireturn, 1) := by decide +kernel
theorem d_L_law_394 : decode c_L_law 394 = .ok (.aload_n 1, 1) := by decide +kernel
theorem d_L_law_395 : decode c_L_law 395 = .ok (.aload_n 0, 1) := by decide +kernel
theorem d_L_law_396 : decode c_L_law 396 = .ok (.iload_n 3, 1) := by decide +kernel
theorem d_L_law_397 : decode c_L_law 397 = .ok (.iconst 1, 1) := by decide +kernel
theorem d_L_law_398 : decode c_L_law 398 = .ok (.iadd, 1) := by decide +kernel
theorem d_L_law_399 : decode c_L_law 399 = .ok (.iaload, 1) := by decide +kernel
theorem d_L_law_400 : decode c_L_law 400 = .ok (.invokevirtual 62, 3) := by decide +kernel
theorem d_L_law_403 : decode c_L_law 403 = .ok (.aload_n 2, 1) := by decide +kernel
theorem d_L_law_404 : decode c_L_law 404 = .ok (.aload_n 0, 1) := by decide +kernel
theorem d_L_law_405 : decode c_L_law 405 = .ok (.iload_n 3, 1) := by decide +kernel
theorem d_L_law_406 : decode c_L_law 406 = .ok (.iconst 1, 1) := by decide +kernel
theorem d_L_law_407 : decode c_L_law 407 = .ok (.iadd, 1) := by decide +kernel
theorem d_L_law_408 : decode c_L_law 408 = .ok (.iaload, 1) := by decide +kernel
theorem d_L_law_409 : decode c_L_law 409 = .ok (.invokevirtual 65, 3) := by decide +kernel
theorem d_L_law_412 : decode c_L_law 412 = .ok (.if_icmp .eq 229, 3) := by decide +kernel
theorem d_L_law_415 : decode c_L_law 415 = .ok (.iconst 0, 1) := by decide +kernel
theorem d_L_law_416 : decode c_L_law 416 = .ok (.ireturn, 1) := by decide +kernel
theorem d_L_law_417 : decode c_L_law 417 = .ok (.aload_n 1, 1) := by decide +kernel
theorem d_L_law_418 : decode c_L_law 418 = .ok (.aload_n 0, 1) := by decide +kernel
theorem d_L_law_419 : decode c_L_law 419 = .ok (.iload_n 3, 1) := by decide +kernel
theorem d_L_law_420 : decode c_L_law 420 = .ok (.iconst 1, 1) := by decide +kernel
theorem d_L_law_421 : decode c_L_law 421 = .ok (.iadd, 1) := by decide +kernel
theorem d_L_law_422 : decode c_L_law 422 = .ok (.iaload, 1) := by decide +kernel
theorem d_L_law_423 : decode c_L_law 423 = .ok (.aload_n 0, 1) := by decide +kernel
theorem d_L_law_424 : decode c_L_law 424 = .ok (.iload_n 3, 1) := by decide +kernel
theorem d_L_law_425 : decode c_L_law 425 = .ok (.iconst 2, 1) := by decide +kernel
theorem d_L_law_426 : decode c_L_law 426 = .ok (.iadd, 1) := by decide +kernel
theorem d_L_law_427 : decode c_L_law 427 = .ok (.iaload, 1) := by decide +kernel
theorem d_L_law_428 : decode c_L_law 428 = .ok (.ifCond .eq 7, 3) := by decide +kernel
theorem d_L_law_431 : decode c_L_law 431 = .ok (.iconst 1, 1) := by decide +kernel
theorem d_L_law_432 : decode c_L_law 432 = .ok (.goto 4, 3) := by decide +kernel
theorem d_L_law_435 : decode c_L_law 435 = .ok (.iconst 0, 1) := by decide +kernel
theorem d_L_law_436 : decode c_L_law 436 = .ok (.invokevirtual 66, 3) := by decide +kernel
theorem d_L_law_439 : decode c_L_law 439 = .ok (.aload_n 2, 1) := by decide +kernel
theorem d_L_law_440 : decode c_L_law 440 = .ok (.aload_n 0, 1) := by decide +kernel
theorem d_L_law_441 : decode c_L_law 441 = .ok (.iload_n 3, 1) := by decide +kernel
theorem d_L_law_442 : decode c_L_law 442 = .ok (.iconst 1, 1) := by decide +kernel
theorem d_L_law_443 : decode c_L_law 443 = .ok (.iadd, 1) := by decide +kernel
theorem d_L_law_444 : decode c_L_law 444 = .ok (.iaload, 1) := by decide +kernel
theorem d_L_law_445 : decode c_L_law 445 = .ok (.aload_n 0, 1) := by decide +kernel
theorem d_L_law_446 : decode c_L_law 446 = .ok (.iload_n 3, 1) := by decide +kernel
theorem d_L_law_447 : decode c_L_law 447 = .ok (.iconst 2, 1) := by decide +kernel
theorem d_L_law_448 : decode c_L_law 448 = .ok (.iadd, 1) := by decide +kernel
theorem d_L_law_449 : decode c_L_law 449 = .ok (.iaload, 1) := by decide +kernel
theorem d_L_law_450 : decode c_L_law 450 = .ok (.ifCond .eq 7, 3) := by decide +kernel
theorem d_L_law_453 : decode c_L_law 453 = .ok (.iconst 1, 1) := by decide +kernel
theorem d_L_law_454 : decode c_L_law 454 = .ok (.goto 4, 3) := by decide +kernel
theorem d_L_law_457 : decode c_L_law 457 = .ok (.iconst 0, 1) := by decide +kernel
theorem d_L_law_458 : decode c_L_law 458 = .ok (.invokevirtual 69, 3) := by decide +kernel
theorem d_L_law_461 : decode c_L_law 461 = .ok (.if_icmp .eq 180, 3) := by decide +kernel
theorem d_L_law_464 : decode c_L_law 464 = .ok (.iconst 0, 1) := by decide +kernel
theorem d_L_law_465 : decode c_L_law 465 = .ok (.ireturn, 1) := by decide +kernel
theorem d_L_law_466 : decode c_L_law 466 = .ok (.aload_n 1, 1) := by decide +kernel
theorem d_L_law_467 : decode c_L_law 467 = .ok (.aload_n 0, 1) := by decide +kernel
theorem d_L_law_468 : decode c_L_law 468 = .ok (.iload_n 3, 1) := by decide +kernel
theorem d_L_law_469 : decode c_L_law 469 = .ok (.iconst 1, 1) := by decide +kernel
theorem d_L_law_470 : decode c_L_law 470 = .ok (.iadd, 1) := by decide +kernel
theorem d_L_law_471 : decode c_L_law 471 = .ok (.iaload, 1) := by decide +kernel
theorem d_L_law_472 : decode c_L_law 472 = .ok (.invokevirtual 70, 3) := by decide +kernel
theorem d_L_law_475 : decode c_L_law 475 = .ok (.aload_n 2, 1) := by decide +kernel
theorem d_L_law_476 : decode c_L_law 476 = .ok (.aload_n 0, 1) := by decide +kernel
theorem d_L_law_477 : decode c_L_law 477 = .ok (.iload_n 3, 1) := by decide +kernel
theorem d_L_law_478 : decode c_L_law 478 = .ok (.iconst 1, 1) := by decide +kernel
theorem d_L_law_479 : decode c_L_law 479 = .ok (.iadd, 1) := by decide +kernel
theorem d_L_law_480 : decode c_L_law 480 = .ok (.iaload, 1) := by decide +kernel
theorem d_L_law_481 : decode c_L_law 481 = .ok (.invokevirtual 73, 3) := by decide +kernel
theorem d_L_law_484 : decode c_L_law 484 = .ok (.if_icmp .eq 157, 3) := by decide +kernel
theorem d_L_law_487 : decode c_L_law 487 = .ok (.iconst 0, 1) := by decide +kernel
theorem d_L_law_488 : decode c_L_law 488 = .ok (.ireturn, 1) := by decide +kernel
theorem d_L_law_489 : decode c_L_law 489 = .ok (.aload_n 1, 1) := by decide +kernel
theorem d_L_law_490 : decode c_L_law 490 = .ok (.invokevirtual 74, 3) := by decide +kernel
theorem d_L_law_493 : decode c_L_law 493 = .ok (.aload_n 2, 1) := by decide +kernel
theorem d_L_law_494 : decode c_L_law 494 = .ok (.invokevirtual 77, 3) := by decide +kernel
theorem d_L_law_497 : decode c_L_law 497 = .ok (.if_icmp .eq 144, 3) := by decide +kernel
theorem d_L_law_500 : decode c_L_law 500 = .ok (.iconst 0, 1) := by decide +kernel
theorem d_L_law_501 : decode c_L_law 501 = .ok (.ireturn, 1) := by decide +kernel
theorem d_L_law_502 : decode c_L_law 502 = .ok (.aload_n 1, 1) := by decide +kernel
theorem d_L_law_503 : decode c_L_law 503 = .ok (.aload_n 0, 1) := by decide +kernel
theorem d_L_law_504 : decode c_L_law 504 = .ok (.iload_n 3, 1) := by decide +kernel
theorem d_L_law_505 : decode c_L_law 505 = .ok (.iconst 1, 1) := by decide +kernel
theorem d_L_law_506 : decode c_L_law 506 = .ok (.iadd, 1) := by decide +kernel
theorem d_L_law_507 : decode c_L_law 507 = .ok (.iaload, 1) := by decide +kernel
theorem d_L_law_508 : decode c_L_law 508 = .ok (.invokevirtual 78, 3) := by decide +kernel
theorem d_L_law_511 : decode c_L_law 511 = .ok (.aload_n 2, 1) := by decide +kernel
theorem d_L_law_512 : decode c_L_law 512 = .ok (.aload_n 0, 1) := by decide +kernel
theorem d_L_law_513 : decode c_L_law 513 = .ok (.iload_n 3, 1) := by decide +kernel
theorem d_L_law_514 : decode c_L_law 514 = .ok (.iconst 1, 1) := by decide +kernel
theorem d_L_law_515 : decode c_L_law 515 = .ok (.iadd, 1) := by decide +kernel
theorem d_L_law_516 : decode c_L_law 516 = .ok (.iaload, 1) := by decide +kernel
theorem d_L_law_517 : decode c_L_law 517 = .ok (.invokevirtual 81, 3) := by decide +kernel
theorem d_L_law_520 : decode c_L_law 520 = .ok (.if_icmp .eq 121, 3) := by decide +kernel
theorem d_L_law_523 : decode c_L_law 523 = .ok (.iconst 0, 1) := by decide +kernel
theorem d_L_law_524 : decode c_L_law 524 = .ok (.ireturn, 1) := by decide +kernel
theorem d_L_law_525 : decode c_L_law 525 = .ok (.aload_n 1, 1) := by decide +kernel
theorem d_L_law_526 : decode c_L_law 526 = .ok (.aload_n 0, 1) := by decide +kernel
theorem d_L_law_527 : decode c_L_law 527 = .ok (.iload_n 3, 1) := by decide +kernel
theorem d_L_law_528 : decode c_L_law 528 = .ok (.iconst 1, 1) := by decide +kernel
theorem d_L_law_529 : decode c_L_law 529 = .ok (.iadd, 1) := by decide +kernel
theorem d_L_law_530 : decode c_L_law 530 = .ok (.iaload, 1) := by decide +kernel
theorem d_L_law_531 : decode c_L_law 531 = .ok (.aload_n 0, 1) := by decide +kernel
theorem d_L_law_532 : decode c_L_law 532 = .ok (.iload_n 3, 1) := by decide +kernel
theorem d_L_law_533 : decode c_L_law 533 = .ok (.iconst 2, 1) := by decide +kernel
theorem d_L_law_534 : decode c_L_law 534 = .ok (.iadd, 1) := by decide +kernel
theorem d_L_law_535 : decode c_L_law 535 = .ok (.iaload, 1) := by decide +kernel
theorem d_L_law_536 : decode c_L_law 536 = .ok (.aload_n 0, 1) := by decide +kernel
theorem d_L_law_537 : decode c_L_law 537 = .ok (.iload_n 3, 1) := by decide +kernel
theorem d_L_law_538 : decode c_L_law 538 = .ok (.iconst 3, 1) := by decide +kernel
theorem d_L_law_539 : decode c_L_law 539 = .ok (.iadd, 1) := by decide +kernel
theorem d_L_law_540 : decode c_L_law 540 = .ok (.iaload, 1) := by decide +kernel
theorem d_L_law_541 : decode c_L_law 541 = .ok (.ifCond .eq 7, 3) := by decide +kernel
theorem d_L_law_544 : decode c_L_law 544 = .ok (.iconst 1, 1) := by decide +kernel
theorem d_L_law_545 : decode c_L_law 545 = .ok (.goto 4, 3) := by decide +kernel
theorem d_L_law_548 : decode c_L_law 548 = .ok (.iconst 0, 1) := by decide +kernel
theorem d_L_law_549 : decode c_L_law 549 = .ok (.invokevirtual 82, 3) := by decide +kernel
theorem d_L_law_552 : decode c_L_law 552 = .ok (.aload_n 2, 1) := by decide +kernel
theorem d_L_law_553 : decode c_L_law 553 = .ok (.aload_n 0, 1) := by decide +kernel
theorem d_L_law_554 : decode c_L_law 554 = .ok (.iload_n 3, 1) := by decide +kernel
theorem d_L_law_555 : decode c_L_law 555 = .ok (.iconst 1, 1) := by decide +kernel
theorem d_L_law_556 : decode c_L_law 556 = .ok (.iadd, 1) := by decide +kernel
theorem d_L_law_557 : decode c_L_law 557 = .ok (.iaload, 1) := by decide +kernel
theorem d_L_law_558 : decode c_L_law 558 = .ok (.aload_n 0, 1) := by decide +kernel
theorem d_L_law_559 : decode c_L_law 559 = .ok (.iload_n 3, 1) := by decide +kernel
theorem d_L_law_560 : decode c_L_law 560 = .ok (.iconst 2, 1) := by decide +kernel
theorem d_L_law_561 : decode c_L_law 561 = .ok (.iadd, 1) := by decide +kernel
theorem d_L_law_562 : decode c_L_law 562 = .ok (.iaload, 1) := by decide +kernel
theorem d_L_law_563 : decode c_L_law 563 = .ok (.aload_n 0, 1) := by decide +kernel
theorem d_L_law_564 : decode c_L_law 564 = .ok (.iload_n 3, 1) := by decide +kernel
theorem d_L_law_565 : decode c_L_law 565 = .ok (.iconst 3, 1) := by decide +kernel
theorem d_L_law_566 : decode c_L_law 566 = .ok (.iadd, 1) := by decide +kernel
theorem d_L_law_567 : decode c_L_law 567 = .ok (.iaload, 1) := by decide +kernel
theorem d_L_law_568 : decode c_L_law 568 = .ok (.ifCond .eq 7, 3) := by decide +kernel
theorem d_L_law_571 : decode c_L_law 571 = .ok (.iconst 1, 1) := by decide +kernel
theorem d_L_law_572 : decode c_L_law 572 = .ok (.goto 4, 3) := by decide +kernel
theorem d_L_law_575 : decode c_L_law 575 = .ok (.iconst 0, 1) := by decide +kernel
theorem d_L_law_576 : decode c_L_law 576 = .ok (.invokevirtual 86, 3) := by decide +kernel
theorem d_L_law_579 : decode c_L_law 579 = .ok (.lcmp, 1) := by decide +kernel
theorem d_L_law_580 : decode c_L_law 580 = .ok (.ifCond .eq 61, 3) := by decide +kernel
theorem d_L_law_583 : decode c_L_law 583 = .ok (.iconst 0, 1) := by decide +kernel
theorem d_L_law_584 : decode c_L_law 584 = .ok (.ireturn, 1) := by decide +kernel
theorem d_L_law_585 : decode c_L_law 585 = .ok (.aload_n 1, 1) := by decide +kernel
theorem d_L_law_586 : decode c_L_law 586 = .ok (.aload_n 0, 1) := by decide +kernel
theorem d_L_law_587 : decode c_L_law 587 = .ok (.iload_n 3, 1) := by decide +kernel
theorem d_L_law_588 : decode c_L_law 588 = .ok (.iconst 1, 1) := by decide +kernel
theorem d_L_law_589 : decode c_L_law 589 = .ok (.iadd, 1) := by decide +kernel
theorem d_L_law_590 : decode c_L_law 590 = .ok (.iaload, 1) := by decide +kernel
theorem d_L_law_591 : decode c_L_law 591 = .ok (.aload_n 0, 1) := by decide +kernel
theorem d_L_law_592 : decode c_L_law 592 = .ok (.iload_n 3, 1) := by decide +kernel
theorem d_L_law_593 : decode c_L_law 593 = .ok (.iconst 2, 1) := by decide +kernel
theorem d_L_law_594 : decode c_L_law 594 = .ok (.iadd, 1) := by decide +kernel
theorem d_L_law_595 : decode c_L_law 595 = .ok (.iaload, 1) := by decide +kernel
theorem d_L_law_596 : decode c_L_law 596 = .ok (.invokevirtual 87, 3) := by decide +kernel
theorem d_L_law_599 : decode c_L_law 599 = .ok (.aload_n 2, 1) := by decide +kernel
theorem d_L_law_600 : decode c_L_law 600 = .ok (.aload_n 0, 1) := by decide +kernel
theorem d_L_law_601 : decode c_L_law 601 = .ok (.iload_n 3, 1) := by decide +kernel
theorem d_L_law_602 : decode c_L_law 602 = .ok (.iconst 1, 1) := by decide +kernel
theorem d_L_law_603 : decode c_L_law 603 = .ok (.iadd, 1) := by decide +kernel
theorem d_L_law_604 : decode c_L_law 604 = .ok (.iaload, 1) := by decide +kernel
theorem d_L_law_605 : decode c_L_law 605 = .ok (.aload_n 0, 1) := by decide +kernel
theorem d_L_law_606 : decode c_L_law 606 = .ok (.iload_n 3, 1) := by decide +kernel
theorem d_L_law_607 : decode c_L_law 607 = .ok (.iconst 2, 1) := by decide +kernel
theorem d_L_law_608 : decode c_L_law 608 = .ok (.iadd, 1) := by decide +kernel
theorem d_L_law_609 : decode c_L_law 609 = .ok (.iaload, 1) := by decide +kernel
theorem d_L_law_610 : decode c_L_law 610 = .ok (.invokevirtual 90, 3) := by decide +kernel
theorem d_L_law_613 : decode c_L_law 613 = .ok (.if_icmp .eq 28, 3) := by decide +kernel
theorem d_L_law_616 : decode c_L_law 616 = .ok (.iconst 0, 1) := by decide +kernel
theorem d_L_law_617 : decode c_L_law 617 = .ok (.ireturn, 1) := by decide +kernel
theorem d_L_law_618 : decode c_L_law 618 = .ok (.aload_n 1, 1) := by decide +kernel
theorem d_L_law_619 : decode c_L_law 619 = .ok (.aload_n 0, 1) := by decide +kernel
theorem d_L_law_620 : decode c_L_law 620 = .ok (.iload_n 3, 1) := by decide +kernel
theorem d_L_law_621 : decode c_L_law 621 = .ok (.iconst 1, 1) := by decide +kernel
theorem d_L_law_622 : decode c_L_law 622 = .ok (.iadd, 1) := by decide +kernel
theorem d_L_law_623 : decode c_L_law 623 = .ok (.iaload, 1) := by decide +kernel
theorem d_L_law_624 : decode c_L_law 624 = .ok (.invokevirtual 91, 3) := by decide +kernel
theorem d_L_law_627 : decode c_L_law 627 = .ok (.aload_n 2, 1) := by decide +kernel
theorem d_L_law_628 : decode c_L_law 628 = .ok (.aload_n 0, 1) := by decide +kernel
theorem d_L_law_629 : decode c_L_law 629 = .ok (.iload_n 3, 1) := by decide +kernel
theorem d_L_law_630 : decode c_L_law 630 = .ok (.iconst 1, 1) := by decide +kernel
theorem d_L_law_631 : decode c_L_law 631 = .ok (.iadd, 1) := by decide +kernel
theorem d_L_law_632 : decode c_L_law 632 = .ok (.iaload, 1) := by decide +kernel
theorem d_L_law_633 : decode c_L_law 633 = .ok (.invokevirtual 94, 3) := by decide +kernel
theorem d_L_law_636 : decode c_L_law 636 = .ok (.if_icmp .eq 5, 3) := by decide +kernel
theorem d_L_law_639 : decode c_L_law 639 = .ok (.iconst 0, 1) := by decide +kernel
theorem d_L_law_640 : decode c_L_law 640 = .ok (.ireturn, 1) := by decide +kernel
theorem d_L_law_641 : decode c_L_law 641 = .ok (.iinc 3 4, 3) := by decide +kernel
theorem d_L_law_644 : decode c_L_law 644 = .ok (.goto (-616), 3) := by decide +kernel
theorem d_L_law_647 : decode c_L_law 647 = .ok (.iconst 1, 1) := by decide +kernel
theorem d_L_law_648 : decode c_L_law 648 = .ok (.ireturn, 1) := by decide +kernel
