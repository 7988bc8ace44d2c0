theorem dHart_longJumpToRegister_0 : decode cHart_longJumpToRegister 0 = .ok (.iload_n 1, 1) := by decide +kernel
theorem dHart_longJumpToRegister_1 : decode cHart_longJumpToRegister 1 = .ok (.invokestatic 145, 3) := by decide +kernel
theorem dHart_longJumpToRegister_4 : decode cHart_longJumpToRegister 4 = .ok (.ifCond .eq 10, 3) := by decide +kernel
theorem dHart_longJumpToRegister_7 : decode cHart_longJumpToRegister 7 = .ok (.aload_n 0, 1) := by decide +kernel
theorem dHart_longJumpToRegister_8 : decode cHart_longJumpToRegister 8 = .ok (.iconst 2, 1) := by decide +kernel
theorem dHart_longJumpToRegister_9 : decode cHart_longJumpToRegister 9 = .ok (.iload_n 1, 1) := by decide +kernel
theorem dHart_longJumpToRegister_10 : decode cHart_longJumpToRegister 10 = .ok (.invokevirtual 91, 3) := by decide +kernel
theorem dHart_longJumpToRegister_13 : decode cHart_longJumpToRegister 13 = .ok (.ireturn, 1) := by decide +kernel
theorem dHart_longJumpToRegister_14 : decode cHart_longJumpToRegister 14 = .ok (.aload_n 0, 1) := by decide +kernel
theorem dHart_longJumpToRegister_15 : decode cHart_longJumpToRegister 15 = .ok (.iload_n 1, 1) := by decide +kernel
theorem dHart_longJumpToRegister_16 : decode cHart_longJumpToRegister 16 = .ok (.invokestatic 113, 3) := by decide +kernel
theorem dHart_longJumpToRegister_19 : decode cHart_longJumpToRegister 19 = .ok (.aload_n 0, 1) := by decide +kernel
theorem dHart_longJumpToRegister_20 : decode cHart_longJumpToRegister 20 = .ok (.getfield 16, 3) := by decide +kernel
theorem dHart_longJumpToRegister_23 : decode cHart_longJumpToRegister 23 = .ok (.iload_n 1, 1) := by decide +kernel
theorem dHart_longJumpToRegister_24 : decode cHart_longJumpToRegister 24 = .ok (.invokestatic 151, 3) := by decide +kernel
theorem dHart_longJumpToRegister_27 : decode cHart_longJumpToRegister 27 = .ok (.iaload, 1) := by decide +kernel
theorem dHart_longJumpToRegister_28 : decode cHart_longJumpToRegister 28 = .ok (.iload_n 1, 1) := by decide +kernel
theorem dHart_longJumpToRegister_29 : decode cHart_longJumpToRegister 29 = .ok (.invokestatic 154, 3) := by decide +kernel
theorem dHart_longJumpToRegister_32 : decode cHart_longJumpToRegister 32 = .ok (.iadd, 1) := by decide +kernel
theorem dHart_longJumpToRegister_33 : decode cHart_longJumpToRegister 33 = .ok (.invokevirtual 107, 3) := by decide +kernel
theorem dHart_longJumpToRegister_36 : decode cHart_longJumpToRegister 36 = .ok (.ireturn, 1) := by decide +kernel
theorem dHart_longBranch_0 : decode cHart_longBranch 0 = .ok (.aload_n 0, 1) := by decide +kernel
theorem dHart_longBranch_1 : decode cHart_longBranch 1 = .ok (.getfield 16, 3) := by decide +kernel
theorem dHart_longBranch_4 : decode cHart_longBranch 4 = .ok (.iload_n 1, 1) := by decide +kernel
theorem dHart_longBranch_5 : decode cHart_longBranch 5 = .ok (.invokestatic 151, 3) := by decide +kernel
theorem dHart_longBranch_8 : decode cHart_longBranch 8 = .ok (.iaload, 1) := by decide +kernel
theorem dHart_longBranch_9 : decode cHart_longBranch 9 = .ok (.istore_n 2, 1) := by decide +kernel
theorem dHart_longBranch_10 : decode cHart_longBranch 10 = .ok (.aload_n 0, 1) := by decide +kernel
theorem dHart_longBranch_11 : decode cHart_longBranch 11 = .ok (.getfield 16, 3) := by decide +kernel
theorem dHart_longBranch_14 : decode cHart_longBranch 14 = .ok (.iload_n 1, 1) := by decide +kernel
theorem dHart_longBranch_15 : decode cHart_longBranch 15 = .ok (.invokestatic 157, 3) := by decide +kernel
theorem dHart_longBranch_18 : decode cHart_longBranch 18 = .ok (.iaload, 1) := by decide +kernel
theorem dHart_longBranch_19 : decode cHart_longBranch 19 = .ok (.istore_n 3, 1) := by decide +kernel
theorem dHart_longBranch_20 : decode cHart_longBranch 20 = .ok (.aload_n 0, 1) := by decide +kernel
theorem dHart_longBranch_21 : decode cHart_longBranch 21 = .ok (.getfield 60, 3) := by decide +kernel
theorem dHart_longBranch_24 : decode cHart_longBranch 24 = .ok (.iload_n 1, 1) := by decide +kernel
theorem dHart_longBranch_25 : decode cHart_longBranch 25 = .ok (.invokestatic 160, 3) := by decide +kernel
theorem dHart_longBranch_28 : decode cHart_longBranch 28 = .ok (.iadd, 1) := by decide +kernel
theorem dHart_longBranch_29 : decode cHart_longBranch 29 = .ok (.istore 4, 2) := by decide +kernel
theorem dHart_longBranch_31 : decode cHart_longBranch 31 = .ok (.iload_n 1, 1) := by decide +kernel
theorem dHart_longBranch_32 : decode cHart_longBranch 32 = .ok (.invokestatic 145, 3) := by decide +kernel
theorem dHart_longBranch_35 : decode cHart_longBranch 35 = .ok (.tableswitch 145 0 7 #[45, 62, 145, 145, 79, 96, 113, 125], 45) := by decide +kernel
theorem dHart_longBranch_80 : decode cHart_longBranch 80 = .ok (.aload_n 0, 1) := by decide +kernel
theorem dHart_longBranch_81 : decode cHart_longBranch 81 = .ok (.iload_n 2, 1) := by decide +kernel
theorem dHart_longBranch_82 : decode cHart_longBranch 82 = .ok (.iload_n 3, 1) := by decide +kernel
theorem dHart_longBranch_83 : decode cHart_longBranch 83 = .ok (.if_icmp .ne 7, 3) := by decide +kernel
theorem dHart_longBranch_86 : decode cHart_longBranch 86 = .ok (.iconst 1, 1) := by decide +kernel
theorem dHart_longBranch_87 : decode cHart_longBranch 87 = .ok (.goto 4, 3) := by decide +kernel
theorem dHart_longBranch_90 : decode cHart_longBranch 90 = .ok (.iconst 0, 1) := by decide +kernel
theorem dHart_longBranch_91 : decode cHart_longBranch 91 = .ok (.iload 4, 2) := by decide +kernel
theorem dHart_longBranch_93 : decode cHart_longBranch 93 = .ok (.invokevirtual 163, 3) := by decide +kernel
theorem dHart_longBranch_96 : decode cHart_longBranch 96 = .ok (.ireturn, 1) := by decide +kernel
theorem dHart_longBranch_97 : decode cHart_longBranch 97 = .ok (.aload_n 0, 1) := by decide +kernel
theorem dHart_longBranch_98 : decode cHart_longBranch 98 = .ok (.iload_n 2, 1) := by decide +kernel
theorem dHart_longBranch_99 : decode cHart_longBranch 99 = .ok (.iload_n 3, 1) := by decide +kernel
theorem dHart_longBranch_100 : decode cHart_longBranch 100 = .ok (.if_icmp .eq 7, 3) := by decide +kernel
theorem dHart_longBranch_103 : decode cHart_longBranch 103 = .ok (.iconst 1, 1) := by decide +kernel
theorem dHart_longBranch_104 : decode cHart_longBranch 104 = .ok (.goto 4, 3) := by decide +kernel
theorem dHart_longBranch_107 : decode cHart_longBranch 107 = .ok (.iconst 0, 1) := by decide +kernel
theorem dHart_longBranch_108 : decode cHart_longBranch 108 = .ok (.iload 4, 2) := by decide +kernel
theorem dHart_longBranch_110 : decode cHart_longBranch 110 = .ok (.invokevirtual 163, 3) := by decide +kernel
theorem dHart_longBranch_113 : decode cHart_longBranch 113 = .ok (.ireturn, 1) := by decide +kernel
theorem dHart_longBranch_114 : decode cHart_longBranch 114 = .ok (.aload_n 0, 1) := by decide +kernel
theorem dHart_longBranch_115 : decode cHart_longBranch 115 = .ok (.iload_n 2, 1) := by decide +kernel
theorem dHart_longBranch_116 : decode cHart_longBranch 116 = .ok (.iload_n 3, 1) := by decide +kernel
theorem dHart_longBranch_117 : decode cHart_longBranch 117 = .ok (.if_icmp .ge 7, 3) := by decide +kernel
theorem dHart_longBranch_120 : decode cHart_longBranch 120 = .ok (.iconst 1, 1) := by decide +kernel
theorem dHart_longBranch_121 : decode cHart_longBranch 121 = .ok (.goto 4, 3) := by decide +kernel
theorem dHart_longBranch_124 : decode cHart_longBranch 124 = .ok (.iconst 0, 1) := by decide +kernel
theorem dHart_longBranch_125 : decode cHart_longBranch 125 = .ok (.iload 4, 2) := by decide +kernel
theorem dHart_longBranch_127 : decode cHart_longBranch 127 = .ok (.invokevirtual 163, 3) := by decide +kernel
theorem dHart_longBranch_130 : decode cHart_longBranch 130 = .ok (.ireturn, 1) := by decide +kernel
theorem dHart_longBranch_131 : decode cHart_longBranch 131 = .ok (.aload_n 0, 1) := by decide +kernel
theorem dHart_longBranch_132 : decode cHart_longBranch 132 = .ok (.iload_n 2, 1) := by decide +kernel
theorem dHart_longBranch_133 : decode cHart_longBranch 133 = .ok (.iload_n 3, 1) := by decide +kernel
theorem dHart_longBranch_134 : decode cHart_longBranch 134 = .ok (.if_icmp .lt 7, 3) := by decide +kernel
theorem dHart_longBranch_137 : decode cHart_longBranch 137 = .ok (.iconst 1, 1) := by decide +kernel
theorem dHart_longBranch_138 : decode cHart_longBranch 138 = .ok (.goto 4, 3) := by decide +kernel
theorem dHart_longBranch_141 : decode cHart_longBranch 141 = .ok (.iconst 0, 1) := by decide +kernel
theorem dHart_longBranch_142 : decode cHart_longBranch 142 = .ok (.iload 4, 2) := by decide +kernel
theorem dHart_longBranch_144 : decode cHart_longBranch 144 = .ok (.invokevirtual 163, 3) := by decide +kernel
theorem dHart_longBranch_147 : decode cHart_longBranch 147 = .ok (.ireturn, 1) := by decide +kernel
theorem dHart_longBranch_148 : decode cHart_longBranch 148 = .ok (.aload_n 0, 1) := by decide +kernel
theorem dHart_longBranch_149 : decode cHart_longBranch 149 = .ok (.iload_n 2, 1) := by decide +kernel
theorem dHart_longBranch_150 : decode cHart_longBranch 150 = .ok (.iload_n 3, 1) := by decide +kernel
theorem dHart_longBranch_151 : decode cHart_longBranch 151 = .ok (.invokestatic 167, 3) := by decide +kernel
theorem dHart_longBranch_154 : decode cHart_longBranch 154 = .ok (.iload 4, 2) := by decide +kernel
theorem dHart_longBranch_156 : decode cHart_longBranch 156 = .ok (.invokevirtual 163, 3) := by decide +kernel
theorem dHart_longBranch_159 : decode cHart_longBranch 159 = .ok (.ireturn, 1) := by decide +kernel
theorem dHart_longBranch_160 : decode cHart_longBranch 160 = .ok (.aload_n 0, 1) := by decide +kernel
theorem dHart_longBranch_161 : decode cHart_longBranch 161 = .ok (.iload_n 2, 1) := by decide +kernel
theorem dHart_longBranch_162 : decode cHart_longBranch 162 = .ok (.iload_n 3, 1) := by decide +kernel
theorem dHart_longBranch_163 : decode cHart_longBranch 163 = .ok (.invokestatic 167, 3) := by decide +kernel
theorem dHart_longBranch_166 : decode cHart_longBranch 166 = .ok (.ifCond .ne 7, 3) := by decide +kernel
theorem dHart_longBranch_169 : decode cHart_longBranch 169 = .ok (.iconst 1, 1) := by decide +kernel
theorem dHart_longBranch_170 : decode cHart_longBranch 170 = .ok (.goto 4, 3) := by decide +kernel
theorem dHart_longBranch_173 : decode cHart_longBranch 173 = .ok (.iconst 0, 1) := by decide +kernel
theorem dHart_longBranch_174 : decode cHart_longBranch 174 = .ok (.iload 4, 2) := by decide +kernel
theorem dHart_longBranch_176 : decode cHart_longBranch 176 = .ok (.invokevirtual 163, 3) := by decide +kernel
theorem dHart_longBranch_179 : decode cHart_longBranch 179 = .ok (.ireturn, 1) := by decide +kernel
theorem dHart_longBranch_180 : decode cHart_longBranch 180 = .ok (.aload_n 0, 1) := by decide +kernel
theorem dHart_longBranch_181 : decode cHart_longBranch 181 = .ok (.iconst 2, 1) := by decide +kernel
theorem dHart_longBranch_182 : decode cHart_longBranch 182 = .ok (.iload_n 1, 1) := by decide +kernel
theorem dHart_longBranch_183 : decode cHart_longBranch 183 = .ok (.invokevirtual 91, 3) := by decide +kernel
theorem dHart_longBranch_186 : decode cHart_longBranch 186 = .ok (.ireturn, 1) := by decide +kernel
theorem dHart_longLoad_0 : decode cHart_longLoad 0 = .ok (.iload_n 1, 1) := by decide +kernel
theorem dHart_longLoad_1 : decode cHart_longLoad 1 = .ok (.invokestatic 145, 3) := by decide +kernel
theorem dHart_longLoad_4 : decode cHart_longLoad 4 = .ok (.istore_n 2, 1) := by decide +kernel
theorem dHart_longLoad_5 : decode cHart_longLoad 5 = .ok (.iload_n 2, 1) := by decide +kernel
theorem dHart_longLoad_6 : decode cHart_longLoad 6 = .ok (.iconst 3, 1) := by decide +kernel
theorem dHart_longLoad_7 : decode cHart_longLoad 7 = .ok (.if_icmp .eq 8, 3) := by decide +kernel
theorem dHart_longLoad_10 : decode cHart_longLoad 10 = .ok (.iload_n 2, 1) := by decide +kernel
theorem dHart_longLoad_11 : decode cHart_longLoad 11 = .ok (.iconst 5, 1) := by decide +kernel
theorem dHart_longLoad_12 : decode cHart_longLoad 12 = .ok (.if_icmp .le 10, 3) := by decide +kernel
theorem dHart_longLoad_15 : decode cHart_longLoad 15 = .ok (.aload_n 0, 1) := by decide +kernel
theorem dHart_longLoad_16 : decode cHart_longLoad 16 = .ok (.iconst 2, 1) := by decide +kernel
theorem dHart_longLoad_17 : decode cHart_longLoad 17 = .ok (.iload_n 1, 1) := by decide +kernel
theorem dHart_longLoad_18 : decode cHart_longLoad 18 = .ok (.invokevirtual 91, 3) := by decide +kernel
theorem dHart_longLoad_21 : decode cHart_longLoad 21 = .ok (.ireturn, 1) := by decide +kernel
theorem dHart_longLoad_22 : decode cHart_longLoad 22 = .ok (.aload_n 0, 1) := by decide +kernel
theorem dHart_longLoad_23 : decode cHart_longLoad 23 = .ok (.iload_n 2, 1) := by decide +kernel
theorem dHart_longLoad_24 : decode cHart_longLoad 24 = .ok (.iload_n 1, 1) := by decide +kernel
theorem dHart_longLoad_25 : decode cHart_longLoad 25 = .ok (.invokestatic 113, 3) := by decide +kernel
theorem dHart_longLoad_28 : decode cHart_longLoad 28 = .ok (.aload_n 0, 1) := by decide +kernel
theorem dHart_longLoad_29 : decode cHart_longLoad 29 = .ok (.getfield 16, 3) := by decide +kernel
theorem dHart_longLoad_32 : decode cHart_longLoad 32 = .ok (.iload_n 1, 1) := by decide +kernel
theorem dHart_longLoad_33 : decode cHart_longLoad 33 = .ok (.invokestatic 151, 3) := by decide +kernel
theorem dHart_longLoad_36 : decode cHart_longLoad 36 = .ok (.iaload, 1) := by decide +kernel
theorem dHart_longLoad_37 : decode cHart_longLoad 37 = .ok (.iload_n 1, 1) := by decide +kernel
theorem dHart_longLoad_38 : decode cHart_longLoad 38 = .ok (.invokestatic 154, 3) := by decide +kernel
theorem dHart_longLoad_41 : decode cHart_longLoad 41 = .ok (.iadd, 1) := by decide +kernel
theorem dHart_longLoad_42 : decode cHart_longLoad 42 = .ok (.invokevirtual 172, 3) := by decide +kernel
theorem dHart_longLoad_45 : decode cHart_longLoad 45 = .ok (.ireturn, 1) := by decide +kernel
theorem dHart_longStore_0 : decode cHart_longStore 0 = .ok (.iload_n 1, 1) := by decide +kernel
theorem dHart_longStore_1 : decode cHart_longStore 1 = .ok (.invokestatic 145, 3) := by decide +kernel
theorem dHart_longStore_4 : decode cHart_longStore 4 = .ok (.istore_n 2, 1) := by decide +kernel
theorem dHart_longStore_5 : decode cHart_longStore 5 = .ok (.iload_n 2, 1) := by decide +kernel
theorem dHart_longStore_6 : decode cHart_longStore 6 = .ok (.iconst 2, 1) := by decide +kernel
theorem dHart_longStore_7 : decode cHart_longStore 7 = .ok (.if_icmp .le 10, 3) := by decide +kernel
theorem dHart_longStore_10 : decode cHart_longStore 10 = .ok (.aload_n 0, 1) := by decide +kernel
theorem dHart_longStore_11 : decode cHart_longStore 11 = .ok (.iconst 2, 1) := by decide +kernel
theorem dHart_longStore_12 : decode cHart_longStore 12 = .ok (.iload_n 1, 1) := by decide +kernel
theorem dHart_longStore_13 : decode cHart_longStore 13 = .ok (.invokevirtual 91, 3) := by decide +kernel
theorem dHart_longStore_16 : decode cHart_longStore 16 = .ok (.ireturn, 1) := by decide +kernel
theorem dHart_longStore_17 : decode cHart_longStore 17 = .ok (.aload_n 0, 1) := by decide +kernel
theorem dHart_longStore_18 : decode cHart_longStore 18 = .ok (.getfield 16, 3) := by decide +kernel
theorem dHart_longStore_21 : decode cHart_longStore 21 = .ok (.iload_n 1, 1) := by decide +kernel
theorem dHart_longStore_22 : decode cHart_longStore 22 = .ok (.invokestatic 151, 3) := by decide +kernel
theorem dHart_longStore_25 : decode cHart_longStore 25 = .ok (.iaload, 1) := by decide +kernel
theorem dHart_longStore_26 : decode cHart_longStore 26 = .ok (.iload_n 1, 1) := by decide +kernel
theorem dHart_longStore_27 : decode cHart_longStore 27 = .ok (.invokestatic 176, 3) := by decide +kernel
theorem dHart_longStore_30 : decode cHart_longStore 30 = .ok (.iadd, 1) := by decide +kernel
theorem dHart_longStore_31 : decode cHart_longStore 31 = .ok (.istore_n 3, 1) := by decide +kernel
theorem dHart_longStore_32 : decode cHart_longStore 32 = .ok (.aload_n 0, 1) := by decide +kernel
theorem dHart_longStore_33 : decode cHart_longStore 33 = .ok (.iload_n 2, 1) := by decide +kernel
theorem dHart_longStore_34 : decode cHart_longStore 34 = .ok (.iload_n 3, 1) := by decide +kernel
theorem dHart_longStore_35 : decode cHart_longStore 35 = .ok (.aload_n 0, 1) := by decide +kernel
theorem dHart_longStore_36 : decode cHart_longStore 36 = .ok (.getfield 16, 3) := by decide +kernel
theorem dHart_longStore_39 : decode cHart_longStore 39 = .ok (.iload_n 1, 1) := by decide +kernel
theorem dHart_longStore_40 : decode cHart_longStore 40 = .ok (.invokestatic 157, 3) := by decide +kernel
theorem dHart_longStore_43 : decode cHart_longStore 43 = .ok (.iaload, 1) := by decide +kernel
theorem dHart_longStore_44 : decode cHart_longStore 44 = .ok (.invokevirtual 179, 3) := by decide +kernel
theorem dHart_longStore_47 : decode cHart_longStore 47 = .ok (.ireturn, 1) := by decide +kernel
theorem dHart_longWithNumber_0 : decode cHart_longWithNumber 0 = .ok (.iload_n 1, 1) := by decide +kernel
theorem dHart_longWithNumber_1 : decode cHart_longWithNumber 1 = .ok (.invokestatic 113, 3) := by decide +kernel
theorem dHart_longWithNumber_4 : decode cHart_longWithNumber 4 = .ok (.istore_n 2, 1) := by decide +kernel
theorem dHart_longWithNumber_5 : decode cHart_longWithNumber 5 = .ok (.iload_n 1, 1) := by decide +kernel
theorem dHart_longWithNumber_6 : decode cHart_longWithNumber 6 = .ok (.invokestatic 145, 3) := by decide +kernel
theorem dHart_longWithNumber_9 : decode cHart_longWithNumber 9 = .ok (.istore_n 3, 1) := by decide +kernel
theorem dHart_longWithNumber_10 : decode cHart_longWithNumber 10 = .ok (.iload_n 1, 1) := by decide +kernel
theorem dHart_longWithNumber_11 : decode cHart_longWithNumber 11 = .ok (.invokestatic 182, 3) := by decide +kernel
theorem dHart_longWithNumber_14 : decode cHart_longWithNumber 14 = .ok (.istore 4, 2) := by decide +kernel
theorem dHart_longWithNumber_16 : decode cHart_longWithNumber 16 = .ok (.aload_n 0, 1) := by decide +kernel
theorem dHart_longWithNumber_17 : decode cHart_longWithNumber 17 = .ok (.getfield 16, 3) := by decide +kernel
theorem dHart_longWithNumber_20 : decode cHart_longWithNumber 20 = .ok (.iload_n 1, 1) := by decide +kernel
theorem dHart_longWithNumber_21 : decode cHart_longWithNumber 21 = .ok (.invokestatic 151, 3) := by decide +kernel
theorem dHart_longWithNumber_24 : decode cHart_longWithNumber 24 = .ok (.iaload, 1) := by decide +kernel
theorem dHart_longWithNumber_25 : decode cHart_longWithNumber 25 = .ok (.istore 5, 2) := by decide +kernel
theorem dHart_longWithNumber_27 : decode cHart_longWithNumber 27 = .ok (.iload_n 3, 1) := by decide +kernel
theorem dHart_longWithNumber_28 : decode cHart_longWithNumber 28 = .ok (.iconst 5, 1) := by decide +kernel
theorem dHart_longWithNumber_29 : decode cHart_longWithNumber 29 = .ok (.if_icmp .ne 23, 3) := by decide +kernel
theorem dHart_longWithNumber_32 : decode cHart_longWithNumber 32 = .ok (.iload 4, 2) := by decide +kernel
theorem dHart_longWithNumber_34 : decode cHart_longWithNumber 34 = .ok (.bipush 32, 2) := by decide +kernel
theorem dHart_longWithNumber_36 : decode cHart_longWithNumber 36 = .ok (.if_icmp .ne 16, 3) := by decide +kernel
theorem dHart_longWithNumber_39 : decode cHart_longWithNumber 39 = .ok (.aload_n 0, 1) := by decide +kernel
theorem dHart_longWithNumber_40 : decode cHart_longWithNumber 40 = .ok (.iload_n 2, 1) := by decide +kernel
theorem dHart_longWithNumber_41 : decode cHart_longWithNumber 41 = .ok (.iload 5, 2) := by decide +kernel
theorem dHart_longWithNumber_43 : decode cHart_longWithNumber 43 = .ok (.iload_n 1, 1) := by decide +kernel
theorem dHart_longWithNumber_44 : decode cHart_longWithNumber 44 = .ok (.invokestatic 157, 3) := by decide +kernel
theorem dHart_longWithNumber_47 : decode cHart_longWithNumber 47 = .ok (.ishr, 1) := by decide +kernel
theorem dHart_longWithNumber_48 : decode cHart_longWithNumber 48 = .ok (.invokevirtual 57, 3) := by decide +kernel
theorem dHart_longWithNumber_51 : decode cHart_longWithNumber 51 = .ok (.ireturn, 1) := by decide +kernel
theorem dHart_longWithNumber_52 : decode cHart_longWithNumber 52 = .ok (.iload_n 3, 1) := by decide +kernel
theorem dHart_longWithNumber_53 : decode cHart_longWithNumber 53 = .ok (.iconst 1, 1) := by decide +kernel
theorem dHart_longWithNumber_54 : decode cHart_longWithNumber 54 = .ok (.if_icmp .eq 8, 3) := by decide +kernel
theorem dHart_longWithNumber_57 : decode cHart_longWithNumber 57 = .ok (.iload_n 3, 1) := by decide +kernel
theorem dHart_longWithNumber_58 : decode cHart_longWithNumber 58 = .ok (.iconst 5, 1) := by decide +kernel
theorem dHart_longWithNumber_59 : decode cHart_longWithNumber 59 = .ok (.if_icmp .ne 15, 3) := by decide +kernel
theorem dHart_longWithNumber_62 : decode cHart_longWithNumber 62 = .ok (.iload 4, 2) := by decide +kernel
theorem dHart_longWithNumber_64 : decode cHart_longWithNumber 64 = .ok (.ifCond .eq 10, 3) := by decide +kernel
theorem dHart_longWithNumber_67 : decode cHart_longWithNumber 67 = .ok (.aload_n 0, 1) := by decide +kernel
theorem dHart_longWithNumber_68 : decode cHart_longWithNumber 68 = .ok (.iconst 2, 1) := by decide +kernel
theorem dHart_longWithNumber_69 : decode cHart_longWithNumber 69 = .ok (.iload_n 1, 1) := by decide +kernel
theorem dHart_longWithNumber_70 : decode cHart_longWithNumber 70 = .ok (.invokevirtual 91, 3) := by decide +kernel
theorem dHart_longWithNumber_73 : decode cHart_longWithNumber 73 = .ok (.ireturn, 1) := by decide +kernel
theorem dHart_longWithNumber_74 : decode cHart_longWithNumber 74 = .ok (.aload_n 0, 1) := by decide +kernel
theorem dHart_longWithNumber_75 : decode cHart_longWithNumber 75 = .ok (.iload_n 2, 1) := by decide +kernel
theorem dHart_longWithNumber_76 : decode cHart_longWithNumber 76 = .ok (.iload_n 3, 1) := by decide +kernel
theorem dHart_longWithNumber_77 : decode cHart_longWithNumber 77 = .ok (.iload 5, 2) := by decide +kernel
theorem dHart_longWithNumber_79 : decode cHart_longWithNumber 79 = .ok (.iload_n 1, 1) := by decide +kernel
theorem dHart_longWithNumber_80 : decode cHart_longWithNumber 80 = .ok (.invokestatic 154, 3) := by decide +kernel
theorem dHart_longWithNumber_83 : decode cHart_longWithNumber 83 = .ok (.invokestatic 185, 3) := by decide +kernel
theorem dHart_longWithNumber_86 : decode cHart_longWithNumber 86 = .ok (.invokevirtual 57, 3) := by decide +kernel
theorem dHart_longWithNumber_89 : decode cHart_longWithNumber 89 = .ok (.ireturn, 1) := by decide +kernel
theorem dHart_longWithRegisters_0 : decode cHart_longWithRegisters 0 = .ok (.iload_n 1, 1) := by decide +kernel
theorem dHart_longWithRegisters_1 : decode cHart_longWithRegisters 1 = .ok (.invokestatic 113, 3) := by decide +kernel
theorem dHart_longWithRegisters_4 : decode cHart_longWithRegisters 4 = .ok (.istore_n 2, 1) := by decide +kernel
theorem dHart_longWithRegisters_5 : decode cHart_longWithRegisters 5 = .ok (.iload_n 1, 1) := by decide +kernel
theorem dHart_longWithRegisters_6 : decode cHart_longWithRegisters 6 = .ok (.invokestatic 145, 3) := by decide +kernel
theorem dHart_longWithRegisters_9 : decode cHart_longWithRegisters 9 = .ok (.istore_n 3, 1) := by decide +kernel
theorem dHart_longWithRegisters_10 : decode cHart_longWithRegisters 10 = .ok (.aload_n 0, 1) := by decide +kernel
theorem dHart_longWithRegisters_11 : decode cHart_longWithRegisters 11 = .ok (.getfield 16, 3) := by decide +kernel
theorem dHart_longWithRegisters_14 : decode cHart_longWithRegisters 14 = .ok (.iload_n 1, 1) := by decide +kernel
theorem dHart_longWithRegisters_15 : decode cHart_longWithRegisters 15 = .ok (.invokestatic 151, 3) := by decide +kernel
theorem dHart_longWithRegisters_18 : decode cHart_longWithRegisters 18 = .ok (.iaload, 1) := by decide +kernel
theorem dHart_longWithRegisters_19 : decode cHart_longWithRegisters 19 = .ok (.istore 4, 2) := by decide +kernel
theorem dHart_longWithRegisters_21 : decode cHart_longWithRegisters 21 = .ok (.aload_n 0, 1) := by decide +kernel
theorem dHart_longWithRegisters_22 : decode cHart_longWithRegisters 22 = .ok (.getfield 16, 3) := by decide +kernel
theorem dHart_longWithRegisters_25 : decode cHart_longWithRegisters 25 = .ok (.iload_n 1, 1) := by decide +kernel
theorem dHart_longWithRegisters_26 : decode cHart_longWithRegisters 26 = .ok (.invokestatic 157, 3) := by decide +kernel
theorem dHart_longWithRegisters_29 : decode cHart_longWithRegisters 29 = .ok (.iaload, 1) := by decide +kernel
theorem dHart_longWithRegisters_30 : decode cHart_longWithRegisters 30 = .ok (.istore 5, 2) := by decide +kernel
theorem dHart_longWithRegisters_32 : decode cHart_longWithRegisters 32 = .ok (.iload_n 1, 1) := by decide +kernel
theorem dHart_longWithRegisters_33 : decode cHart_longWithRegisters 33 = .ok (.invokestatic 182, 3) := by decide +kernel
theorem dHart_longWithRegisters_36 : decode cHart_longWithRegisters 36 = .ok (.lookupswitch 107 #[(0, 36), (1, 50), (32, 64)], 36) := by decide +kernel
theorem dHart_longWithRegisters_72 : decode cHart_longWithRegisters 72 = .ok (.aload_n 0, 1) := by decide +kernel
theorem dHart_longWithRegisters_73 : decode cHart_longWithRegisters 73 = .ok (.iload_n 2, 1) := by decide +kernel
theorem dHart_longWithRegisters_74 : decode cHart_longWithRegisters 74 = .ok (.iload_n 3, 1) := by decide +kernel
theorem dHart_longWithRegisters_75 : decode cHart_longWithRegisters 75 = .ok (.iload 4, 2) := by decide +kernel
theorem dHart_longWithRegisters_77 : decode cHart_longWithRegisters 77 = .ok (.iload 5, 2) := by decide +kernel
theorem dHart_longWithRegisters_79 : decode cHart_longWithRegisters 79 = .ok (.invokestatic 185, 3) := by decide +kernel
theorem dHart_longWithRegisters_82 : decode cHart_longWithRegisters 82 = .ok (.invokevirtual 57, 3) := by decide +kernel
theorem dHart_longWithRegisters_85 : decode cHart_longWithRegisters 85 = .ok (.ireturn, 1) := by decide +kernel
theorem dHart_longWithRegisters_86 : decode cHart_longWithRegisters 86 = .ok (.aload_n 0, 1) := by decide +kernel
theorem dHart_longWithRegisters_87 : decode cHart_longWithRegisters 87 = .ok (.iload_n 2, 1) := by decide +kernel
theorem dHart_longWithRegisters_88 : decode cHart_longWithRegisters 88 = .ok (.iload_n 3, 1) := by decide +kernel
theorem dHart_longWithRegisters_89 : decode cHart_longWithRegisters 89 = .ok (.iload 4, 2) := by decide +kernel
theorem dHart_longWithRegisters_91 : decode cHart_longWithRegisters 91 = .ok (.iload 5, 2) := by decide +kernel
theorem dHart_longWithRegisters_93 : decode cHart_longWithRegisters 93 = .ok (.invokestatic 188, 3) := by decide +kernel
theorem dHart_longWithRegisters_96 : decode cHart_longWithRegisters 96 = .ok (.invokevirtual 57, 3) := by decide +kernel
theorem dHart_longWithRegisters_99 : decode cHart_longWithRegisters 99 = .ok (.ireturn, 1) := by decide +kernel
theorem dHart_longWithRegisters_100 : decode cHart_longWithRegisters 100 = .ok (.iload_n 3, 1) := by decide +kernel
theorem dHart_longWithRegisters_101 : decode cHart_longWithRegisters 101 = .ok (.ifCond .ne 14, 3) := by decide +kernel
theorem dHart_longWithRegisters_104 : decode cHart_longWithRegisters 104 = .ok (.aload_n 0, 1) := by decide +kernel
theorem dHart_longWithRegisters_105 : decode cHart_longWithRegisters 105 = .ok (.iload_n 2, 1) := by decide +kernel
theorem dHart_longWithRegisters_106 : decode cHart_longWithRegisters 106 = .ok (.iload 4, 2) := by decide +kernel
theorem dHart_longWithRegisters_108 : decode cHart_longWithRegisters 108 = .ok (.iload 5, 2) := by decide +kernel
theorem dHart_longWithRegisters_110 : decode cHart_longWithRegisters 110 = .ok (.isub, 1) := by decide +kernel
theorem dHart_longWithRegisters_111 : decode cHart_longWithRegisters 111 = .ok (.invokevirtual 57, 3) := by decide +kernel
theorem dHart_longWithRegisters_114 : decode cHart_longWithRegisters 114 = .ok (.ireturn, 1) := by decide +kernel
theorem dHart_longWithRegisters_115 : decode cHart_longWithRegisters 115 = .ok (.iload_n 3, 1) := by decide +kernel
theorem dHart_longWithRegisters_116 : decode cHart_longWithRegisters 116 = .ok (.iconst 5, 1) := by decide +kernel
theorem dHart_longWithRegisters_117 : decode cHart_longWithRegisters 117 = .ok (.if_icmp .ne 19, 3) := by decide +kernel
theorem dHart_longWithRegisters_120 : decode cHart_longWithRegisters 120 = .ok (.aload_n 0, 1) := by decide +kernel
theorem dHart_longWithRegisters_121 : decode cHart_longWithRegisters 121 = .ok (.iload_n 2, 1) := by decide +kernel
theorem dHart_longWithRegisters_122 : decode cHart_longWithRegisters 122 = .ok (.iload 4, 2) := by decide +kernel
theorem dHart_longWithRegisters_124 : decode cHart_longWithRegisters 124 = .ok (.iload 5, 2) := by decide +kernel
theorem dHart_longWithRegisters_126 : decode cHart_longWithRegisters 126 = .ok (.bipush 31, 2) := by decide +kernel
theorem dHart_longWithRegisters_128 : decode cHart_longWithRegisters 128 = .ok (.iand, 1) := by decide +kernel
theorem dHart_longWithRegisters_129 : decode cHart_longWithRegisters 129 = .ok (.ishr, 1) := by decide +kernel
theorem dHart_longWithRegisters_130 : decode cHart_longWithRegisters 130 = .ok (.invokevirtual 57, 3) := by decide +kernel
theorem dHart_longWithRegisters_133 : decode cHart_longWithRegisters 133 = .ok (.goto 9, 3) := by decide +kernel
theorem dHart_longWithRegisters_136 : decode cHart_longWithRegisters 136 = .ok (.aload_n 0, 1) := by decide +kernel
theorem dHart_longWithRegisters_137 : decode cHart_longWithRegisters 137 = .ok (.iconst 2, 1) := by decide +kernel
theorem dHart_longWithRegisters_138 : decode cHart_longWithRegisters 138 = .ok (.iload_n 1, 1) := by decide +kernel
theorem dHart_longWithRegisters_139 : decode cHart_longWithRegisters 139 = .ok (.invokevirtual 91, 3) := by decide +kernel
theorem dHart_longWithRegisters_142 : decode cHart_longWithRegisters 142 = .ok (.ireturn, 1) := by decide +kernel
theorem dHart_longWithRegisters_143 : decode cHart_longWithRegisters 143 = .ok (.aload_n 0, 1) := by decide +kernel
theorem dHart_longWithRegisters_144 : decode cHart_longWithRegisters 144 = .ok (.iconst 2, 1) := by decide +kernel
theorem dHart_longWithRegisters_145 : decode cHart_longWithRegisters 145 = .ok (.iload_n 1, 1) := by decide +kernel
theorem dHart_longWithRegisters_146 : decode cHart_longWithRegisters 146 = .ok (.invokevirtual 91, 3) := by decide +kernel
theorem dHart_longWithRegisters_149 : decode cHart_longWithRegisters 149 = .ok (.ireturn, 1) := by decide +kernel
theorem dHart_longAtomic_0 : decode cHart_longAtomic 0 = .ok (.iload_n 1, 1) := by decide +kernel
theorem dHart_longAtomic_1 : decode cHart_longAtomic 1 = .ok (.invokestatic 191, 3) := by decide +kernel
theorem dHart_longAtomic_4 : decode cHart_longAtomic 4 = .ok (.ifCond .ne 10, 3) := by decide +kernel
theorem dHart_longAtomic_7 : decode cHart_longAtomic 7 = .ok (.aload_n 0, 1) := by decide +kernel
theorem dHart_longAtomic_8 : decode cHart_longAtomic 8 = .ok (.iconst 2, 1) := by decide +kernel
theorem dHart_longAtomic_9 : decode cHart_longAtomic 9 = .ok (.iload_n 1, 1) := by decide +kernel
theorem dHart_longAtomic_10 : decode cHart_longAtomic 10 = .ok (.invokevirtual 91, 3) := by decide +kernel
theorem dHart_longAtomic_13 : decode cHart_longAtomic 13 = .ok (.ireturn, 1) := by decide +kernel
theorem dHart_longAtomic_14 : decode cHart_longAtomic 14 = .ok (.iload_n 1, 1) := by decide +kernel
theorem dHart_longAtomic_15 : decode cHart_longAtomic 15 = .ok (.invokestatic 194, 3) := by decide +kernel
theorem dHart_longAtomic_18 : decode cHart_longAtomic 18 = .ok (.istore_n 2, 1) := by decide +kernel
theorem dHart_longAtomic_19 : decode cHart_longAtomic 19 = .ok (.aload_n 0, 1) := by decide +kernel
theorem dHart_longAtomic_20 : decode cHart_longAtomic 20 = .ok (.getfield 16, 3) := by decide +kernel
theorem dHart_longAtomic_23 : decode cHart_longAtomic 23 = .ok (.iload_n 1, 1) := by decide +kernel
theorem dHart_longAtomic_24 : decode cHart_longAtomic 24 = .ok (.invokestatic 151, 3) := by decide +kernel
theorem dHart_longAtomic_27 : decode cHart_longAtomic 27 = .ok (.iaload, 1) := by decide +kernel
theorem dHart_longAtomic_28 : decode cHart_longAtomic 28 = .ok (.istore_n 3, 1) := by decide +kernel
theorem dHart_longAtomic_29 : decode cHart_longAtomic 29 = .ok (.iconst 2, 1) := by decide +kernel
theorem dHart_longAtomic_30 : decode cHart_longAtomic 30 = .ok (.iload_n 3, 1) := by decide +kernel
theorem dHart_longAtomic_31 : decode cHart_longAtomic 31 = .ok (.invokestatic 35, 3) := by decide +kernel
theorem dHart_longAtomic_34 : decode cHart_longAtomic 34 = .ok (.ifCond .eq 10, 3) := by decide +kernel
theorem dHart_longAtomic_37 : decode cHart_longAtomic 37 = .ok (.aload_n 0, 1) := by decide +kernel
theorem dHart_longAtomic_38 : decode cHart_longAtomic 38 = .ok (.iconst 5, 1) := by decide +kernel
theorem dHart_longAtomic_39 : decode cHart_longAtomic 39 = .ok (.iload_n 3, 1) := by decide +kernel
theorem dHart_longAtomic_40 : decode cHart_longAtomic 40 = .ok (.invokevirtual 91, 3) := by decide +kernel
theorem dHart_longAtomic_43 : decode cHart_longAtomic 43 = .ok (.ireturn, 1) := by decide +kernel
theorem dHart_longAtomic_44 : decode cHart_longAtomic 44 = .ok (.iload_n 2, 1) := by decide +kernel
theorem dHart_longAtomic_45 : decode cHart_longAtomic 45 = .ok (.iconst 2, 1) := by decide +kernel
theorem dHart_longAtomic_46 : decode cHart_longAtomic 46 = .ok (.if_icmp .eq 23, 3) := by decide +kernel
theorem dHart_longAtomic_49 : decode cHart_longAtomic 49 = .ok (.aload_n 0, 1) := by decide +kernel
theorem dHart_longAtomic_50 : decode cHart_longAtomic 50 = .ok (.getfield 10, 3) := by decide +kernel
theorem dHart_longAtomic_53 : decode cHart_longAtomic 53 = .ok (.iconst 2, 1) := by decide +kernel
theorem dHart_longAtomic_54 : decode cHart_longAtomic 54 = .ok (.iload_n 3, 1) := by decide +kernel
theorem dHart_longAtomic_55 : decode cHart_longAtomic 55 = .ok (.invokevirtual 110, 3) := by decide +kernel
theorem dHart_longAtomic_58 : decode cHart_longAtomic 58 = .ok (.ifCond .ne 11, 3) := by decide +kernel
theorem dHart_longAtomic_61 : decode cHart_longAtomic 61 = .ok (.aload_n 0, 1) := by decide +kernel
theorem dHart_longAtomic_62 : decode cHart_longAtomic 62 = .ok (.bipush 7, 2) := by decide +kernel
theorem dHart_longAtomic_64 : decode cHart_longAtomic 64 = .ok (.iload_n 3, 1) := by decide +kernel
theorem dHart_longAtomic_65 : decode cHart_longAtomic 65 = .ok (.invokevirtual 91, 3) := by decide +kernel
theorem dHart_longAtomic_68 : decode cHart_longAtomic 68 = .ok (.ireturn, 1) := by decide +kernel
theorem dHart_longAtomic_69 : decode cHart_longAtomic 69 = .ok (.aload_n 0, 1) := by decide +kernel
theorem dHart_longAtomic_70 : decode cHart_longAtomic 70 = .ok (.getfield 10, 3) := by decide +kernel
theorem dHart_longAtomic_73 : decode cHart_longAtomic 73 = .ok (.iconst 1, 1) := by decide +kernel
theorem dHart_longAtomic_74 : decode cHart_longAtomic 74 = .ok (.iload_n 3, 1) := by decide +kernel
theorem dHart_longAtomic_75 : decode cHart_longAtomic 75 = .ok (.invokevirtual 110, 3) := by decide +kernel
theorem dHart_longAtomic_78 : decode cHart_longAtomic 78 = .ok (.ifCond .ne 11, 3) := by decide +kernel
theorem dHart_longAtomic_81 : decode cHart_longAtomic 81 = .ok (.aload_n 0, 1) := by decide +kernel
theorem dHart_longAtomic_82 : decode cHart_longAtomic 82 = .ok (.bipush 6, 2) := by decide +kernel
theorem dHart_longAtomic_84 : decode cHart_longAtomic 84 = .ok (.iload_n 3, 1) := by decide +kernel
theorem dHart_longAtomic_85 : decode cHart_longAtomic 85 = .ok (.invokevirtual 91, 3) := by decide +kernel
theorem dHart_longAtomic_88 : decode cHart_longAtomic 88 = .ok (.ireturn, 1) := by decide +kernel
theorem dHart_longAtomic_89 : decode cHart_longAtomic 89 = .ok (.iload_n 1, 1) := by decide +kernel
theorem dHart_longAtomic_90 : decode cHart_longAtomic 90 = .ok (.invokestatic 113, 3) := by decide +kernel
theorem dHart_longAtomic_93 : decode cHart_longAtomic 93 = .ok (.istore 4, 2) := by decide +kernel
theorem dHart_longAtomic_95 : decode cHart_longAtomic 95 = .ok (.aload_n 0, 1) := by decide +kernel
theorem dHart_longAtomic_96 : decode cHart_longAtomic 96 = .ok (.getfield 16, 3) := by decide +kernel
theorem dHart_longAtomic_99 : decode cHart_longAtomic 99 = .ok (.iload_n 1, 1) := by decide +kernel
theorem dHart_longAtomic_100 : decode cHart_longAtomic 100 = .ok (.invokestatic 157, 3) := by decide +kernel
theorem dHart_longAtomic_103 : decode cHart_longAtomic 103 = .ok (.iaload, 1) := by decide +kernel
theorem dHart_longAtomic_104 : decode cHart_longAtomic 104 = .ok (.istore 5, 2) := by decide +kernel
theorem dHart_longAtomic_106 : decode cHart_longAtomic 106 = .ok (.iload_n 2, 1) := by decide +kernel
theorem dHart_longAtomic_107 : decode cHart_longAtomic 107 = .ok (.lookupswitch 43 #[(2, 25), (3, 33)], 25) := by decide +kernel
theorem dHart_longAtomic_132 : decode cHart_longAtomic 132 = .ok (.aload_n 0, 1) := by decide +kernel
theorem dHart_longAtomic_133 : decode cHart_longAtomic 133 = .ok (.iload 4, 2) := by decide +kernel
theorem dHart_longAtomic_135 : decode cHart_longAtomic 135 = .ok (.iload_n 3, 1) := by decide +kernel
theorem dHart_longAtomic_136 : decode cHart_longAtomic 136 = .ok (.invokevirtual 197, 3) := by decide +kernel
theorem dHart_longAtomic_139 : decode cHart_longAtomic 139 = .ok (.ireturn, 1) := by decide +kernel
theorem dHart_longAtomic_140 : decode cHart_longAtomic 140 = .ok (.aload_n 0, 1) := by decide +kernel
theorem dHart_longAtomic_141 : decode cHart_longAtomic 141 = .ok (.iload 4, 2) := by decide +kernel
theorem dHart_longAtomic_143 : decode cHart_longAtomic 143 = .ok (.iload_n 3, 1) := by decide +kernel
theorem dHart_longAtomic_144 : decode cHart_longAtomic 144 = .ok (.iload 5, 2) := by decide +kernel
theorem dHart_longAtomic_146 : decode cHart_longAtomic 146 = .ok (.invokevirtual 200, 3) := by decide +kernel
theorem dHart_longAtomic_149 : decode cHart_longAtomic 149 = .ok (.ireturn, 1) := by decide +kernel
theorem dHart_longAtomic_150 : decode cHart_longAtomic 150 = .ok (.aload_n 0, 1) := by decide +kernel
theorem dHart_longAtomic_151 : decode cHart_longAtomic 151 = .ok (.iload_n 2, 1) := by decide +kernel
theorem dHart_longAtomic_152 : decode cHart_longAtomic 152 = .ok (.iload 4, 2) := by decide +kernel
theorem dHart_longAtomic_154 : decode cHart_longAtomic 154 = .ok (.iload_n 3, 1) := by decide +kernel
theorem dHart_longAtomic_155 : decode cHart_longAtomic 155 = .ok (.iload 5, 2) := by decide +kernel
theorem dHart_longAtomic_157 : decode cHart_longAtomic 157 = .ok (.invokevirtual 203, 3) := by decide +kernel
theorem dHart_longAtomic_160 : decode cHart_longAtomic 160 = .ok (.ireturn, 1) := by decide +kernel
theorem dHart_loadReserved_0 : decode cHart_loadReserved 0 = .ok (.aload_n 0, 1) := by decide +kernel
theorem dHart_loadReserved_1 : decode cHart_loadReserved 1 = .ok (.getfield 10, 3) := by decide +kernel
theorem dHart_loadReserved_4 : decode cHart_loadReserved 4 = .ok (.iload_n 2, 1) := by decide +kernel
theorem dHart_loadReserved_5 : decode cHart_loadReserved 5 = .ok (.invokevirtual 207, 3) := by decide +kernel
theorem dHart_loadReserved_8 : decode cHart_loadReserved 8 = .ok (.aload_n 0, 1) := by decide +kernel
theorem dHart_loadReserved_9 : decode cHart_loadReserved 9 = .ok (.iload_n 1, 1) := by decide +kernel
theorem dHart_loadReserved_10 : decode cHart_loadReserved 10 = .ok (.aload_n 0, 1) := by decide +kernel
theorem dHart_loadReserved_11 : decode cHart_loadReserved 11 = .ok (.getfield 10, 3) := by decide +kernel
theorem dHart_loadReserved_14 : decode cHart_loadReserved 14 = .ok (.iconst 2, 1) := by decide +kernel
theorem dHart_loadReserved_15 : decode cHart_loadReserved 15 = .ok (.iload_n 2, 1) := by decide +kernel
theorem dHart_loadReserved_16 : decode cHart_loadReserved 16 = .ok (.invokevirtual 41, 3) := by decide +kernel
theorem dHart_loadReserved_19 : decode cHart_loadReserved 19 = .ok (.invokevirtual 57, 3) := by decide +kernel
theorem dHart_loadReserved_22 : decode cHart_loadReserved 22 = .ok (.ireturn, 1) := by decide +kernel
theorem dHart_storeConditional_0 : decode cHart_storeConditional 0 = .ok (.aload_n 0, 1) := by decide +kernel
theorem dHart_storeConditional_1 : decode cHart_storeConditional 1 = .ok (.getfield 10, 3) := by decide +kernel
theorem dHart_storeConditional_4 : decode cHart_storeConditional 4 = .ok (.invokevirtual 83, 3) := by decide +kernel
theorem dHart_storeConditional_7 : decode cHart_storeConditional 7 = .ok (.iload_n 2, 1) := by decide +kernel
theorem dHart_storeConditional_8 : decode cHart_storeConditional 8 = .ok (.if_icmp .ne 7, 3) := by decide +kernel
theorem dHart_storeConditional_11 : decode cHart_storeConditional 11 = .ok (.iconst 1, 1) := by decide +kernel
theorem dHart_storeConditional_12 : decode cHart_storeConditional 12 = .ok (.goto 4, 3) := by decide +kernel
theorem dHart_storeConditional_15 : decode cHart_storeConditional 15 = .ok (.iconst 0, 1) := by decide +kernel
theorem dHart_storeConditional_16 : decode cHart_storeConditional 16 = .ok (.istore 4, 2) := by decide +kernel
theorem dHart_storeConditional_18 : decode cHart_storeConditional 18 = .ok (.iload 4, 2) := by decide +kernel
theorem dHart_storeConditional_20 : decode cHart_storeConditional 20 = .ok (.ifCond .eq 13, 3) := by decide +kernel
theorem dHart_storeConditional_23 : decode cHart_storeConditional 23 = .ok (.aload_n 0, 1) := by decide +kernel
theorem dHart_storeConditional_24 : decode cHart_storeConditional 24 = .ok (.getfield 10, 3) := by decide +kernel
theorem dHart_storeConditional_27 : decode cHart_storeConditional 27 = .ok (.iconst 2, 1) := by decide +kernel
theorem dHart_storeConditional_28 : decode cHart_storeConditional 28 = .ok (.iload_n 2, 1) := by decide +kernel
theorem dHart_storeConditional_29 : decode cHart_storeConditional 29 = .ok (.iload_n 3, 1) := by decide +kernel
theorem dHart_storeConditional_30 : decode cHart_storeConditional 30 = .ok (.invokevirtual 31, 3) := by decide +kernel
theorem dHart_storeConditional_33 : decode cHart_storeConditional 33 = .ok (.aload_n 0, 1) := by decide +kernel
theorem dHart_storeConditional_34 : decode cHart_storeConditional 34 = .ok (.getfield 10, 3) := by decide +kernel
theorem dHart_storeConditional_37 : decode cHart_storeConditional 37 = .ok (.iconst (-1), 1) := by decide +kernel
theorem dHart_storeConditional_38 : decode cHart_storeConditional 38 = .ok (.invokevirtual 207, 3) := by decide +kernel
theorem dHart_storeConditional_41 : decode cHart_storeConditional 41 = .ok (.aload_n 0, 1) := by decide +kernel
theorem dHart_storeConditional_42 : decode cHart_storeConditional 42 = .ok (.iload_n 1, 1) := by decide +kernel
theorem dHart_storeConditional_43 : decode cHart_storeConditional 43 = .ok (.iload 4, 2) := by decide +kernel
theorem dHart_storeConditional_45 : decode cHart_storeConditional 45 = .ok (.ifCond .eq 7, 3) := by decide +kernel
theorem dHart_storeConditional_48 : decode cHart_storeConditional 48 = .ok (.iconst 0, 1) := by decide +kernel
theorem dHart_storeConditional_49 : decode cHart_storeConditional 49 = .ok (.goto 4, 3) := by decide +kernel
theorem dHart_storeConditional_52 : decode cHart_storeConditional 52 = .ok (.iconst 1, 1) := by decide +kernel
theorem dHart_storeConditional_53 : decode cHart_storeConditional 53 = .ok (.invokevirtual 57, 3) := by decide +kernel
theorem dHart_storeConditional_56 : decode cHart_storeConditional 56 = .ok (.ireturn, 1) := by decide +kernel
theorem dHart_change_0 : decode cHart_change 0 = .ok (.aload_n 0, 1) := by decide +kernel
theorem dHart_change_1 : decode cHart_change 1 = .ok (.getfield 10, 3) := by decide +kernel
theorem dHart_change_4 : decode cHart_change 4 = .ok (.iconst 2, 1) := by decide +kernel
theorem dHart_change_5 : decode cHart_change 5 = .ok (.iload_n 3, 1) := by decide +kernel
theorem dHart_change_6 : decode cHart_change 6 = .ok (.invokevirtual 41, 3) := by decide +kernel
theorem dHart_change_9 : decode cHart_change 9 = .ok (.istore 5, 2) := by decide +kernel
theorem dHart_change_11 : decode cHart_change 11 = .ok (.aload_n 0, 1) := by decide +kernel
theorem dHart_change_12 : decode cHart_change 12 = .ok (.getfield 10, 3) := by decide +kernel
theorem dHart_change_15 : decode cHart_change 15 = .ok (.iconst 2, 1) := by decide +kernel
theorem dHart_change_16 : decode cHart_change 16 = .ok (.iload_n 3, 1) := by decide +kernel
theorem dHart_change_17 : decode cHart_change 17 = .ok (.iload_n 1, 1) := by decide +kernel
theorem dHart_change_18 : decode cHart_change 18 = .ok (.iload 5, 2) := by decide +kernel
theorem dHart_change_20 : decode cHart_change 20 = .ok (.iload 4, 2) := by decide +kernel
theorem dHart_change_22 : decode cHart_change 22 = .ok (.invokestatic 211, 3) := by decide +kernel
theorem dHart_change_25 : decode cHart_change 25 = .ok (.invokevirtual 31, 3) := by decide +kernel
theorem dHart_change_28 : decode cHart_change 28 = .ok (.aload_n 0, 1) := by decide +kernel
theorem dHart_change_29 : decode cHart_change 29 = .ok (.iload_n 2, 1) := by decide +kernel
theorem dHart_change_30 : decode cHart_change 30 = .ok (.iload 5, 2) := by decide +kernel
theorem dHart_change_32 : decode cHart_change 32 = .ok (.invokevirtual 57, 3) := by decide +kernel
theorem dHart_change_35 : decode cHart_change 35 = .ok (.ireturn, 1) := by decide +kernel
theorem dHart_longSystem_0 : decode cHart_longSystem 0 = .ok (.iload_n 1, 1) := by decide +kernel
theorem dHart_longSystem_1 : decode cHart_longSystem 1 = .ok (.bipush 115, 2) := by decide +kernel
theorem dHart_longSystem_3 : decode cHart_longSystem 3 = .ok (.if_icmp .ne 10, 3) := by decide +kernel
theorem dHart_longSystem_6 : decode cHart_longSystem 6 = .ok (.aload_n 0, 1) := by decide +kernel
theorem dHart_longSystem_7 : decode cHart_longSystem 7 = .ok (.iconst 3, 1) := by decide +kernel
theorem dHart_longSystem_8 : decode cHart_longSystem 8 = .ok (.iconst 0, 1) := by decide +kernel
theorem dHart_longSystem_9 : decode cHart_longSystem 9 = .ok (.invokevirtual 91, 3) := by decide +kernel
theorem dHart_longSystem_12 : decode cHart_longSystem 12 = .ok (.ireturn, 1) := by decide +kernel
theorem dHart_longSystem_13 : decode cHart_longSystem 13 = .ok (.iload_n 1, 1) := by decide +kernel
theorem dHart_longSystem_14 : decode cHart_longSystem 14 = .ok (.ldc 214, 2) := by decide +kernel
theorem dHart_longSystem_16 : decode cHart_longSystem 16 = .ok (.if_icmp .ne 10, 3) := by decide +kernel
theorem dHart_longSystem_19 : decode cHart_longSystem 19 = .ok (.aload_n 0, 1) := by decide +kernel
theorem dHart_longSystem_20 : decode cHart_longSystem 20 = .ok (.iconst 4, 1) := by decide +kernel
theorem dHart_longSystem_21 : decode cHart_longSystem 21 = .ok (.iconst 0, 1) := by decide +kernel
theorem dHart_longSystem_22 : decode cHart_longSystem 22 = .ok (.invokevirtual 91, 3) := by decide +kernel
theorem dHart_longSystem_25 : decode cHart_longSystem 25 = .ok (.ireturn, 1) := by decide +kernel
theorem dHart_longSystem_26 : decode cHart_longSystem 26 = .ok (.iload_n 1, 1) := by decide +kernel
theorem dHart_longSystem_27 : decode cHart_longSystem 27 = .ok (.invokestatic 145, 3) := by decide +kernel
theorem dHart_longSystem_30 : decode cHart_longSystem 30 = .ok (.iconst 2, 1) := by decide +kernel
theorem dHart_longSystem_31 : decode cHart_longSystem 31 = .ok (.iand, 1) := by decide +kernel
theorem dHart_longSystem_32 : decode cHart_longSystem 32 = .ok (.ifCond .eq 14, 3) := by decide +kernel
theorem dHart_longSystem_35 : decode cHart_longSystem 35 = .ok (.iload_n 1, 1) := by decide +kernel
theorem dHart_longSystem_36 : decode cHart_longSystem 36 = .ok (.invokestatic 151, 3) := by decide +kernel
theorem dHart_longSystem_39 : decode cHart_longSystem 39 = .ok (.ifCond .ne 7, 3) := by decide +kernel
theorem dHart_longSystem_42 : decode cHart_longSystem 42 = .ok (.iconst 1, 1) := by decide +kernel
theorem dHart_longSystem_43 : decode cHart_longSystem 43 = .ok (.goto 4, 3) := by decide +kernel
theorem dHart_longSystem_46 : decode cHart_longSystem 46 = .ok (.iconst 0, 1) := by decide +kernel
theorem dHart_longSystem_47 : decode cHart_longSystem 47 = .ok (.istore_n 2, 1) := by decide +kernel
theorem dHart_longSystem_48 : decode cHart_longSystem 48 = .ok (.iload_n 2, 1) := by decide +kernel
theorem dHart_longSystem_49 : decode cHart_longSystem 49 = .ok (.ifCond .eq 11, 3) := by decide +kernel
theorem dHart_longSystem_52 : decode cHart_longSystem 52 = .ok (.aload_n 0, 1) := by decide +kernel
theorem dHart_longSystem_53 : decode cHart_longSystem 53 = .ok (.iload_n 1, 1) := by decide +kernel
theorem dHart_longSystem_54 : decode cHart_longSystem 54 = .ok (.invokevirtual 215, 3) := by decide +kernel
theorem dHart_longSystem_57 : decode cHart_longSystem 57 = .ok (.goto 9, 3) := by decide +kernel
theorem dHart_longSystem_60 : decode cHart_longSystem 60 = .ok (.aload_n 0, 1) := by decide +kernel
theorem dHart_longSystem_61 : decode cHart_longSystem 61 = .ok (.iconst 2, 1) := by decide +kernel
theorem dHart_longSystem_62 : decode cHart_longSystem 62 = .ok (.iload_n 1, 1) := by decide +kernel
theorem dHart_longSystem_63 : decode cHart_longSystem 63 = .ok (.invokevirtual 91, 3) := by decide +kernel
theorem dHart_longSystem_66 : decode cHart_longSystem 66 = .ok (.ireturn, 1) := by decide +kernel
theorem dHart_readCounter_0 : decode cHart_readCounter 0 = .ok (.iload_n 1, 1) := by decide +kernel
theorem dHart_readCounter_1 : decode cHart_readCounter 1 = .ok (.invokestatic 113, 3) := by decide +kernel
theorem dHart_readCounter_4 : decode cHart_readCounter 4 = .ok (.istore_n 2, 1) := by decide +kernel
theorem dHart_readCounter_5 : decode cHart_readCounter 5 = .ok (.iload_n 1, 1) := by decide +kernel
theorem dHart_readCounter_6 : decode cHart_readCounter 6 = .ok (.bipush 20, 2) := by decide +kernel
theorem dHart_readCounter_8 : decode cHart_readCounter 8 = .ok (.iushr, 1) := by decide +kernel
theorem dHart_readCounter_9 : decode cHart_readCounter 9 = .ok (.lookupswitch 109 #[(3072, 59), (3073, 84), (3074, 59), (3200, 70), (3201, 95), (3202, 70)], 59) := by decide +kernel
theorem dHart_readCounter_68 : decode cHart_readCounter 68 = .ok (.aload_n 0, 1) := by decide +kernel
theorem dHart_readCounter_69 : decode cHart_readCounter 69 = .ok (.iload_n 2, 1) := by decide +kernel
theorem dHart_readCounter_70 : decode cHart_readCounter 70 = .ok (.aload_n 0, 1) := by decide +kernel
theorem dHart_readCounter_71 : decode cHart_readCounter 71 = .ok (.getfield 80, 3) := by decide +kernel
theorem dHart_readCounter_74 : decode cHart_readCounter 74 = .ok (.l2i, 1) := by decide +kernel
theorem dHart_readCounter_75 : decode cHart_readCounter 75 = .ok (.invokevirtual 57, 3) := by decide +kernel
theorem dHart_readCounter_78 : decode cHart_readCounter 78 = .ok (.ireturn, 1) := by decide +kernel
theorem dHart_readCounter_79 : decode cHart_readCounter 79 = .ok (.aload_n 0, 1) := by decide +kernel
theorem dHart_readCounter_80 : decode cHart_readCounter 80 = .ok (.iload_n 2, 1) := by decide +kernel
theorem dHart_readCounter_81 : decode cHart_readCounter 81 = .ok (.aload_n 0, 1) := by decide +kernel
theorem dHart_readCounter_82 : decode cHart_readCounter 82 = .ok (.getfield 80, 3) := by decide +kernel
theorem dHart_readCounter_85 : decode cHart_readCounter 85 = .ok (.bipush 32, 2) := by decide +kernel
theorem dHart_readCounter_87 : decode cHart_readCounter 87 = .ok (.lushr, 1) := by decide +kernel
theorem dHart_readCounter_88 : decode cHart_readCounter 88 = .ok (.l2i, 1) := by decide +kernel
theorem dHart_readCounter_89 : decode cHart_readCounter 89 = .ok (.invokevirtual 57, 3) := by decide +kernel
theorem dHart_readCounter_92 : decode cHart_readCounter 92 = .ok (.ireturn, 1) := by decide +kernel
theorem dHart_readCounter_93 : decode cHart_readCounter 93 = .ok (.aload_n 0, 1) := by decide +kernel
theorem dHart_readCounter_94 : decode cHart_readCounter 94 = .ok (.iload_n 2, 1) := by decide +kernel
theorem dHart_readCounter_95 : decode cHart_readCounter 95 = .ok (.aload_n 0, 1) := by decide +kernel
theorem dHart_readCounter_96 : decode cHart_readCounter 96 = .ok (.getfield 64, 3) := by decide +kernel
theorem dHart_readCounter_99 : decode cHart_readCounter 99 = .ok (.l2i, 1) := by decide +kernel
theorem dHart_readCounter_100 : decode cHart_readCounter 100 = .ok (.invokevirtual 57, 3) := by decide +kernel
theorem dHart_readCounter_103 : decode cHart_readCounter 103 = .ok (.ireturn, 1) := by decide +kernel
theorem dHart_readCounter_104 : decode cHart_readCounter 104 = .ok (.aload_n 0, 1) := by decide +kernel
theorem dHart_readCounter_105 : decode cHart_readCounter 105 = .ok (.iload_n 2, 1) := by decide +kernel
theorem dHart_readCounter_106 : decode cHart_readCounter 106 = .ok (.aload_n 0, 1) := by decide +kernel
theorem dHart_readCounter_107 : decode cHart_readCounter 107 = .ok (.getfield 64, 3) := by decide +kernel
theorem dHart_readCounter_110 : decode cHart_readCounter 110 = .ok (.bipush 32, 2) := by decide +kernel
theorem dHart_readCounter_112 : decode cHart_readCounter 112 = .ok (.lushr, 1) := by decide +kernel
theorem dHart_readCounter_113 : decode cHart_readCounter 113 = .ok (.l2i, 1) := by decide +kernel
theorem dHart_readCounter_114 : decode cHart_readCounter 114 = .ok (.invokevirtual 57, 3) := by decide +kernel
theorem dHart_readCounter_117 : decode cHart_readCounter 117 = .ok (.ireturn, 1) := by decide +kernel
theorem dHart_readCounter_118 : decode cHart_readCounter 118 = .ok (.aload_n 0, 1) := by decide +kernel
theorem dHart_readCounter_119 : decode cHart_readCounter 119 = .ok (.iconst 2, 1) := by decide +kernel
theorem dHart_readCounter_120 : decode cHart_readCounter 120 = .ok (.iload_n 1, 1) := by decide +kernel
theorem dHart_readCounter_121 : decode cHart_readCounter 121 = .ok (.invokevirtual 91, 3) := by decide +kernel
theorem dHart_readCounter_124 : decode cHart_readCounter 124 = .ok (.ireturn, 1) := by decide +kernel
theorem dHart_carryOutShort_0 : decode cHart_carryOutShort 0 = .ok (.iload_n 1, 1) := by decide +kernel
theorem dHart_carryOutShort_1 : decode cHart_carryOutShort 1 = .ok (.iconst 3, 1) := by decide +kernel
theorem dHart_carryOutShort_2 : decode cHart_carryOutShort 2 = .ok (.iand, 1) := by decide +kernel
theorem dHart_carryOutShort_3 : decode cHart_carryOutShort 3 = .ok (.lookupswitch 37 #[(0, 25), (1, 31)], 25) := by decide +kernel
theorem dHart_carryOutShort_28 : decode cHart_carryOutShort 28 = .ok (.aload_n 0, 1) := by decide +kernel
theorem dHart_carryOutShort_29 : decode cHart_carryOutShort 29 = .ok (.iload_n 1, 1) := by decide +kernel
theorem dHart_carryOutShort_30 : decode cHart_carryOutShort 30 = .ok (.invokevirtual 218, 3) := by decide +kernel
theorem dHart_carryOutShort_33 : decode cHart_carryOutShort 33 = .ok (.ireturn, 1) := by decide +kernel
theorem dHart_carryOutShort_34 : decode cHart_carryOutShort 34 = .ok (.aload_n 0, 1) := by decide +kernel
theorem dHart_carryOutShort_35 : decode cHart_carryOutShort 35 = .ok (.iload_n 1, 1) := by decide +kernel
theorem dHart_carryOutShort_36 : decode cHart_carryOutShort 36 = .ok (.invokevirtual 221, 3) := by decide +kernel
theorem dHart_carryOutShort_39 : decode cHart_carryOutShort 39 = .ok (.ireturn, 1) := by decide +kernel
theorem dHart_carryOutShort_40 : decode cHart_carryOutShort 40 = .ok (.aload_n 0, 1) := by decide +kernel
theorem dHart_carryOutShort_41 : decode cHart_carryOutShort 41 = .ok (.iload_n 1, 1) := by decide +kernel
theorem dHart_carryOutShort_42 : decode cHart_carryOutShort 42 = .ok (.invokevirtual 224, 3) := by decide +kernel
theorem dHart_carryOutShort_45 : decode cHart_carryOutShort 45 = .ok (.ireturn, 1) := by decide +kernel
theorem dHart_shortOfQ0_0 : decode cHart_shortOfQ0 0 = .ok (.iload_n 1, 1) := by decide +kernel
theorem dHart_shortOfQ0_1 : decode cHart_shortOfQ0 1 = .ok (.invokestatic 227, 3) := by decide +kernel
theorem dHart_shortOfQ0_4 : decode cHart_shortOfQ0 4 = .ok (.istore_n 2, 1) := by decide +kernel
theorem dHart_shortOfQ0_5 : decode cHart_shortOfQ0 5 = .ok (.aload_n 0, 1) := by decide +kernel
theorem dHart_shortOfQ0_6 : decode cHart_shortOfQ0 6 = .ok (.getfield 16, 3) := by decide +kernel
theorem dHart_shortOfQ0_9 : decode cHart_shortOfQ0 9 = .ok (.iload_n 1, 1) := by decide +kernel
theorem dHart_shortOfQ0_10 : decode cHart_shortOfQ0 10 = .ok (.invokestatic 232, 3) := by decide +kernel
theorem dHart_shortOfQ0_13 : decode cHart_shortOfQ0 13 = .ok (.iaload, 1) := by decide +kernel
theorem dHart_shortOfQ0_14 : decode cHart_shortOfQ0 14 = .ok (.iload_n 1, 1) := by decide +kernel
theorem dHart_shortOfQ0_15 : decode cHart_shortOfQ0 15 = .ok (.invokestatic 235, 3) := by decide +kernel
theorem dHart_shortOfQ0_18 : decode cHart_shortOfQ0 18 = .ok (.iadd, 1) := by decide +kernel
theorem dHart_shortOfQ0_19 : decode cHart_shortOfQ0 19 = .ok (.istore_n 3, 1) := by decide +kernel
theorem dHart_shortOfQ0_20 : decode cHart_shortOfQ0 20 = .ok (.iload_n 1, 1) := by decide +kernel
theorem dHart_shortOfQ0_21 : decode cHart_shortOfQ0 21 = .ok (.invokestatic 238, 3) := by decide +kernel
theorem dHart_shortOfQ0_24 : decode cHart_shortOfQ0 24 = .ok (.lookupswitch 92 #[(0, 36), (2, 71), (6, 79)], 36) := by decide +kernel
theorem dHart_shortOfQ0_60 : decode cHart_shortOfQ0 60 = .ok (.iload_n 1, 1) := by decide +kernel
theorem dHart_shortOfQ0_61 : decode cHart_shortOfQ0 61 = .ok (.invokestatic 239, 3) := by decide +kernel
theorem dHart_shortOfQ0_64 : decode cHart_shortOfQ0 64 = .ok (.istore 4, 2) := by decide +kernel
theorem dHart_shortOfQ0_66 : decode cHart_shortOfQ0 66 = .ok (.iload 4, 2) := by decide +kernel
theorem dHart_shortOfQ0_68 : decode cHart_shortOfQ0 68 = .ok (.ifCond .ne 12, 3) := by decide +kernel
theorem dHart_shortOfQ0_71 : decode cHart_shortOfQ0 71 = .ok (.aload_n 0, 1) := by decide +kernel
theorem dHart_shortOfQ0_72 : decode cHart_shortOfQ0 72 = .ok (.iconst 2, 1) := by decide +kernel
theorem dHart_shortOfQ0_73 : decode cHart_shortOfQ0 73 = .ok (.iload_n 1, 1) := by decide +kernel
theorem dHart_shortOfQ0_74 : decode cHart_shortOfQ0 74 = .ok (.invokevirtual 91, 3) := by decide +kernel
theorem dHart_shortOfQ0_77 : decode cHart_shortOfQ0 77 = .ok (.goto 17, 3) := by decide +kernel
theorem dHart_shortOfQ0_80 : decode cHart_shortOfQ0 80 = .ok (.aload_n 0, 1) := by decide +kernel
theorem dHart_shortOfQ0_81 : decode cHart_shortOfQ0 81 = .ok (.iload_n 2, 1) := by decide +kernel
theorem dHart_shortOfQ0_82 : decode cHart_shortOfQ0 82 = .ok (.aload_n 0, 1) := by decide +kernel
theorem dHart_shortOfQ0_83 : decode cHart_shortOfQ0 83 = .ok (.getfield 16, 3) := by decide +kernel
theorem dHart_shortOfQ0_86 : decode cHart_shortOfQ0 86 = .ok (.iconst 2, 1) := by decide +kernel
theorem dHart_shortOfQ0_87 : decode cHart_shortOfQ0 87 = .ok (.iaload, 1) := by decide +kernel
theorem dHart_shortOfQ0_88 : decode cHart_shortOfQ0 88 = .ok (.iload 4, 2) := by decide +kernel
theorem dHart_shortOfQ0_90 : decode cHart_shortOfQ0 90 = .ok (.iadd, 1) := by decide +kernel
theorem dHart_shortOfQ0_91 : decode cHart_shortOfQ0 91 = .ok (.invokevirtual 57, 3) := by decide +kernel
theorem dHart_shortOfQ0_94 : decode cHart_shortOfQ0 94 = .ok (.ireturn, 1) := by decide +kernel
theorem dHart_shortOfQ0_95 : decode cHart_shortOfQ0 95 = .ok (.aload_n 0, 1) := by decide +kernel
theorem dHart_shortOfQ0_96 : decode cHart_shortOfQ0 96 = .ok (.iconst 2, 1) := by decide +kernel
theorem dHart_shortOfQ0_97 : decode cHart_shortOfQ0 97 = .ok (.iload_n 2, 1) := by decide +kernel
theorem dHart_shortOfQ0_98 : decode cHart_shortOfQ0 98 = .ok (.iload_n 3, 1) := by decide +kernel
theorem dHart_shortOfQ0_99 : decode cHart_shortOfQ0 99 = .ok (.invokevirtual 172, 3) := by decide +kernel
theorem dHart_shortOfQ0_102 : decode cHart_shortOfQ0 102 = .ok (.ireturn, 1) := by decide +kernel
theorem dHart_shortOfQ0_103 : decode cHart_shortOfQ0 103 = .ok (.aload_n 0, 1) := by decide +kernel
theorem dHart_shortOfQ0_104 : decode cHart_shortOfQ0 104 = .ok (.iconst 2, 1) := by decide +kernel
theorem dHart_shortOfQ0_105 : decode cHart_shortOfQ0 105 = .ok (.iload_n 3, 1) := by decide +kernel
theorem dHart_shortOfQ0_106 : decode cHart_shortOfQ0 106 = .ok (.aload_n 0, 1) := by decide +kernel
theorem dHart_shortOfQ0_107 : decode cHart_shortOfQ0 107 = .ok (.getfield 16, 3) := by decide +kernel
theorem dHart_shortOfQ0_110 : decode cHart_shortOfQ0 110 = .ok (.iload_n 2, 1) := by decide +kernel
theorem dHart_shortOfQ0_111 : decode cHart_shortOfQ0 111 = .ok (.iaload, 1) := by decide +kernel
theorem dHart_shortOfQ0_112 : decode cHart_shortOfQ0 112 = .ok (.invokevirtual 179, 3) := by decide +kernel
theorem dHart_shortOfQ0_115 : decode cHart_shortOfQ0 115 = .ok (.ireturn, 1) := by decide +kernel
theorem dHart_shortOfQ0_116 : decode cHart_shortOfQ0 116 = .ok (.aload_n 0, 1) := by decide +kernel
theorem dHart_shortOfQ0_117 : decode cHart_shortOfQ0 117 = .ok (.iconst 2, 1) := by decide +kernel
theorem dHart_shortOfQ0_118 : decode cHart_shortOfQ0 118 = .ok (.iload_n 1, 1) := by decide +kernel
theorem dHart_shortOfQ0_119 : decode cHart_shortOfQ0 119 = .ok (.invokevirtual 91, 3) := by decide +kernel
theorem dHart_shortOfQ0_122 : decode cHart_shortOfQ0 122 = .ok (.ireturn, 1) := by decide +kernel
theorem dHart_shortOfQ1_0 : decode cHart_shortOfQ1 0 = .ok (.iload_n 1, 1) := by decide +kernel
theorem dHart_shortOfQ1_1 : decode cHart_shortOfQ1 1 = .ok (.invokestatic 242, 3) := by decide +kernel
theorem dHart_shortOfQ1_4 : decode cHart_shortOfQ1 4 = .ok (.istore_n 2, 1) := by decide +kernel
theorem dHart_shortOfQ1_5 : decode cHart_shortOfQ1 5 = .ok (.iload_n 1, 1) := by decide +kernel
theorem dHart_shortOfQ1_6 : decode cHart_shortOfQ1 6 = .ok (.invokestatic 243, 3) := by decide +kernel
theorem dHart_shortOfQ1_9 : decode cHart_shortOfQ1 9 = .ok (.istore_n 3, 1) := by decide +kernel
theorem dHart_shortOfQ1_10 : decode cHart_shortOfQ1 10 = .ok (.iload_n 1, 1) := by decide +kernel
theorem dHart_shortOfQ1_11 : decode cHart_shortOfQ1 11 = .ok (.invokestatic 238, 3) := by decide +kernel
theorem dHart_shortOfQ1_14 : decode cHart_shortOfQ1 14 = .ok (.tableswitch 149 0 6 #[42, 56, 71, 78, 97, 103, 118], 42) := by decide +kernel
theorem dHart_shortOfQ1_56 : decode cHart_shortOfQ1 56 = .ok (.aload_n 0, 1) := by decide +kernel
theorem dHart_shortOfQ1_57 : decode cHart_shortOfQ1 57 = .ok (.iload_n 2, 1) := by decide +kernel
theorem dHart_shortOfQ1_58 : decode cHart_shortOfQ1 58 = .ok (.aload_n 0, 1) := by decide +kernel
theorem dHart_shortOfQ1_59 : decode cHart_shortOfQ1 59 = .ok (.getfield 16, 3) := by decide +kernel
theorem dHart_shortOfQ1_62 : decode cHart_shortOfQ1 62 = .ok (.iload_n 2, 1) := by decide +kernel
theorem dHart_shortOfQ1_63 : decode cHart_shortOfQ1 63 = .ok (.iaload, 1) := by decide +kernel
theorem dHart_shortOfQ1_64 : decode cHart_shortOfQ1 64 = .ok (.iload_n 3, 1) := by decide +kernel
theorem dHart_shortOfQ1_65 : decode cHart_shortOfQ1 65 = .ok (.iadd, 1) := by decide +kernel
theorem dHart_shortOfQ1_66 : decode cHart_shortOfQ1 66 = .ok (.invokevirtual 57, 3) := by decide +kernel
theorem dHart_shortOfQ1_69 : decode cHart_shortOfQ1 69 = .ok (.ireturn, 1) := by decide +kernel
theorem dHart_shortOfQ1_70 : decode cHart_shortOfQ1 70 = .ok (.aload_n 0, 1) := by decide +kernel
theorem dHart_shortOfQ1_71 : decode cHart_shortOfQ1 71 = .ok (.iconst 1, 1) := by decide +kernel
theorem dHart_shortOfQ1_72 : decode cHart_shortOfQ1 72 = .ok (.aload_n 0, 1) := by decide +kernel
theorem dHart_shortOfQ1_73 : decode cHart_shortOfQ1 73 = .ok (.getfield 60, 3) := by decide +kernel
theorem dHart_shortOfQ1_76 : decode cHart_shortOfQ1 76 = .ok (.iload_n 1, 1) := by decide +kernel
theorem dHart_shortOfQ1_77 : decode cHart_shortOfQ1 77 = .ok (.invokestatic 246, 3) := by decide +kernel
theorem dHart_shortOfQ1_80 : decode cHart_shortOfQ1 80 = .ok (.iadd, 1) := by decide +kernel
theorem dHart_shortOfQ1_81 : decode cHart_shortOfQ1 81 = .ok (.invokevirtual 107, 3) := by decide +kernel
theorem dHart_shortOfQ1_84 : decode cHart_shortOfQ1 84 = .ok (.ireturn, 1) := by decide +kernel
theorem dHart_shortOfQ1_85 : decode cHart_shortOfQ1 85 = .ok (.aload_n 0, 1) := by decide +kernel
theorem dHart_shortOfQ1_86 : decode cHart_shortOfQ1 86 = .ok (.iload_n 2, 1) := by decide +kernel
theorem dHart_shortOfQ1_87 : decode cHart_shortOfQ1 87 = .ok (.iload_n 3, 1) := by decide +kernel
theorem dHart_shortOfQ1_88 : decode cHart_shortOfQ1 88 = .ok (.invokevirtual 57, 3) := by decide +kernel
theorem dHart_shortOfQ1_91 : decode cHart_shortOfQ1 91 = .ok (.ireturn, 1) := by decide +kernel
theorem dHart_shortOfQ1_92 : decode cHart_shortOfQ1 92 = .ok (.iload_n 2, 1) := by decide +kernel
theorem dHart_shortOfQ1_93 : decode cHart_shortOfQ1 93 = .ok (.iconst 2, 1) := by decide +kernel
theorem dHart_shortOfQ1_94 : decode cHart_shortOfQ1 94 = .ok (.if_icmp .ne 11, 3) := by decide +kernel
theorem dHart_shortOfQ1_97 : decode cHart_shortOfQ1 97 = .ok (.aload_n 0, 1) := by decide +kernel
theorem dHart_shortOfQ1_98 : decode cHart_shortOfQ1 98 = .ok (.iload_n 1, 1) := by decide +kernel
theorem dHart_shortOfQ1_99 : decode cHart_shortOfQ1 99 = .ok (.invokevirtual 247, 3) := by decide +kernel
theorem dHart_shortOfQ1_102 : decode cHart_shortOfQ1 102 = .ok (.goto 8, 3) := by decide +kernel
theorem dHart_shortOfQ1_105 : decode cHart_shortOfQ1 105 = .ok (.aload_n 0, 1) := by decide +kernel
theorem dHart_shortOfQ1_106 : decode cHart_shortOfQ1 106 = .ok (.iload_n 1, 1) := by decide +kernel
theorem dHart_shortOfQ1_107 : decode cHart_shortOfQ1 107 = .ok (.invokevirtual 250, 3) := by decide +kernel
theorem dHart_shortOfQ1_110 : decode cHart_shortOfQ1 110 = .ok (.ireturn, 1) := by decide +kernel
theorem dHart_shortOfQ1_111 : decode cHart_shortOfQ1 111 = .ok (.aload_n 0, 1) := by decide +kernel
theorem dHart_shortOfQ1_112 : decode cHart_shortOfQ1 112 = .ok (.iload_n 1, 1) := by decide +kernel
theorem dHart_shortOfQ1_113 : decode cHart_shortOfQ1 113 = .ok (.invokevirtual 253, 3) := by decide +kernel
theorem dHart_shortOfQ1_116 : decode cHart_shortOfQ1 116 = .ok (.ireturn, 1) := by decide +kernel
theorem dHart_shortOfQ1_117 : decode cHart_shortOfQ1 117 = .ok (.aload_n 0, 1) := by decide +kernel
theorem dHart_shortOfQ1_118 : decode cHart_shortOfQ1 118 = .ok (.iconst 0, 1) := by decide +kernel
theorem dHart_shortOfQ1_119 : decode cHart_shortOfQ1 119 = .ok (.aload_n 0, 1) := by decide +kernel
theorem dHart_shortOfQ1_120 : decode cHart_shortOfQ1 120 = .ok (.getfield 60, 3) := by decide +kernel
theorem dHart_shortOfQ1_123 : decode cHart_shortOfQ1 123 = .ok (.iload_n 1, 1) := by decide +kernel
theorem dHart_shortOfQ1_124 : decode cHart_shortOfQ1 124 = .ok (.invokestatic 246, 3) := by decide +kernel
theorem dHart_shortOfQ1_127 : decode cHart_shortOfQ1 127 = .ok (.iadd, 1) := by decide +kernel
theorem dHart_shortOfQ1_128 : decode cHart_shortOfQ1 128 = .ok (.invokevirtual 107, 3) := by decide +kernel
theorem dHart_shortOfQ1_131 : decode cHart_shortOfQ1 131 = .ok (.ireturn, 1) := by decide +kernel
theorem dHart_shortOfQ1_132 : decode cHart_shortOfQ1 132 = .ok (.aload_n 0, 1) := by decide +kernel
theorem dHart_shortOfQ1_133 : decode cHart_shortOfQ1 133 = .ok (.aload_n 0, 1) := by decide +kernel
theorem dHart_shortOfQ1_134 : decode cHart_shortOfQ1 134 = .ok (.getfield 16, 3) := by decide +kernel
theorem dHart_shortOfQ1_137 : decode cHart_shortOfQ1 137 = .ok (.iload_n 1, 1) := by decide +kernel
theorem dHart_shortOfQ1_138 : decode cHart_shortOfQ1 138 = .ok (.invokestatic 232, 3) := by decide +kernel
theorem dHart_shortOfQ1_141 : decode cHart_shortOfQ1 141 = .ok (.iaload, 1) := by decide +kernel
theorem dHart_shortOfQ1_142 : decode cHart_shortOfQ1 142 = .ok (.ifCond .ne 7, 3) := by decide +kernel
theorem dHart_shortOfQ1_145 : decode cHart_shortOfQ1 145 = .ok (.iconst 1, 1) := by decide +kernel
theorem dHart_shortOfQ1_146 : decode cHart_shortOfQ1 146 = .ok (.goto 4, 3) := by decide +kernel
theorem dHart_shortOfQ1_149 : decode cHart_shortOfQ1 149 = .ok (.iconst 0, 1) := by decide +kernel
theorem dHart_shortOfQ1_150 : decode cHart_shortOfQ1 150 = .ok (.aload_n 0, 1) := by decide +kernel
theorem dHart_shortOfQ1_151 : decode cHart_shortOfQ1 151 = .ok (.getfield 60, 3) := by decide +kernel
theorem dHart_shortOfQ1_154 : decode cHart_shortOfQ1 154 = .ok (.iload_n 1, 1) := by decide +kernel
theorem dHart_shortOfQ1_155 : decode cHart_shortOfQ1 155 = .ok (.invokestatic 256, 3) := by decide +kernel
theorem dHart_shortOfQ1_158 : decode cHart_shortOfQ1 158 = .ok (.iadd, 1) := by decide +kernel
theorem dHart_shortOfQ1_159 : decode cHart_shortOfQ1 159 = .ok (.invokevirtual 163, 3) := by decide +kernel
theorem dHart_shortOfQ1_162 : decode cHart_shortOfQ1 162 = .ok (.ireturn, 1) := by decide +kernel
theorem dHart_shortOfQ1_163 : decode cHart_shortOfQ1 163 = .ok (.aload_n 0, 1) := by decide +kernel
theorem dHart_shortOfQ1_164 : decode cHart_shortOfQ1 164 = .ok (.aload_n 0, 1) := by decide +kernel
theorem dHart_shortOfQ1_165 : decode cHart_shortOfQ1 165 = .ok (.getfield 16, 3) := by decide +kernel
theorem dHart_shortOfQ1_168 : decode cHart_shortOfQ1 168 = .ok (.iload_n 1, 1) := by decide +kernel
theorem dHart_shortOfQ1_169 : decode cHart_shortOfQ1 169 = .ok (.invokestatic 232, 3) := by decide +kernel
theorem dHart_shortOfQ1_172 : decode cHart_shortOfQ1 172 = .ok (.iaload, 1) := by decide +kernel
theorem dHart_shortOfQ1_173 : decode cHart_shortOfQ1 173 = .ok (.ifCond .eq 7, 3) := by decide +kernel
theorem dHart_shortOfQ1_176 : decode cHart_shortOfQ1 176 = .ok (.iconst 1, 1) := by decide +kernel
theorem dHart_shortOfQ1_177 : decode cHart_shortOfQ1 177 = .ok (.goto 4, 3) := by decide +kernel
theorem dHart_shortOfQ1_180 : decode cHart_shortOfQ1 180 = .ok (.iconst 0, 1) := by decide +kernel
theorem dHart_shortOfQ1_181 : decode cHart_shortOfQ1 181 = .ok (.aload_n 0, 1) := by decide +kernel
theorem dHart_shortOfQ1_182 : decode cHart_shortOfQ1 182 = .ok (.getfield 60, 3) := by decide +kernel
theorem dHart_shortOfQ1_185 : decode cHart_shortOfQ1 185 = .ok (.iload_n 1, 1) := by decide +kernel
theorem dHart_shortOfQ1_186 : decode cHart_shortOfQ1 186 = .ok (.invokestatic 256, 3) := by decide +kernel
theorem dHart_shortOfQ1_189 : decode cHart_shortOfQ1 189 = .ok (.iadd, 1) := by decide +kernel
theorem dHart_shortOfQ1_190 : decode cHart_shortOfQ1 190 = .ok (.invokevirtual 163, 3) := by decide +kernel
theorem dHart_shortOfQ1_193 : decode cHart_shortOfQ1 193 = .ok (.ireturn, 1) := by decide +kernel
theorem dHart_shortMoveStack_0 : decode cHart_shortMoveStack 0 = .ok (.iload_n 1, 1) := by decide +kernel
theorem dHart_shortMoveStack_1 : decode cHart_shortMoveStack 1 = .ok (.invokestatic 257, 3) := by decide +kernel
theorem dHart_shortMoveStack_4 : decode cHart_shortMoveStack 4 = .ok (.istore_n 2, 1) := by decide +kernel
theorem dHart_shortMoveStack_5 : decode cHart_shortMoveStack 5 = .ok (.iload_n 2, 1) := by decide +kernel
theorem dHart_shortMoveStack_6 : decode cHart_shortMoveStack 6 = .ok (.ifCond .ne 12, 3) := by decide +kernel
theorem dHart_shortMoveStack_9 : decode cHart_shortMoveStack 9 = .ok (.aload_n 0, 1) := by decide +kernel
theorem dHart_shortMoveStack_10 : decode cHart_shortMoveStack 10 = .ok (.iconst 2, 1) := by decide +kernel
theorem dHart_shortMoveStack_11 : decode cHart_shortMoveStack 11 = .ok (.iload_n 1, 1) := by decide +kernel
theorem dHart_shortMoveStack_12 : decode cHart_shortMoveStack 12 = .ok (.invokevirtual 91, 3) := by decide +kernel
theorem dHart_shortMoveStack_15 : decode cHart_shortMoveStack 15 = .ok (.goto 16, 3) := by decide +kernel
theorem dHart_shortMoveStack_18 : decode cHart_shortMoveStack 18 = .ok (.aload_n 0, 1) := by decide +kernel
theorem dHart_shortMoveStack_19 : decode cHart_shortMoveStack 19 = .ok (.iconst 2, 1) := by decide +kernel
theorem dHart_shortMoveStack_20 : decode cHart_shortMoveStack 20 = .ok (.aload_n 0, 1) := by decide +kernel
theorem dHart_shortMoveStack_21 : decode cHart_shortMoveStack 21 = .ok (.getfield 16, 3) := by decide +kernel
theorem dHart_shortMoveStack_24 : decode cHart_shortMoveStack 24 = .ok (.iconst 2, 1) := by decide +kernel
theorem dHart_shortMoveStack_25 : decode cHart_shortMoveStack 25 = .ok (.iaload, 1) := by decide +kernel
theorem dHart_shortMoveStack_26 : decode cHart_shortMoveStack 26 = .ok (.iload_n 2, 1) := by decide +kernel
theorem dHart_shortMoveStack_27 : decode cHart_shortMoveStack 27 = .ok (.iadd, 1) := by decide +kernel
theorem dHart_shortMoveStack_28 : decode cHart_shortMoveStack 28 = .ok (.invokevirtual 57, 3) := by decide +kernel
theorem dHart_shortMoveStack_31 : decode cHart_shortMoveStack 31 = .ok (.ireturn, 1) := by decide +kernel
theorem dHart_shortUpperNumber_0 : decode cHart_shortUpperNumber 0 = .ok (.iload_n 1, 1) := by decide +kernel
theorem dHart_shortUpperNumber_1 : decode cHart_shortUpperNumber 1 = .ok (.invokestatic 243, 3) := by decide +kernel
theorem dHart_shortUpperNumber_4 : decode cHart_shortUpperNumber 4 = .ok (.istore_n 2, 1) := by decide +kernel
theorem dHart_shortUpperNumber_5 : decode cHart_shortUpperNumber 5 = .ok (.iload_n 2, 1) := by decide +kernel
theorem dHart_shortUpperNumber_6 : decode cHart_shortUpperNumber 6 = .ok (.ifCond .ne 12, 3) := by decide +kernel
theorem dHart_shortUpperNumber_9 : decode cHart_shortUpperNumber 9 = .ok (.aload_n 0, 1) := by decide +kernel
theorem dHart_shortUpperNumber_10 : decode cHart_shortUpperNumber 10 = .ok (.iconst 2, 1) := by decide +kernel
theorem dHart_shortUpperNumber_11 : decode cHart_shortUpperNumber 11 = .ok (.iload_n 1, 1) := by decide +kernel
theorem dHart_shortUpperNumber_12 : decode cHart_shortUpperNumber 12 = .ok (.invokevirtual 91, 3) := by decide +kernel
theorem dHart_shortUpperNumber_15 : decode cHart_shortUpperNumber 15 = .ok (.goto 15, 3) := by decide +kernel
theorem dHart_shortUpperNumber_18 : decode cHart_shortUpperNumber 18 = .ok (.aload_n 0, 1) := by decide +kernel
theorem dHart_shortUpperNumber_19 : decode cHart_shortUpperNumber 19 = .ok (.iload_n 1, 1) := by decide +kernel
theorem dHart_shortUpperNumber_20 : decode cHart_shortUpperNumber 20 = .ok (.invokestatic 242, 3) := by decide +kernel
theorem dHart_shortUpperNumber_23 : decode cHart_shortUpperNumber 23 = .ok (.iload_n 2, 1) := by decide +kernel
theorem dHart_shortUpperNumber_24 : decode cHart_shortUpperNumber 24 = .ok (.bipush 12, 2) := by decide +kernel
theorem dHart_shortUpperNumber_26 : decode cHart_shortUpperNumber 26 = .ok (.ishl, 1) := by decide +kernel
theorem dHart_shortUpperNumber_27 : decode cHart_shortUpperNumber 27 = .ok (.invokevirtual 57, 3) := by decide +kernel
theorem dHart_shortUpperNumber_30 : decode cHart_shortUpperNumber 30 = .ok (.ireturn, 1) := by decide +kernel
theorem dHart_shortArithmetic_0 : decode cHart_shortArithmetic 0 = .ok (.iload_n 1, 1) := by decide +kernel
theorem dHart_shortArithmetic_1 : decode cHart_shortArithmetic 1 = .ok (.invokestatic 232, 3) := by decide +kernel
theorem dHart_shortArithmetic_4 : decode cHart_shortArithmetic 4 = .ok (.istore_n 2, 1) := by decide +kernel
theorem dHart_shortArithmetic_5 : decode cHart_shortArithmetic 5 = .ok (.aload_n 0, 1) := by decide +kernel
theorem dHart_shortArithmetic_6 : decode cHart_shortArithmetic 6 = .ok (.getfield 16, 3) := by decide +kernel
theorem dHart_shortArithmetic_9 : decode cHart_shortArithmetic 9 = .ok (.iload_n 2, 1) := by decide +kernel
theorem dHart_shortArithmetic_10 : decode cHart_shortArithmetic 10 = .ok (.iaload, 1) := by decide +kernel
theorem dHart_shortArithmetic_11 : decode cHart_shortArithmetic 11 = .ok (.istore_n 3, 1) := by decide +kernel
theorem dHart_shortArithmetic_12 : decode cHart_shortArithmetic 12 = .ok (.iload_n 1, 1) := by decide +kernel
theorem dHart_shortArithmetic_13 : decode cHart_shortArithmetic 13 = .ok (.bipush 10, 2) := by decide +kernel
theorem dHart_shortArithmetic_15 : decode cHart_shortArithmetic 15 = .ok (.iconst 2, 1) := by decide +kernel
theorem dHart_shortArithmetic_16 : decode cHart_shortArithmetic 16 = .ok (.invokestatic 260, 3) := by decide +kernel
theorem dHart_shortArithmetic_19 : decode cHart_shortArithmetic 19 = .ok (.istore 4, 2) := by decide +kernel
theorem dHart_shortArithmetic_21 : decode cHart_shortArithmetic 21 = .ok (.iload 4, 2) := by decide +kernel
theorem dHart_shortArithmetic_23 : decode cHart_shortArithmetic 23 = .ok (.iconst 2, 1) := by decide +kernel
theorem dHart_shortArithmetic_24 : decode cHart_shortArithmetic 24 = .ok (.if_icmp .ne 15, 3) := by decide +kernel
theorem dHart_shortArithmetic_27 : decode cHart_shortArithmetic 27 = .ok (.aload_n 0, 1) := by decide +kernel
theorem dHart_shortArithmetic_28 : decode cHart_shortArithmetic 28 = .ok (.iload_n 2, 1) := by decide +kernel
theorem dHart_shortArithmetic_29 : decode cHart_shortArithmetic 29 = .ok (.iload_n 3, 1) := by decide +kernel
theorem dHart_shortArithmetic_30 : decode cHart_shortArithmetic 30 = .ok (.iload_n 1, 1) := by decide +kernel
theorem dHart_shortArithmetic_31 : decode cHart_shortArithmetic 31 = .ok (.invokestatic 243, 3) := by decide +kernel
theorem dHart_shortArithmetic_34 : decode cHart_shortArithmetic 34 = .ok (.iand, 1) := by decide +kernel
theorem dHart_shortArithmetic_35 : decode cHart_shortArithmetic 35 = .ok (.invokevirtual 57, 3) := by decide +kernel
theorem dHart_shortArithmetic_38 : decode cHart_shortArithmetic 38 = .ok (.ireturn, 1) := by decide +kernel
theorem dHart_shortArithmetic_39 : decode cHart_shortArithmetic 39 = .ok (.iload_n 1, 1) := by decide +kernel
theorem dHart_shortArithmetic_40 : decode cHart_shortArithmetic 40 = .ok (.invokestatic 265, 3) := by decide +kernel
theorem dHart_shortArithmetic_43 : decode cHart_shortArithmetic 43 = .ok (.ifCond .eq 10, 3) := by decide +kernel
theorem dHart_shortArithmetic_46 : decode cHart_shortArithmetic 46 = .ok (.aload_n 0, 1) := by decide +kernel
theorem dHart_shortArithmetic_47 : decode cHart_shortArithmetic 47 = .ok (.iconst 2, 1) := by decide +kernel
theorem dHart_shortArithmetic_48 : decode cHart_shortArithmetic 48 = .ok (.iload_n 1, 1) := by decide +kernel
theorem dHart_shortArithmetic_49 : decode cHart_shortArithmetic 49 = .ok (.invokevirtual 91, 3) := by decide +kernel
theorem dHart_shortArithmetic_52 : decode cHart_shortArithmetic 52 = .ok (.ireturn, 1) := by decide +kernel
theorem dHart_shortArithmetic_53 : decode cHart_shortArithmetic 53 = .ok (.aload_n 0, 1) := by decide +kernel
theorem dHart_shortArithmetic_54 : decode cHart_shortArithmetic 54 = .ok (.getfield 16, 3) := by decide +kernel
theorem dHart_shortArithmetic_57 : decode cHart_shortArithmetic 57 = .ok (.iload_n 1, 1) := by decide +kernel
theorem dHart_shortArithmetic_58 : decode cHart_shortArithmetic 58 = .ok (.invokestatic 227, 3) := by decide +kernel
theorem dHart_shortArithmetic_61 : decode cHart_shortArithmetic 61 = .ok (.iaload, 1) := by decide +kernel
theorem dHart_shortArithmetic_62 : decode cHart_shortArithmetic 62 = .ok (.istore 5, 2) := by decide +kernel
theorem dHart_shortArithmetic_64 : decode cHart_shortArithmetic 64 = .ok (.iload 4, 2) := by decide +kernel
theorem dHart_shortArithmetic_66 : decode cHart_shortArithmetic 66 = .ok (.lookupswitch 50 #[(0, 26), (1, 38)], 26) := by decide +kernel
theorem dHart_shortArithmetic_92 : decode cHart_shortArithmetic 92 = .ok (.aload_n 0, 1) := by decide +kernel
theorem dHart_shortArithmetic_93 : decode cHart_shortArithmetic 93 = .ok (.iload_n 2, 1) := by decide +kernel
theorem dHart_shortArithmetic_94 : decode cHart_shortArithmetic 94 = .ok (.iload_n 3, 1) := by decide +kernel
theorem dHart_shortArithmetic_95 : decode cHart_shortArithmetic 95 = .ok (.iload_n 1, 1) := by decide +kernel
theorem dHart_shortArithmetic_96 : decode cHart_shortArithmetic 96 = .ok (.invokestatic 268, 3) := by decide +kernel
theorem dHart_shortArithmetic_99 : decode cHart_shortArithmetic 99 = .ok (.iushr, 1) := by decide +kernel
theorem dHart_shortArithmetic_100 : decode cHart_shortArithmetic 100 = .ok (.invokevirtual 57, 3) := by decide +kernel
theorem dHart_shortArithmetic_103 : decode cHart_shortArithmetic 103 = .ok (.ireturn, 1) := by decide +kernel
theorem dHart_shortArithmetic_104 : decode cHart_shortArithmetic 104 = .ok (.aload_n 0, 1) := by decide +kernel
theorem dHart_shortArithmetic_105 : decode cHart_shortArithmetic 105 = .ok (.iload_n 2, 1) := by decide +kernel
theorem dHart_shortArithmetic_106 : decode cHart_shortArithmetic 106 = .ok (.iload_n 3, 1) := by decide +kernel
theorem dHart_shortArithmetic_107 : decode cHart_shortArithmetic 107 = .ok (.iload_n 1, 1) := by decide +kernel
theorem dHart_shortArithmetic_108 : decode cHart_shortArithmetic 108 = .ok (.invokestatic 268, 3) := by decide +kernel
theorem dHart_shortArithmetic_111 : decode cHart_shortArithmetic 111 = .ok (.ishr, 1) := by decide +kernel
theorem dHart_shortArithmetic_112 : decode cHart_shortArithmetic 112 = .ok (.invokevirtual 57, 3) := by decide +kernel
theorem dHart_shortArithmetic_115 : decode cHart_shortArithmetic 115 = .ok (.ireturn, 1) := by decide +kernel
theorem dHart_shortArithmetic_116 : decode cHart_shortArithmetic 116 = .ok (.aload_n 0, 1) := by decide +kernel
theorem dHart_shortArithmetic_117 : decode cHart_shortArithmetic 117 = .ok (.iload_n 2, 1) := by decide +kernel
theorem dHart_shortArithmetic_118 : decode cHart_shortArithmetic 118 = .ok (.iload_n 1, 1) := by decide +kernel
theorem dHart_shortArithmetic_119 : decode cHart_shortArithmetic 119 = .ok (.iconst 5, 1) := by decide +kernel
theorem dHart_shortArithmetic_120 : decode cHart_shortArithmetic 120 = .ok (.iconst 2, 1) := by decide +kernel
theorem dHart_shortArithmetic_121 : decode cHart_shortArithmetic 121 = .ok (.invokestatic 260, 3) := by decide +kernel
theorem dHart_shortArithmetic_124 : decode cHart_shortArithmetic 124 = .ok (.iload_n 3, 1) := by decide +kernel
theorem dHart_shortArithmetic_125 : decode cHart_shortArithmetic 125 = .ok (.iload 5, 2) := by decide +kernel
theorem dHart_shortArithmetic_127 : decode cHart_shortArithmetic 127 = .ok (.invokestatic 269, 3) := by decide +kernel
theorem dHart_shortArithmetic_130 : decode cHart_shortArithmetic 130 = .ok (.invokevirtual 57, 3) := by decide +kernel
theorem dHart_shortArithmetic_133 : decode cHart_shortArithmetic 133 = .ok (.ireturn, 1) := by decide +kernel
theorem dHart_shortOfQ2_0 : decode cHart_shortOfQ2 0 = .ok (.iload_n 1, 1) := by decide +kernel
theorem dHart_shortOfQ2_1 : decode cHart_shortOfQ2 1 = .ok (.invokestatic 242, 3) := by decide +kernel
theorem dHart_shortOfQ2_4 : decode cHart_shortOfQ2 4 = .ok (.istore_n 2, 1) := by decide +kernel
theorem dHart_shortOfQ2_5 : decode cHart_shortOfQ2 5 = .ok (.aload_n 0, 1) := by decide +kernel
theorem dHart_shortOfQ2_6 : decode cHart_shortOfQ2 6 = .ok (.getfield 16, 3) := by decide +kernel
theorem dHart_shortOfQ2_9 : decode cHart_shortOfQ2 9 = .ok (.iconst 2, 1) := by decide +kernel
theorem dHart_shortOfQ2_10 : decode cHart_shortOfQ2 10 = .ok (.iaload, 1) := by decide +kernel
theorem dHart_shortOfQ2_11 : decode cHart_shortOfQ2 11 = .ok (.istore_n 3, 1) := by decide +kernel
theorem dHart_shortOfQ2_12 : decode cHart_shortOfQ2 12 = .ok (.iload_n 1, 1) := by decide +kernel
theorem dHart_shortOfQ2_13 : decode cHart_shortOfQ2 13 = .ok (.invokestatic 238, 3) := by decide +kernel
theorem dHart_shortOfQ2_16 : decode cHart_shortOfQ2 16 = .ok (.tableswitch 145 0 6 #[44, 145, 77, 145, 103, 145, 124], 44) := by decide +kernel
theorem dHart_shortOfQ2_60 : decode cHart_shortOfQ2 60 = .ok (.iload_n 1, 1) := by decide +kernel
theorem dHart_shortOfQ2_61 : decode cHart_shortOfQ2 61 = .ok (.invokestatic 265, 3) := by decide +kernel
theorem dHart_shortOfQ2_64 : decode cHart_shortOfQ2 64 = .ok (.ifCond .eq 12, 3) := by decide +kernel
theorem dHart_shortOfQ2_67 : decode cHart_shortOfQ2 67 = .ok (.aload_n 0, 1) := by decide +kernel
theorem dHart_shortOfQ2_68 : decode cHart_shortOfQ2 68 = .ok (.iconst 2, 1) := by decide +kernel
theorem dHart_shortOfQ2_69 : decode cHart_shortOfQ2 69 = .ok (.iload_n 1, 1) := by decide +kernel
theorem dHart_shortOfQ2_70 : decode cHart_shortOfQ2 70 = .ok (.invokevirtual 91, 3) := by decide +kernel
theorem dHart_shortOfQ2_73 : decode cHart_shortOfQ2 73 = .ok (.goto 19, 3) := by decide +kernel
theorem dHart_shortOfQ2_76 : decode cHart_shortOfQ2 76 = .ok (.aload_n 0, 1) := by decide +kernel
theorem dHart_shortOfQ2_77 : decode cHart_shortOfQ2 77 = .ok (.iload_n 2, 1) := by decide +kernel
theorem dHart_shortOfQ2_78 : decode cHart_shortOfQ2 78 = .ok (.aload_n 0, 1) := by decide +kernel
theorem dHart_shortOfQ2_79 : decode cHart_shortOfQ2 79 = .ok (.getfield 16, 3) := by decide +kernel
theorem dHart_shortOfQ2_82 : decode cHart_shortOfQ2 82 = .ok (.iload_n 2, 1) := by decide +kernel
theorem dHart_shortOfQ2_83 : decode cHart_shortOfQ2 83 = .ok (.iaload, 1) := by decide +kernel
theorem dHart_shortOfQ2_84 : decode cHart_shortOfQ2 84 = .ok (.iload_n 1, 1) := by decide +kernel
theorem dHart_shortOfQ2_85 : decode cHart_shortOfQ2 85 = .ok (.invokestatic 268, 3) := by decide +kernel
theorem dHart_shortOfQ2_88 : decode cHart_shortOfQ2 88 = .ok (.ishl, 1) := by decide +kernel
theorem dHart_shortOfQ2_89 : decode cHart_shortOfQ2 89 = .ok (.invokevirtual 57, 3) := by decide +kernel
theorem dHart_shortOfQ2_92 : decode cHart_shortOfQ2 92 = .ok (.ireturn, 1) := by decide +kernel
theorem dHart_shortOfQ2_93 : decode cHart_shortOfQ2 93 = .ok (.iload_n 2, 1) := by decide +kernel
theorem dHart_shortOfQ2_94 : decode cHart_shortOfQ2 94 = .ok (.ifCond .ne 12, 3) := by decide +kernel
theorem dHart_shortOfQ2_97 : decode cHart_shortOfQ2 97 = .ok (.aload_n 0, 1) := by decide +kernel
theorem dHart_shortOfQ2_98 : decode cHart_shortOfQ2 98 = .ok (.iconst 2, 1) := by decide +kernel
theorem dHart_shortOfQ2_99 : decode cHart_shortOfQ2 99 = .ok (.iload_n 1, 1) := by decide +kernel
theorem dHart_shortOfQ2_100 : decode cHart_shortOfQ2 100 = .ok (.invokevirtual 91, 3) := by decide +kernel
theorem dHart_shortOfQ2_103 : decode cHart_shortOfQ2 103 = .ok (.goto 15, 3) := by decide +kernel
theorem dHart_shortOfQ2_106 : decode cHart_shortOfQ2 106 = .ok (.aload_n 0, 1) := by decide +kernel
theorem dHart_shortOfQ2_107 : decode cHart_shortOfQ2 107 = .ok (.iconst 2, 1) := by decide +kernel
theorem dHart_shortOfQ2_108 : decode cHart_shortOfQ2 108 = .ok (.iload_n 2, 1) := by decide +kernel
theorem dHart_shortOfQ2_109 : decode cHart_shortOfQ2 109 = .ok (.iload_n 3, 1) := by decide +kernel
theorem dHart_shortOfQ2_110 : decode cHart_shortOfQ2 110 = .ok (.iload_n 1, 1) := by decide +kernel
theorem dHart_shortOfQ2_111 : decode cHart_shortOfQ2 111 = .ok (.invokestatic 272, 3) := by decide +kernel
theorem dHart_shortOfQ2_114 : decode cHart_shortOfQ2 114 = .ok (.iadd, 1) := by decide +kernel
theorem dHart_shortOfQ2_115 : decode cHart_shortOfQ2 115 = .ok (.invokevirtual 172, 3) := by decide +kernel
theorem dHart_shortOfQ2_118 : decode cHart_shortOfQ2 118 = .ok (.ireturn, 1) := by decide +kernel
theorem dHart_shortOfQ2_119 : decode cHart_shortOfQ2 119 = .ok (.iload_n 1, 1) := by decide +kernel
theorem dHart_shortOfQ2_120 : decode cHart_shortOfQ2 120 = .ok (.invokestatic 268, 3) := by decide +kernel
theorem dHart_shortOfQ2_123 : decode cHart_shortOfQ2 123 = .ok (.ifCond .ne 11, 3) := by decide +kernel
theorem dHart_shortOfQ2_126 : decode cHart_shortOfQ2 126 = .ok (.aload_n 0, 1) := by decide +kernel
theorem dHart_shortOfQ2_127 : decode cHart_shortOfQ2 127 = .ok (.iload_n 1, 1) := by decide +kernel
theorem dHart_shortOfQ2_128 : decode cHart_shortOfQ2 128 = .ok (.invokevirtual 275, 3) := by decide +kernel
theorem dHart_shortOfQ2_131 : decode cHart_shortOfQ2 131 = .ok (.goto 8, 3) := by decide +kernel
theorem dHart_shortOfQ2_134 : decode cHart_shortOfQ2 134 = .ok (.aload_n 0, 1) := by decide +kernel
theorem dHart_shortOfQ2_135 : decode cHart_shortOfQ2 135 = .ok (.iload_n 1, 1) := by decide +kernel
theorem dHart_shortOfQ2_136 : decode cHart_shortOfQ2 136 = .ok (.invokevirtual 278, 3) := by decide +kernel
theorem dHart_shortOfQ2_139 : decode cHart_shortOfQ2 139 = .ok (.ireturn, 1) := by decide +kernel
theorem dHart_shortOfQ2_140 : decode cHart_shortOfQ2 140 = .ok (.aload_n 0, 1) := by decide +kernel
theorem dHart_shortOfQ2_141 : decode cHart_shortOfQ2 141 = .ok (.iconst 2, 1) := by decide +kernel
theorem dHart_shortOfQ2_142 : decode cHart_shortOfQ2 142 = .ok (.iload_n 3, 1) := by decide +kernel
theorem dHart_shortOfQ2_143 : decode cHart_shortOfQ2 143 = .ok (.iload_n 1, 1) := by decide +kernel
theorem dHart_shortOfQ2_144 : decode cHart_shortOfQ2 144 = .ok (.invokestatic 281, 3) := by decide +kernel
theorem dHart_shortOfQ2_147 : decode cHart_shortOfQ2 147 = .ok (.iadd, 1) := by decide +kernel
theorem dHart_shortOfQ2_148 : decode cHart_shortOfQ2 148 = .ok (.aload_n 0, 1) := by decide +kernel
theorem dHart_shortOfQ2_149 : decode cHart_shortOfQ2 149 = .ok (.getfield 16, 3) := by decide +kernel
theorem dHart_shortOfQ2_152 : decode cHart_shortOfQ2 152 = .ok (.iload_n 1, 1) := by decide +kernel
theorem dHart_shortOfQ2_153 : decode cHart_shortOfQ2 153 = .ok (.invokestatic 268, 3) := by decide +kernel
theorem dHart_shortOfQ2_156 : decode cHart_shortOfQ2 156 = .ok (.iaload, 1) := by decide +kernel
theorem dHart_shortOfQ2_157 : decode cHart_shortOfQ2 157 = .ok (.invokevirtual 179, 3) := by decide +kernel
theorem dHart_shortOfQ2_160 : decode cHart_shortOfQ2 160 = .ok (.ireturn, 1) := by decide +kernel
theorem dHart_shortOfQ2_161 : decode cHart_shortOfQ2 161 = .ok (.aload_n 0, 1) := by decide +kernel
theorem dHart_shortOfQ2_162 : decode cHart_shortOfQ2 162 = .ok (.iconst 2, 1) := by decide +kernel
theorem dHart_shortOfQ2_163 : decode cHart_shortOfQ2 163 = .ok (.iload_n 1, 1) := by decide +kernel
theorem dHart_shortOfQ2_164 : decode cHart_shortOfQ2 164 = .ok (.invokevirtual 91, 3) := by decide +kernel
theorem dHart_shortOfQ2_167 : decode cHart_shortOfQ2 167 = .ok (.ireturn, 1) := by decide +kernel
theorem dHart_shortJumpToRegister_0 : decode cHart_shortJumpToRegister 0 = .ok (.iload_n 1, 1) := by decide +kernel
theorem dHart_shortJumpToRegister_1 : decode cHart_shortJumpToRegister 1 = .ok (.invokestatic 242, 3) := by decide +kernel
theorem dHart_shortJumpToRegister_4 : decode cHart_shortJumpToRegister 4 = .ok (.istore_n 2, 1) := by decide +kernel
theorem dHart_shortJumpToRegister_5 : decode cHart_shortJumpToRegister 5 = .ok (.iload_n 1, 1) := by decide +kernel
theorem dHart_shortJumpToRegister_6 : decode cHart_shortJumpToRegister 6 = .ok (.invokestatic 265, 3) := by decide +kernel
theorem dHart_shortJumpToRegister_9 : decode cHart_shortJumpToRegister 9 = .ok (.istore_n 3, 1) := by decide +kernel
theorem dHart_shortJumpToRegister_10 : decode cHart_shortJumpToRegister 10 = .ok (.iload_n 2, 1) := by decide +kernel
theorem dHart_shortJumpToRegister_11 : decode cHart_shortJumpToRegister 11 = .ok (.ifCond .ne 23, 3) := by decide +kernel
theorem dHart_shortJumpToRegister_14 : decode cHart_shortJumpToRegister 14 = .ok (.iload_n 3, 1) := by decide +kernel
theorem dHart_shortJumpToRegister_15 : decode cHart_shortJumpToRegister 15 = .ok (.ifCond .eq 12, 3) := by decide +kernel
theorem dHart_shortJumpToRegister_18 : decode cHart_shortJumpToRegister 18 = .ok (.aload_n 0, 1) := by decide +kernel
theorem dHart_shortJumpToRegister_19 : decode cHart_shortJumpToRegister 19 = .ok (.iconst 4, 1) := by decide +kernel
theorem dHart_shortJumpToRegister_20 : decode cHart_shortJumpToRegister 20 = .ok (.iconst 0, 1) := by decide +kernel
theorem dHart_shortJumpToRegister_21 : decode cHart_shortJumpToRegister 21 = .ok (.invokevirtual 91, 3) := by decide +kernel
theorem dHart_shortJumpToRegister_24 : decode cHart_shortJumpToRegister 24 = .ok (.goto 9, 3) := by decide +kernel
theorem dHart_shortJumpToRegister_27 : decode cHart_shortJumpToRegister 27 = .ok (.aload_n 0, 1) := by decide +kernel
theorem dHart_shortJumpToRegister_28 : decode cHart_shortJumpToRegister 28 = .ok (.iconst 2, 1) := by decide +kernel
theorem dHart_shortJumpToRegister_29 : decode cHart_shortJumpToRegister 29 = .ok (.iload_n 1, 1) := by decide +kernel
theorem dHart_shortJumpToRegister_30 : decode cHart_shortJumpToRegister 30 = .ok (.invokevirtual 91, 3) := by decide +kernel
theorem dHart_shortJumpToRegister_33 : decode cHart_shortJumpToRegister 33 = .ok (.ireturn, 1) := by decide +kernel
theorem dHart_shortJumpToRegister_34 : decode cHart_shortJumpToRegister 34 = .ok (.aload_n 0, 1) := by decide +kernel
theorem dHart_shortJumpToRegister_35 : decode cHart_shortJumpToRegister 35 = .ok (.iload_n 3, 1) := by decide +kernel
theorem dHart_shortJumpToRegister_36 : decode cHart_shortJumpToRegister 36 = .ok (.ifCond .eq 7, 3) := by decide +kernel
theorem dHart_shortJumpToRegister_39 : decode cHart_shortJumpToRegister 39 = .ok (.iconst 1, 1) := by decide +kernel
theorem dHart_shortJumpToRegister_40 : decode cHart_shortJumpToRegister 40 = .ok (.goto 4, 3) := by decide +kernel
theorem dHart_shortJumpToRegister_43 : decode cHart_shortJumpToRegister 43 = .ok (.iconst 0, 1) := by decide +kernel
theorem dHart_shortJumpToRegister_44 : decode cHart_shortJumpToRegister 44 = .ok (.aload_n 0, 1) := by decide +kernel
theorem dHart_shortJumpToRegister_45 : decode cHart_shortJumpToRegister 45 = .ok (.getfield 16, 3) := by decide +kernel
theorem dHart_shortJumpToRegister_48 : decode cHart_shortJumpToRegister 48 = .ok (.iload_n 2, 1) := by decide +kernel
theorem dHart_shortJumpToRegister_49 : decode cHart_shortJumpToRegister 49 = .ok (.iaload, 1) := by decide +kernel
theorem dHart_shortJumpToRegister_50 : decode cHart_shortJumpToRegister 50 = .ok (.invokevirtual 107, 3) := by decide +kernel
theorem dHart_shortJumpToRegister_53 : decode cHart_shortJumpToRegister 53 = .ok (.ireturn, 1) := by decide +kernel
theorem dHart_shortMoveOrAdd_0 : decode cHart_shortMoveOrAdd 0 = .ok (.iload_n 1, 1) := by decide +kernel
theorem dHart_shortMoveOrAdd_1 : decode cHart_shortMoveOrAdd 1 = .ok (.invokestatic 242, 3) := by decide +kernel
theorem dHart_shortMoveOrAdd_4 : decode cHart_shortMoveOrAdd 4 = .ok (.istore_n 2, 1) := by decide +kernel
theorem dHart_shortMoveOrAdd_5 : decode cHart_shortMoveOrAdd 5 = .ok (.aload_n 0, 1) := by decide +kernel
theorem dHart_shortMoveOrAdd_6 : decode cHart_shortMoveOrAdd 6 = .ok (.getfield 16, 3) := by decide +kernel
theorem dHart_shortMoveOrAdd_9 : decode cHart_shortMoveOrAdd 9 = .ok (.iload_n 1, 1) := by decide +kernel
theorem dHart_shortMoveOrAdd_10 : decode cHart_shortMoveOrAdd 10 = .ok (.invokestatic 268, 3) := by decide +kernel
theorem dHart_shortMoveOrAdd_13 : decode cHart_shortMoveOrAdd 13 = .ok (.iaload, 1) := by decide +kernel
theorem dHart_shortMoveOrAdd_14 : decode cHart_shortMoveOrAdd 14 = .ok (.istore_n 3, 1) := by decide +kernel
theorem dHart_shortMoveOrAdd_15 : decode cHart_shortMoveOrAdd 15 = .ok (.aload_n 0, 1) := by decide +kernel
theorem dHart_shortMoveOrAdd_16 : decode cHart_shortMoveOrAdd 16 = .ok (.iload_n 2, 1) := by decide +kernel
theorem dHart_shortMoveOrAdd_17 : decode cHart_shortMoveOrAdd 17 = .ok (.iload_n 1, 1) := by decide +kernel
theorem dHart_shortMoveOrAdd_18 : decode cHart_shortMoveOrAdd 18 = .ok (.invokestatic 265, 3) := by decide +kernel
theorem dHart_shortMoveOrAdd_21 : decode cHart_shortMoveOrAdd 21 = .ok (.ifCond .eq 14, 3) := by decide +kernel
theorem dHart_shortMoveOrAdd_24 : decode cHart_shortMoveOrAdd 24 = .ok (.aload_n 0, 1) := by decide +kernel
theorem dHart_shortMoveOrAdd_25 : decode cHart_shortMoveOrAdd 25 = .ok (.getfield 16, 3) := by decide +kernel
theorem dHart_shortMoveOrAdd_28 : decode cHart_shortMoveOrAdd 28 = .ok (.iload_n 2, 1) := by decide +kernel
theorem dHart_shortMoveOrAdd_29 : decode cHart_shortMoveOrAdd 29 = .ok (.iaload, 1) := by decide +kernel
theorem dHart_shortMoveOrAdd_30 : decode cHart_shortMoveOrAdd 30 = .ok (.iload_n 3, 1) := by decide +kernel
theorem dHart_shortMoveOrAdd_31 : decode cHart_shortMoveOrAdd 31 = .ok (.iadd, 1) := by decide +kernel
theorem dHart_shortMoveOrAdd_32 : decode cHart_shortMoveOrAdd 32 = .ok (.goto 4, 3) := by decide +kernel
theorem dHart_shortMoveOrAdd_35 : decode cHart_shortMoveOrAdd 35 = .ok (.iload_n 3, 1) := by decide +kernel
theorem dHart_shortMoveOrAdd_36 : decode cHart_shortMoveOrAdd 36 = .ok (.invokevirtual 57, 3) := by decide +kernel
theorem dHart_shortMoveOrAdd_39 : decode cHart_shortMoveOrAdd 39 = .ok (.ireturn, 1) := by decide +kernel
