theorem dMod_step_0 : decode cMod_step 0 = .ok (.aload_n 0, 1) := by decide +kernel
theorem dMod_step_1 : decode cMod_step 1 = .ok (.iconst 0, 1) := by decide +kernel
theorem dMod_step_2 : decode cMod_step 2 = .ok (.putfield 24, 3) := by decide +kernel
theorem dMod_step_5 : decode cMod_step 5 = .ok (.aload_n 0, 1) := by decide +kernel
theorem dMod_step_6 : decode cMod_step 6 = .ok (.iconst 0, 1) := by decide +kernel
theorem dMod_step_7 : decode cMod_step 7 = .ok (.putfield 91, 3) := by decide +kernel
theorem dMod_step_10 : decode cMod_step 10 = .ok (.aload_n 0, 1) := by decide +kernel
theorem dMod_step_11 : decode cMod_step 11 = .ok (.getfield 37, 3) := by decide +kernel
theorem dMod_step_14 : decode cMod_step 14 = .ok (.iconst 1, 1) := by decide +kernel
theorem dMod_step_15 : decode cMod_step 15 = .ok (.iand, 1) := by decide +kernel
theorem dMod_step_16 : decode cMod_step 16 = .ok (.iconst 1, 1) := by decide +kernel
theorem dMod_step_17 : decode cMod_step 17 = .ok (.if_icmp .eq 14, 3) := by decide +kernel
theorem dMod_step_20 : decode cMod_step 20 = .ok (.aload_n 0, 1) := by decide +kernel
theorem dMod_step_21 : decode cMod_step 21 = .ok (.aload_n 0, 1) := by decide +kernel
theorem dMod_step_22 : decode cMod_step 22 = .ok (.getfield 37, 3) := by decide +kernel
theorem dMod_step_25 : decode cMod_step 25 = .ok (.invokevirtual 104, 3) := by decide +kernel
theorem dMod_step_28 : decode cMod_step 28 = .ok (.ifCond .ne 18, 3) := by decide +kernel
theorem dMod_step_31 : decode cMod_step 31 = .ok (.aload_n 0, 1) := by decide +kernel
theorem dMod_step_32 : decode cMod_step 32 = .ok (.iconst 1, 1) := by decide +kernel
theorem dMod_step_33 : decode cMod_step 33 = .ok (.aload_n 0, 1) := by decide +kernel
theorem dMod_step_34 : decode cMod_step 34 = .ok (.getfield 37, 3) := by decide +kernel
theorem dMod_step_37 : decode cMod_step 37 = .ok (.invokevirtual 97, 3) := by decide +kernel
theorem dMod_step_40 : decode cMod_step 40 = .ok (.pop, 1) := by decide +kernel
theorem dMod_step_41 : decode cMod_step 41 = .ok (.aload_n 0, 1) := by decide +kernel
theorem dMod_step_42 : decode cMod_step 42 = .ok (.getfield 91, 3) := by decide +kernel
theorem dMod_step_45 : decode cMod_step 45 = .ok (.ireturn, 1) := by decide +kernel
theorem dMod_step_46 : decode cMod_step 46 = .ok (.aload_n 0, 1) := by decide +kernel
theorem dMod_step_47 : decode cMod_step 47 = .ok (.aload_n 0, 1) := by decide +kernel
theorem dMod_step_48 : decode cMod_step 48 = .ok (.aload_n 0, 1) := by decide +kernel
theorem dMod_step_49 : decode cMod_step 49 = .ok (.getfield 37, 3) := by decide +kernel
theorem dMod_step_52 : decode cMod_step 52 = .ok (.invokevirtual 108, 3) := by decide +kernel
theorem dMod_step_55 : decode cMod_step 55 = .ok (.putfield 94, 3) := by decide +kernel
theorem dMod_step_58 : decode cMod_step 58 = .ok (.aload_n 0, 1) := by decide +kernel
theorem dMod_step_59 : decode cMod_step 59 = .ok (.aload_n 0, 1) := by decide +kernel
theorem dMod_step_60 : decode cMod_step 60 = .ok (.getfield 94, 3) := by decide +kernel
theorem dMod_step_63 : decode cMod_step 63 = .ok (.iconst 3, 1) := by decide +kernel
theorem dMod_step_64 : decode cMod_step 64 = .ok (.iand, 1) := by decide +kernel
theorem dMod_step_65 : decode cMod_step 65 = .ok (.iconst 3, 1) := by decide +kernel
theorem dMod_step_66 : decode cMod_step 66 = .ok (.if_icmp .ne 7, 3) := by decide +kernel
theorem dMod_step_69 : decode cMod_step 69 = .ok (.iconst 4, 1) := by decide +kernel
theorem dMod_step_70 : decode cMod_step 70 = .ok (.goto 4, 3) := by decide +kernel
theorem dMod_step_73 : decode cMod_step 73 = .ok (.iconst 2, 1) := by decide +kernel
theorem dMod_step_74 : decode cMod_step 74 = .ok (.putfield 112, 3) := by decide +kernel
theorem dMod_step_77 : decode cMod_step 77 = .ok (.aload_n 0, 1) := by decide +kernel
theorem dMod_step_78 : decode cMod_step 78 = .ok (.getfield 112, 3) := by decide +kernel
theorem dMod_step_81 : decode cMod_step 81 = .ok (.iconst 4, 1) := by decide +kernel
theorem dMod_step_82 : decode cMod_step 82 = .ok (.if_icmp .ne 31, 3) := by decide +kernel
theorem dMod_step_85 : decode cMod_step 85 = .ok (.aload_n 0, 1) := by decide +kernel
theorem dMod_step_86 : decode cMod_step 86 = .ok (.aload_n 0, 1) := by decide +kernel
theorem dMod_step_87 : decode cMod_step 87 = .ok (.getfield 37, 3) := by decide +kernel
theorem dMod_step_90 : decode cMod_step 90 = .ok (.iconst 2, 1) := by decide +kernel
theorem dMod_step_91 : decode cMod_step 91 = .ok (.iadd, 1) := by decide +kernel
theorem dMod_step_92 : decode cMod_step 92 = .ok (.invokevirtual 104, 3) := by decide +kernel
theorem dMod_step_95 : decode cMod_step 95 = .ok (.ifCond .ne 18, 3) := by decide +kernel
theorem dMod_step_98 : decode cMod_step 98 = .ok (.aload_n 0, 1) := by decide +kernel
theorem dMod_step_99 : decode cMod_step 99 = .ok (.iconst 1, 1) := by decide +kernel
theorem dMod_step_100 : decode cMod_step 100 = .ok (.aload_n 0, 1) := by decide +kernel
theorem dMod_step_101 : decode cMod_step 101 = .ok (.getfield 37, 3) := by decide +kernel
theorem dMod_step_104 : decode cMod_step 104 = .ok (.invokevirtual 97, 3) := by decide +kernel
theorem dMod_step_107 : decode cMod_step 107 = .ok (.pop, 1) := by decide +kernel
theorem dMod_step_108 : decode cMod_step 108 = .ok (.aload_n 0, 1) := by decide +kernel
theorem dMod_step_109 : decode cMod_step 109 = .ok (.getfield 91, 3) := by decide +kernel
theorem dMod_step_112 : decode cMod_step 112 = .ok (.ireturn, 1) := by decide +kernel
theorem dMod_step_113 : decode cMod_step 113 = .ok (.aload_n 0, 1) := by decide +kernel
theorem dMod_step_114 : decode cMod_step 114 = .ok (.aload_n 0, 1) := by decide +kernel
theorem dMod_step_115 : decode cMod_step 115 = .ok (.getfield 112, 3) := by decide +kernel
theorem dMod_step_118 : decode cMod_step 118 = .ok (.iconst 4, 1) := by decide +kernel
theorem dMod_step_119 : decode cMod_step 119 = .ok (.if_icmp .ne 24, 3) := by decide +kernel
theorem dMod_step_122 : decode cMod_step 122 = .ok (.aload_n 0, 1) := by decide +kernel
theorem dMod_step_123 : decode cMod_step 123 = .ok (.getfield 94, 3) := by decide +kernel
theorem dMod_step_126 : decode cMod_step 126 = .ok (.aload_n 0, 1) := by decide +kernel
theorem dMod_step_127 : decode cMod_step 127 = .ok (.aload_n 0, 1) := by decide +kernel
theorem dMod_step_128 : decode cMod_step 128 = .ok (.getfield 37, 3) := by decide +kernel
theorem dMod_step_131 : decode cMod_step 131 = .ok (.iconst 2, 1) := by decide +kernel
theorem dMod_step_132 : decode cMod_step 132 = .ok (.iadd, 1) := by decide +kernel
theorem dMod_step_133 : decode cMod_step 133 = .ok (.invokevirtual 108, 3) := by decide +kernel
theorem dMod_step_136 : decode cMod_step 136 = .ok (.bipush 16, 2) := by decide +kernel
theorem dMod_step_138 : decode cMod_step 138 = .ok (.ishl, 1) := by decide +kernel
theorem dMod_step_139 : decode cMod_step 139 = .ok (.ior, 1) := by decide +kernel
theorem dMod_step_140 : decode cMod_step 140 = .ok (.goto 7, 3) := by decide +kernel
theorem dMod_step_143 : decode cMod_step 143 = .ok (.aload_n 0, 1) := by decide +kernel
theorem dMod_step_144 : decode cMod_step 144 = .ok (.getfield 94, 3) := by decide +kernel
theorem dMod_step_147 : decode cMod_step 147 = .ok (.putfield 94, 3) := by decide +kernel
theorem dMod_step_150 : decode cMod_step 150 = .ok (.aload_n 0, 1) := by decide +kernel
theorem dMod_step_151 : decode cMod_step 151 = .ok (.aload_n 0, 1) := by decide +kernel
theorem dMod_step_152 : decode cMod_step 152 = .ok (.getfield 37, 3) := by decide +kernel
theorem dMod_step_155 : decode cMod_step 155 = .ok (.aload_n 0, 1) := by decide +kernel
theorem dMod_step_156 : decode cMod_step 156 = .ok (.getfield 112, 3) := by decide +kernel
theorem dMod_step_159 : decode cMod_step 159 = .ok (.iadd, 1) := by decide +kernel
theorem dMod_step_160 : decode cMod_step 160 = .ok (.putfield 115, 3) := by decide +kernel
theorem dMod_step_163 : decode cMod_step 163 = .ok (.aload_n 0, 1) := by decide +kernel
theorem dMod_step_164 : decode cMod_step 164 = .ok (.getfield 112, 3) := by decide +kernel
theorem dMod_step_167 : decode cMod_step 167 = .ok (.iconst 4, 1) := by decide +kernel
theorem dMod_step_168 : decode cMod_step 168 = .ok (.if_icmp .ne 10, 3) := by decide +kernel
theorem dMod_step_171 : decode cMod_step 171 = .ok (.aload_n 0, 1) := by decide +kernel
theorem dMod_step_172 : decode cMod_step 172 = .ok (.getfield 94, 3) := by decide +kernel
theorem dMod_step_175 : decode cMod_step 175 = .ok (.goto 10, 3) := by decide +kernel
theorem dMod_step_178 : decode cMod_step 178 = .ok (.aload_n 0, 1) := by decide +kernel
theorem dMod_step_179 : decode cMod_step 179 = .ok (.getfield 94, 3) := by decide +kernel
theorem dMod_step_182 : decode cMod_step 182 = .ok (.invokestatic 118, 3) := by decide +kernel
theorem dMod_step_185 : decode cMod_step 185 = .ok (.istore_n 1, 1) := by decide +kernel
theorem dMod_step_186 : decode cMod_step 186 = .ok (.iload_n 1, 1) := by decide +kernel
theorem dMod_step_187 : decode cMod_step 187 = .ok (.ifCond .ne 11, 3) := by decide +kernel
theorem dMod_step_190 : decode cMod_step 190 = .ok (.aload_n 0, 1) := by decide +kernel
theorem dMod_step_191 : decode cMod_step 191 = .ok (.invokevirtual 121, 3) := by decide +kernel
theorem dMod_step_194 : decode cMod_step 194 = .ok (.pop, 1) := by decide +kernel
theorem dMod_step_195 : decode cMod_step 195 = .ok (.goto 8, 3) := by decide +kernel
theorem dMod_step_198 : decode cMod_step 198 = .ok (.aload_n 0, 1) := by decide +kernel
theorem dMod_step_199 : decode cMod_step 199 = .ok (.iload_n 1, 1) := by decide +kernel
theorem dMod_step_200 : decode cMod_step 200 = .ok (.invokevirtual 125, 3) := by decide +kernel
theorem dMod_step_203 : decode cMod_step 203 = .ok (.aload_n 0, 1) := by decide +kernel
theorem dMod_step_204 : decode cMod_step 204 = .ok (.getfield 91, 3) := by decide +kernel
theorem dMod_step_207 : decode cMod_step 207 = .ok (.ifCond .le 8, 3) := by decide +kernel
theorem dMod_step_210 : decode cMod_step 210 = .ok (.aload_n 0, 1) := by decide +kernel
theorem dMod_step_211 : decode cMod_step 211 = .ok (.getfield 91, 3) := by decide +kernel
theorem dMod_step_214 : decode cMod_step 214 = .ok (.ireturn, 1) := by decide +kernel
theorem dMod_step_215 : decode cMod_step 215 = .ok (.aload_n 0, 1) := by decide +kernel
theorem dMod_step_216 : decode cMod_step 216 = .ok (.aload_n 0, 1) := by decide +kernel
theorem dMod_step_217 : decode cMod_step 217 = .ok (.getfield 115, 3) := by decide +kernel
theorem dMod_step_220 : decode cMod_step 220 = .ok (.putfield 37, 3) := by decide +kernel
theorem dMod_step_223 : decode cMod_step 223 = .ok (.aload_n 0, 1) := by decide +kernel
theorem dMod_step_224 : decode cMod_step 224 = .ok (.dup, 1) := by decide +kernel
theorem dMod_step_225 : decode cMod_step 225 = .ok (.getfield 129, 3) := by decide +kernel
theorem dMod_step_228 : decode cMod_step 228 = .ok (.lconst 1, 1) := by decide +kernel
theorem dMod_step_229 : decode cMod_step 229 = .ok (.ladd, 1) := by decide +kernel
theorem dMod_step_230 : decode cMod_step 230 = .ok (.putfield 129, 3) := by decide +kernel
theorem dMod_step_233 : decode cMod_step 233 = .ok (.iconst 0, 1) := by decide +kernel
theorem dMod_step_234 : decode cMod_step 234 = .ok (.ireturn, 1) := by decide +kernel
theorem dMod_give_0 : decode cMod_give 0 = .ok (.aload_n 0, 1) := by decide +kernel
theorem dMod_give_1 : decode cMod_give 1 = .ok (.getfield 91, 3) := by decide +kernel
theorem dMod_give_4 : decode cMod_give 4 = .ok (.ifCond .ne 14, 3) := by decide +kernel
theorem dMod_give_7 : decode cMod_give 7 = .ok (.iload_n 1, 1) := by decide +kernel
theorem dMod_give_8 : decode cMod_give 8 = .ok (.ifCond .le 10, 3) := by decide +kernel
theorem dMod_give_11 : decode cMod_give 11 = .ok (.aload_n 0, 1) := by decide +kernel
theorem dMod_give_12 : decode cMod_give 12 = .ok (.getfield 17, 3) := by decide +kernel
theorem dMod_give_15 : decode cMod_give 15 = .ok (.iload_n 1, 1) := by decide +kernel
theorem dMod_give_16 : decode cMod_give 16 = .ok (.iload_n 2, 1) := by decide +kernel
theorem dMod_give_17 : decode cMod_give 17 = .ok (.iastore, 1) := by decide +kernel
theorem dMod_give_18 : decode cMod_give 18 = .ok (.return_, 1) := by decide +kernel
theorem dMod_carry_0 : decode cMod_carry 0 = .ok (.iload_n 1, 1) := by decide +kernel
theorem dMod_carry_1 : decode cMod_carry 1 = .ok (.bipush 7, 2) := by decide +kernel
theorem dMod_carry_3 : decode cMod_carry 3 = .ok (.iconst 5, 1) := by decide +kernel
theorem dMod_carry_4 : decode cMod_carry 4 = .ok (.invokestatic 44, 3) := by decide +kernel
theorem dMod_carry_7 : decode cMod_carry 7 = .ok (.istore_n 2, 1) := by decide +kernel
theorem dMod_carry_8 : decode cMod_carry 8 = .ok (.iload_n 1, 1) := by decide +kernel
theorem dMod_carry_9 : decode cMod_carry 9 = .ok (.bipush 12, 2) := by decide +kernel
theorem dMod_carry_11 : decode cMod_carry 11 = .ok (.iconst 3, 1) := by decide +kernel
theorem dMod_carry_12 : decode cMod_carry 12 = .ok (.invokestatic 44, 3) := by decide +kernel
theorem dMod_carry_15 : decode cMod_carry 15 = .ok (.istore_n 3, 1) := by decide +kernel
theorem dMod_carry_16 : decode cMod_carry 16 = .ok (.aload_n 0, 1) := by decide +kernel
theorem dMod_carry_17 : decode cMod_carry 17 = .ok (.getfield 17, 3) := by decide +kernel
theorem dMod_carry_20 : decode cMod_carry 20 = .ok (.iload_n 1, 1) := by decide +kernel
theorem dMod_carry_21 : decode cMod_carry 21 = .ok (.bipush 15, 2) := by decide +kernel
theorem dMod_carry_23 : decode cMod_carry 23 = .ok (.iconst 5, 1) := by decide +kernel
theorem dMod_carry_24 : decode cMod_carry 24 = .ok (.invokestatic 44, 3) := by decide +kernel
theorem dMod_carry_27 : decode cMod_carry 27 = .ok (.iaload, 1) := by decide +kernel
theorem dMod_carry_28 : decode cMod_carry 28 = .ok (.istore 4, 2) := by decide +kernel
theorem dMod_carry_30 : decode cMod_carry 30 = .ok (.aload_n 0, 1) := by decide +kernel
theorem dMod_carry_31 : decode cMod_carry 31 = .ok (.getfield 17, 3) := by decide +kernel
theorem dMod_carry_34 : decode cMod_carry 34 = .ok (.iload_n 1, 1) := by decide +kernel
theorem dMod_carry_35 : decode cMod_carry 35 = .ok (.bipush 20, 2) := by decide +kernel
theorem dMod_carry_37 : decode cMod_carry 37 = .ok (.iconst 5, 1) := by decide +kernel
theorem dMod_carry_38 : decode cMod_carry 38 = .ok (.invokestatic 44, 3) := by decide +kernel
theorem dMod_carry_41 : decode cMod_carry 41 = .ok (.iaload, 1) := by decide +kernel
theorem dMod_carry_42 : decode cMod_carry 42 = .ok (.istore 5, 2) := by decide +kernel
theorem dMod_carry_44 : decode cMod_carry 44 = .ok (.iload_n 1, 1) := by decide +kernel
theorem dMod_carry_45 : decode cMod_carry 45 = .ok (.bipush 25, 2) := by decide +kernel
theorem dMod_carry_47 : decode cMod_carry 47 = .ok (.bipush 7, 2) := by decide +kernel
theorem dMod_carry_49 : decode cMod_carry 49 = .ok (.invokestatic 44, 3) := by decide +kernel
theorem dMod_carry_52 : decode cMod_carry 52 = .ok (.istore 6, 2) := by decide +kernel
theorem dMod_carry_54 : decode cMod_carry 54 = .ok (.iload_n 1, 1) := by decide +kernel
theorem dMod_carry_55 : decode cMod_carry 55 = .ok (.bipush 20, 2) := by decide +kernel
theorem dMod_carry_57 : decode cMod_carry 57 = .ok (.ishr, 1) := by decide +kernel
theorem dMod_carry_58 : decode cMod_carry 58 = .ok (.istore 7, 2) := by decide +kernel
theorem dMod_carry_60 : decode cMod_carry 60 = .ok (.iload_n 1, 1) := by decide +kernel
theorem dMod_carry_61 : decode cMod_carry 61 = .ok (.iconst 0, 1) := by decide +kernel
theorem dMod_carry_62 : decode cMod_carry 62 = .ok (.bipush 7, 2) := by decide +kernel
theorem dMod_carry_64 : decode cMod_carry 64 = .ok (.invokestatic 44, 3) := by decide +kernel
theorem dMod_carry_67 : decode cMod_carry 67 = .ok (.lookupswitch 464 #[(3, 248), (15, 437), (19, 286), (23, 118), (35, 266), (47, 415), (51, 331), (55, 105), (99, 235), (103, 202), (111, 136), (115, 450)], 105) := by decide +kernel
theorem dMod_carry_172 : decode cMod_carry 172 = .ok (.aload_n 0, 1) := by decide +kernel
theorem dMod_carry_173 : decode cMod_carry 173 = .ok (.iload_n 2, 1) := by decide +kernel
theorem dMod_carry_174 : decode cMod_carry 174 = .ok (.iload_n 1, 1) := by decide +kernel
theorem dMod_carry_175 : decode cMod_carry 175 = .ok (.sipush (-4096), 3) := by decide +kernel
theorem dMod_carry_178 : decode cMod_carry 178 = .ok (.iand, 1) := by decide +kernel
theorem dMod_carry_179 : decode cMod_carry 179 = .ok (.invokevirtual 132, 3) := by decide +kernel
theorem dMod_carry_182 : decode cMod_carry 182 = .ok (.goto 354, 3) := by decide +kernel
theorem dMod_carry_185 : decode cMod_carry 185 = .ok (.aload_n 0, 1) := by decide +kernel
theorem dMod_carry_186 : decode cMod_carry 186 = .ok (.iload_n 2, 1) := by decide +kernel
theorem dMod_carry_187 : decode cMod_carry 187 = .ok (.aload_n 0, 1) := by decide +kernel
theorem dMod_carry_188 : decode cMod_carry 188 = .ok (.getfield 37, 3) := by decide +kernel
theorem dMod_carry_191 : decode cMod_carry 191 = .ok (.iload_n 1, 1) := by decide +kernel
theorem dMod_carry_192 : decode cMod_carry 192 = .ok (.sipush (-4096), 3) := by decide +kernel
theorem dMod_carry_195 : decode cMod_carry 195 = .ok (.iand, 1) := by decide +kernel
theorem dMod_carry_196 : decode cMod_carry 196 = .ok (.iadd, 1) := by decide +kernel
theorem dMod_carry_197 : decode cMod_carry 197 = .ok (.invokevirtual 132, 3) := by decide +kernel
theorem dMod_carry_200 : decode cMod_carry 200 = .ok (.goto 336, 3) := by decide +kernel
theorem dMod_carry_203 : decode cMod_carry 203 = .ok (.aload_n 0, 1) := by decide +kernel
theorem dMod_carry_204 : decode cMod_carry 204 = .ok (.iload_n 2, 1) := by decide +kernel
theorem dMod_carry_205 : decode cMod_carry 205 = .ok (.aload_n 0, 1) := by decide +kernel
theorem dMod_carry_206 : decode cMod_carry 206 = .ok (.getfield 115, 3) := by decide +kernel
theorem dMod_carry_209 : decode cMod_carry 209 = .ok (.invokevirtual 132, 3) := by decide +kernel
theorem dMod_carry_212 : decode cMod_carry 212 = .ok (.aload_n 0, 1) := by decide +kernel
theorem dMod_carry_213 : decode cMod_carry 213 = .ok (.aload_n 0, 1) := by decide +kernel
theorem dMod_carry_214 : decode cMod_carry 214 = .ok (.getfield 37, 3) := by decide +kernel
theorem dMod_carry_217 : decode cMod_carry 217 = .ok (.iload_n 1, 1) := by decide +kernel
theorem dMod_carry_218 : decode cMod_carry 218 = .ok (.bipush 31, 2) := by decide +kernel
theorem dMod_carry_220 : decode cMod_carry 220 = .ok (.iconst 1, 1) := by decide +kernel
theorem dMod_carry_221 : decode cMod_carry 221 = .ok (.bipush 20, 2) := by decide +kernel
theorem dMod_carry_223 : decode cMod_carry 223 = .ok (.invokestatic 48, 3) := by decide +kernel
theorem dMod_carry_226 : decode cMod_carry 226 = .ok (.iload_n 1, 1) := by decide +kernel
theorem dMod_carry_227 : decode cMod_carry 227 = .ok (.bipush 12, 2) := by decide +kernel
theorem dMod_carry_229 : decode cMod_carry 229 = .ok (.bipush 8, 2) := by decide +kernel
theorem dMod_carry_231 : decode cMod_carry 231 = .ok (.bipush 12, 2) := by decide +kernel
theorem dMod_carry_233 : decode cMod_carry 233 = .ok (.invokestatic 48, 3) := by decide +kernel
theorem dMod_carry_236 : decode cMod_carry 236 = .ok (.ior, 1) := by decide +kernel
theorem dMod_carry_237 : decode cMod_carry 237 = .ok (.iload_n 1, 1) := by decide +kernel
theorem dMod_carry_238 : decode cMod_carry 238 = .ok (.bipush 20, 2) := by decide +kernel
theorem dMod_carry_240 : decode cMod_carry 240 = .ok (.iconst 1, 1) := by decide +kernel
theorem dMod_carry_241 : decode cMod_carry 241 = .ok (.bipush 11, 2) := by decide +kernel
theorem dMod_carry_243 : decode cMod_carry 243 = .ok (.invokestatic 48, 3) := by decide +kernel
theorem dMod_carry_246 : decode cMod_carry 246 = .ok (.ior, 1) := by decide +kernel
theorem dMod_carry_247 : decode cMod_carry 247 = .ok (.iload_n 1, 1) := by decide +kernel
theorem dMod_carry_248 : decode cMod_carry 248 = .ok (.bipush 21, 2) := by decide +kernel
theorem dMod_carry_250 : decode cMod_carry 250 = .ok (.bipush 10, 2) := by decide +kernel
theorem dMod_carry_252 : decode cMod_carry 252 = .ok (.iconst 1, 1) := by decide +kernel
theorem dMod_carry_253 : decode cMod_carry 253 = .ok (.invokestatic 48, 3) := by decide +kernel
theorem dMod_carry_256 : decode cMod_carry 256 = .ok (.ior, 1) := by decide +kernel
theorem dMod_carry_257 : decode cMod_carry 257 = .ok (.bipush 21, 2) := by decide +kernel
theorem dMod_carry_259 : decode cMod_carry 259 = .ok (.invokestatic 69, 3) := by decide +kernel
theorem dMod_carry_262 : decode cMod_carry 262 = .ok (.iadd, 1) := by decide +kernel
theorem dMod_carry_263 : decode cMod_carry 263 = .ok (.putfield 115, 3) := by decide +kernel
theorem dMod_carry_266 : decode cMod_carry 266 = .ok (.goto 270, 3) := by decide +kernel
theorem dMod_carry_269 : decode cMod_carry 269 = .ok (.iload_n 3, 1) := by decide +kernel
theorem dMod_carry_270 : decode cMod_carry 270 = .ok (.ifCond .eq 8, 3) := by decide +kernel
theorem dMod_carry_273 : decode cMod_carry 273 = .ok (.aload_n 0, 1) := by decide +kernel
theorem dMod_carry_274 : decode cMod_carry 274 = .ok (.invokevirtual 121, 3) := by decide +kernel
theorem dMod_carry_277 : decode cMod_carry 277 = .ok (.pop, 1) := by decide +kernel
theorem dMod_carry_278 : decode cMod_carry 278 = .ok (.aload_n 0, 1) := by decide +kernel
theorem dMod_carry_279 : decode cMod_carry 279 = .ok (.iload_n 2, 1) := by decide +kernel
theorem dMod_carry_280 : decode cMod_carry 280 = .ok (.aload_n 0, 1) := by decide +kernel
theorem dMod_carry_281 : decode cMod_carry 281 = .ok (.getfield 115, 3) := by decide +kernel
theorem dMod_carry_284 : decode cMod_carry 284 = .ok (.invokevirtual 132, 3) := by decide +kernel
theorem dMod_carry_287 : decode cMod_carry 287 = .ok (.aload_n 0, 1) := by decide +kernel
theorem dMod_carry_288 : decode cMod_carry 288 = .ok (.iload 4, 2) := by decide +kernel
theorem dMod_carry_290 : decode cMod_carry 290 = .ok (.iload 7, 2) := by decide +kernel
theorem dMod_carry_292 : decode cMod_carry 292 = .ok (.iadd, 1) := by decide +kernel
theorem dMod_carry_293 : decode cMod_carry 293 = .ok (.bipush (-2), 2) := by decide +kernel
theorem dMod_carry_295 : decode cMod_carry 295 = .ok (.iand, 1) := by decide +kernel
theorem dMod_carry_296 : decode cMod_carry 296 = .ok (.putfield 115, 3) := by decide +kernel
theorem dMod_carry_299 : decode cMod_carry 299 = .ok (.goto 237, 3) := by decide +kernel
theorem dMod_carry_302 : decode cMod_carry 302 = .ok (.aload_n 0, 1) := by decide +kernel
theorem dMod_carry_303 : decode cMod_carry 303 = .ok (.iload_n 1, 1) := by decide +kernel
theorem dMod_carry_304 : decode cMod_carry 304 = .ok (.iload_n 3, 1) := by decide +kernel
theorem dMod_carry_305 : decode cMod_carry 305 = .ok (.iload 4, 2) := by decide +kernel
theorem dMod_carry_307 : decode cMod_carry 307 = .ok (.iload 5, 2) := by decide +kernel
theorem dMod_carry_309 : decode cMod_carry 309 = .ok (.invokevirtual 135, 3) := by decide +kernel
theorem dMod_carry_312 : decode cMod_carry 312 = .ok (.goto 224, 3) := by decide +kernel
theorem dMod_carry_315 : decode cMod_carry 315 = .ok (.aload_n 0, 1) := by decide +kernel
theorem dMod_carry_316 : decode cMod_carry 316 = .ok (.iload_n 2, 1) := by decide +kernel
theorem dMod_carry_317 : decode cMod_carry 317 = .ok (.aload_n 0, 1) := by decide +kernel
theorem dMod_carry_318 : decode cMod_carry 318 = .ok (.iload_n 3, 1) := by decide +kernel
theorem dMod_carry_319 : decode cMod_carry 319 = .ok (.iload 4, 2) := by decide +kernel
theorem dMod_carry_321 : decode cMod_carry 321 = .ok (.iload 7, 2) := by decide +kernel
theorem dMod_carry_323 : decode cMod_carry 323 = .ok (.iadd, 1) := by decide +kernel
theorem dMod_carry_324 : decode cMod_carry 324 = .ok (.invokevirtual 139, 3) := by decide +kernel
theorem dMod_carry_327 : decode cMod_carry 327 = .ok (.invokevirtual 132, 3) := by decide +kernel
theorem dMod_carry_330 : decode cMod_carry 330 = .ok (.goto 206, 3) := by decide +kernel
theorem dMod_carry_333 : decode cMod_carry 333 = .ok (.aload_n 0, 1) := by decide +kernel
theorem dMod_carry_334 : decode cMod_carry 334 = .ok (.iload_n 3, 1) := by decide +kernel
theorem dMod_carry_335 : decode cMod_carry 335 = .ok (.iload 4, 2) := by decide +kernel
theorem dMod_carry_337 : decode cMod_carry 337 = .ok (.iload 7, 2) := by decide +kernel
theorem dMod_carry_339 : decode cMod_carry 339 = .ok (.bipush (-32), 2) := by decide +kernel
theorem dMod_carry_341 : decode cMod_carry 341 = .ok (.iand, 1) := by decide +kernel
theorem dMod_carry_342 : decode cMod_carry 342 = .ok (.iload_n 2, 1) := by decide +kernel
theorem dMod_carry_343 : decode cMod_carry 343 = .ok (.ior, 1) := by decide +kernel
theorem dMod_carry_344 : decode cMod_carry 344 = .ok (.iadd, 1) := by decide +kernel
theorem dMod_carry_345 : decode cMod_carry 345 = .ok (.iload 5, 2) := by decide +kernel
theorem dMod_carry_347 : decode cMod_carry 347 = .ok (.invokevirtual 142, 3) := by decide +kernel
theorem dMod_carry_350 : decode cMod_carry 350 = .ok (.goto 186, 3) := by decide +kernel
theorem dMod_carry_353 : decode cMod_carry 353 = .ok (.aload_n 0, 1) := by decide +kernel
theorem dMod_carry_354 : decode cMod_carry 354 = .ok (.iload_n 2, 1) := by decide +kernel
theorem dMod_carry_355 : decode cMod_carry 355 = .ok (.iload_n 3, 1) := by decide +kernel
theorem dMod_carry_356 : decode cMod_carry 356 = .ok (.iconst 1, 1) := by decide +kernel
theorem dMod_carry_357 : decode cMod_carry 357 = .ok (.if_icmp .eq 8, 3) := by decide +kernel
theorem dMod_carry_360 : decode cMod_carry 360 = .ok (.iload_n 3, 1) := by decide +kernel
theorem dMod_carry_361 : decode cMod_carry 361 = .ok (.iconst 5, 1) := by decide +kernel
theorem dMod_carry_362 : decode cMod_carry 362 = .ok (.if_icmp .ne 22, 3) := by decide +kernel
theorem dMod_carry_365 : decode cMod_carry 365 = .ok (.aload_n 0, 1) := by decide +kernel
theorem dMod_carry_366 : decode cMod_carry 366 = .ok (.iload_n 3, 1) := by decide +kernel
theorem dMod_carry_367 : decode cMod_carry 367 = .ok (.iload 6, 2) := by decide +kernel
theorem dMod_carry_369 : decode cMod_carry 369 = .ok (.iload 4, 2) := by decide +kernel
theorem dMod_carry_371 : decode cMod_carry 371 = .ok (.iload_n 1, 1) := by decide +kernel
theorem dMod_carry_372 : decode cMod_carry 372 = .ok (.bipush 20, 2) := by decide +kernel
theorem dMod_carry_374 : decode cMod_carry 374 = .ok (.iconst 5, 1) := by decide +kernel
theorem dMod_carry_375 : decode cMod_carry 375 = .ok (.invokestatic 44, 3) := by decide +kernel
theorem dMod_carry_378 : decode cMod_carry 378 = .ok (.invokevirtual 146, 3) := by decide +kernel
theorem dMod_carry_381 : decode cMod_carry 381 = .ok (.goto 11, 3) := by decide +kernel
theorem dMod_carry_384 : decode cMod_carry 384 = .ok (.iload_n 3, 1) := by decide +kernel
theorem dMod_carry_385 : decode cMod_carry 385 = .ok (.iload 4, 2) := by decide +kernel
theorem dMod_carry_387 : decode cMod_carry 387 = .ok (.iload 7, 2) := by decide +kernel
theorem dMod_carry_389 : decode cMod_carry 389 = .ok (.invokestatic 149, 3) := by decide +kernel
theorem dMod_carry_392 : decode cMod_carry 392 = .ok (.invokevirtual 132, 3) := by decide +kernel
theorem dMod_carry_395 : decode cMod_carry 395 = .ok (.goto 141, 3) := by decide +kernel
theorem dMod_carry_398 : decode cMod_carry 398 = .ok (.aload_n 0, 1) := by decide +kernel
theorem dMod_carry_399 : decode cMod_carry 399 = .ok (.iload_n 2, 1) := by decide +kernel
theorem dMod_carry_400 : decode cMod_carry 400 = .ok (.iload 6, 2) := by decide +kernel
theorem dMod_carry_402 : decode cMod_carry 402 = .ok (.iconst 1, 1) := by decide +kernel
theorem dMod_carry_403 : decode cMod_carry 403 = .ok (.if_icmp .ne 14, 3) := by decide +kernel
theorem dMod_carry_406 : decode cMod_carry 406 = .ok (.iload_n 3, 1) := by decide +kernel
theorem dMod_carry_407 : decode cMod_carry 407 = .ok (.iload 4, 2) := by decide +kernel
theorem dMod_carry_409 : decode cMod_carry 409 = .ok (.iload 5, 2) := by decide +kernel
theorem dMod_carry_411 : decode cMod_carry 411 = .ok (.invokestatic 152, 3) := by decide +kernel
theorem dMod_carry_414 : decode cMod_carry 414 = .ok (.goto 62, 3) := by decide +kernel
theorem dMod_carry_417 : decode cMod_carry 417 = .ok (.iload 6, 2) := by decide +kernel
theorem dMod_carry_419 : decode cMod_carry 419 = .ok (.ifCond .ne 24, 3) := by decide +kernel
theorem dMod_carry_422 : decode cMod_carry 422 = .ok (.iload_n 3, 1) := by decide +kernel
theorem dMod_carry_423 : decode cMod_carry 423 = .ok (.iconst 1, 1) := by decide +kernel
theorem dMod_carry_424 : decode cMod_carry 424 = .ok (.if_icmp .eq 19, 3) := by decide +kernel
theorem dMod_carry_427 : decode cMod_carry 427 = .ok (.iload_n 3, 1) := by decide +kernel
theorem dMod_carry_428 : decode cMod_carry 428 = .ok (.iconst 5, 1) := by decide +kernel
theorem dMod_carry_429 : decode cMod_carry 429 = .ok (.if_icmp .eq 14, 3) := by decide +kernel
theorem dMod_carry_432 : decode cMod_carry 432 = .ok (.iload_n 3, 1) := by decide +kernel
theorem dMod_carry_433 : decode cMod_carry 433 = .ok (.iload 4, 2) := by decide +kernel
theorem dMod_carry_435 : decode cMod_carry 435 = .ok (.iload 5, 2) := by decide +kernel
theorem dMod_carry_437 : decode cMod_carry 437 = .ok (.invokestatic 149, 3) := by decide +kernel
theorem dMod_carry_440 : decode cMod_carry 440 = .ok (.goto 36, 3) := by decide +kernel
theorem dMod_carry_443 : decode cMod_carry 443 = .ok (.iload 6, 2) := by decide +kernel
theorem dMod_carry_445 : decode cMod_carry 445 = .ok (.bipush 32, 2) := by decide +kernel
theorem dMod_carry_447 : decode cMod_carry 447 = .ok (.if_icmp .ne 15, 3) := by decide +kernel
theorem dMod_carry_450 : decode cMod_carry 450 = .ok (.iload_n 3, 1) := by decide +kernel
theorem dMod_carry_451 : decode cMod_carry 451 = .ok (.ifCond .ne 11, 3) := by decide +kernel
theorem dMod_carry_454 : decode cMod_carry 454 = .ok (.iload 4, 2) := by decide +kernel
theorem dMod_carry_456 : decode cMod_carry 456 = .ok (.iload 5, 2) := by decide +kernel
theorem dMod_carry_458 : decode cMod_carry 458 = .ok (.isub, 1) := by decide +kernel
theorem dMod_carry_459 : decode cMod_carry 459 = .ok (.goto 17, 3) := by decide +kernel
theorem dMod_carry_462 : decode cMod_carry 462 = .ok (.aload_n 0, 1) := by decide +kernel
theorem dMod_carry_463 : decode cMod_carry 463 = .ok (.iload_n 3, 1) := by decide +kernel
theorem dMod_carry_464 : decode cMod_carry 464 = .ok (.iload 6, 2) := by decide +kernel
theorem dMod_carry_466 : decode cMod_carry 466 = .ok (.iload 4, 2) := by decide +kernel
theorem dMod_carry_468 : decode cMod_carry 468 = .ok (.iload 5, 2) := by decide +kernel
theorem dMod_carry_470 : decode cMod_carry 470 = .ok (.bipush 31, 2) := by decide +kernel
theorem dMod_carry_472 : decode cMod_carry 472 = .ok (.iand, 1) := by decide +kernel
theorem dMod_carry_473 : decode cMod_carry 473 = .ok (.invokevirtual 146, 3) := by decide +kernel
theorem dMod_carry_476 : decode cMod_carry 476 = .ok (.invokevirtual 132, 3) := by decide +kernel
theorem dMod_carry_479 : decode cMod_carry 479 = .ok (.goto 57, 3) := by decide +kernel
theorem dMod_carry_482 : decode cMod_carry 482 = .ok (.aload_n 0, 1) := by decide +kernel
theorem dMod_carry_483 : decode cMod_carry 483 = .ok (.iload_n 2, 1) := by decide +kernel
theorem dMod_carry_484 : decode cMod_carry 484 = .ok (.aload_n 0, 1) := by decide +kernel
theorem dMod_carry_485 : decode cMod_carry 485 = .ok (.iload_n 1, 1) := by decide +kernel
theorem dMod_carry_486 : decode cMod_carry 486 = .ok (.iload_n 3, 1) := by decide +kernel
theorem dMod_carry_487 : decode cMod_carry 487 = .ok (.iload 6, 2) := by decide +kernel
theorem dMod_carry_489 : decode cMod_carry 489 = .ok (.iconst 2, 1) := by decide +kernel
theorem dMod_carry_490 : decode cMod_carry 490 = .ok (.ishr, 1) := by decide +kernel
theorem dMod_carry_491 : decode cMod_carry 491 = .ok (.iload 4, 2) := by decide +kernel
theorem dMod_carry_493 : decode cMod_carry 493 = .ok (.iload 5, 2) := by decide +kernel
theorem dMod_carry_495 : decode cMod_carry 495 = .ok (.invokevirtual 155, 3) := by decide +kernel
theorem dMod_carry_498 : decode cMod_carry 498 = .ok (.invokevirtual 132, 3) := by decide +kernel
theorem dMod_carry_501 : decode cMod_carry 501 = .ok (.goto 35, 3) := by decide +kernel
theorem dMod_carry_504 : decode cMod_carry 504 = .ok (.iload_n 3, 1) := by decide +kernel
theorem dMod_carry_505 : decode cMod_carry 505 = .ok (.iconst 1, 1) := by decide +kernel
theorem dMod_carry_506 : decode cMod_carry 506 = .ok (.if_icmp .le 30, 3) := by decide +kernel
theorem dMod_carry_509 : decode cMod_carry 509 = .ok (.aload_n 0, 1) := by decide +kernel
theorem dMod_carry_510 : decode cMod_carry 510 = .ok (.invokevirtual 121, 3) := by decide +kernel
theorem dMod_carry_513 : decode cMod_carry 513 = .ok (.pop, 1) := by decide +kernel
theorem dMod_carry_514 : decode cMod_carry 514 = .ok (.goto 22, 3) := by decide +kernel
theorem dMod_carry_517 : decode cMod_carry 517 = .ok (.aload_n 0, 1) := by decide +kernel
theorem dMod_carry_518 : decode cMod_carry 518 = .ok (.iload_n 2, 1) := by decide +kernel
theorem dMod_carry_519 : decode cMod_carry 519 = .ok (.aload_n 0, 1) := by decide +kernel
theorem dMod_carry_520 : decode cMod_carry 520 = .ok (.iload_n 1, 1) := by decide +kernel
theorem dMod_carry_521 : decode cMod_carry 521 = .ok (.iload_n 3, 1) := by decide +kernel
theorem dMod_carry_522 : decode cMod_carry 522 = .ok (.invokevirtual 158, 3) := by decide +kernel
theorem dMod_carry_525 : decode cMod_carry 525 = .ok (.invokevirtual 132, 3) := by decide +kernel
theorem dMod_carry_528 : decode cMod_carry 528 = .ok (.goto 8, 3) := by decide +kernel
theorem dMod_carry_531 : decode cMod_carry 531 = .ok (.aload_n 0, 1) := by decide +kernel
theorem dMod_carry_532 : decode cMod_carry 532 = .ok (.invokevirtual 121, 3) := by decide +kernel
theorem dMod_carry_535 : decode cMod_carry 535 = .ok (.pop, 1) := by decide +kernel
theorem dMod_carry_536 : decode cMod_carry 536 = .ok (.return_, 1) := by decide +kernel
theorem dMod_decide_0 : decode cMod_decide 0 = .ok (.iload_n 3, 1) := by decide +kernel
theorem dMod_decide_1 : decode cMod_decide 1 = .ok (.i2l, 1) := by decide +kernel
theorem dMod_decide_2 : decode cMod_decide 2 = .ok (.ldc2_w 161, 3) := by decide +kernel
theorem dMod_decide_5 : decode cMod_decide 5 = .ok (.land, 1) := by decide +kernel
theorem dMod_decide_6 : decode cMod_decide 6 = .ok (.lstore 5, 2) := by decide +kernel
theorem dMod_decide_8 : decode cMod_decide 8 = .ok (.iload 4, 2) := by decide +kernel
theorem dMod_decide_10 : decode cMod_decide 10 = .ok (.i2l, 1) := by decide +kernel
theorem dMod_decide_11 : decode cMod_decide 11 = .ok (.ldc2_w 161, 3) := by decide +kernel
theorem dMod_decide_14 : decode cMod_decide 14 = .ok (.land, 1) := by decide +kernel
theorem dMod_decide_15 : decode cMod_decide 15 = .ok (.lstore 7, 2) := by decide +kernel
theorem dMod_decide_17 : decode cMod_decide 17 = .ok (.iload_n 2, 1) := by decide +kernel
theorem dMod_decide_18 : decode cMod_decide 18 = .ok (.iconst 2, 1) := by decide +kernel
theorem dMod_decide_19 : decode cMod_decide 19 = .ok (.if_icmp .eq 8, 3) := by decide +kernel
theorem dMod_decide_22 : decode cMod_decide 22 = .ok (.iload_n 2, 1) := by decide +kernel
theorem dMod_decide_23 : decode cMod_decide 23 = .ok (.iconst 3, 1) := by decide +kernel
theorem dMod_decide_24 : decode cMod_decide 24 = .ok (.if_icmp .ne 9, 3) := by decide +kernel
theorem dMod_decide_27 : decode cMod_decide 27 = .ok (.aload_n 0, 1) := by decide +kernel
theorem dMod_decide_28 : decode cMod_decide 28 = .ok (.invokevirtual 121, 3) := by decide +kernel
theorem dMod_decide_31 : decode cMod_decide 31 = .ok (.pop, 1) := by decide +kernel
theorem dMod_decide_32 : decode cMod_decide 32 = .ok (.return_, 1) := by decide +kernel
theorem dMod_decide_33 : decode cMod_decide 33 = .ok (.iload_n 2, 1) := by decide +kernel
theorem dMod_decide_34 : decode cMod_decide 34 = .ok (.iconst 2, 1) := by decide +kernel
theorem dMod_decide_35 : decode cMod_decide 35 = .ok (.if_icmp .ge 17, 3) := by decide +kernel
theorem dMod_decide_38 : decode cMod_decide 38 = .ok (.iload_n 3, 1) := by decide +kernel
theorem dMod_decide_39 : decode cMod_decide 39 = .ok (.iload 4, 2) := by decide +kernel
theorem dMod_decide_41 : decode cMod_decide 41 = .ok (.if_icmp .ne 7, 3) := by decide +kernel
theorem dMod_decide_44 : decode cMod_decide 44 = .ok (.iconst 1, 1) := by decide +kernel
theorem dMod_decide_45 : decode cMod_decide 45 = .ok (.goto 40, 3) := by decide +kernel
theorem dMod_decide_48 : decode cMod_decide 48 = .ok (.iconst 0, 1) := by decide +kernel
theorem dMod_decide_49 : decode cMod_decide 49 = .ok (.goto 36, 3) := by decide +kernel
theorem dMod_decide_52 : decode cMod_decide 52 = .ok (.iload_n 2, 1) := by decide +kernel
theorem dMod_decide_53 : decode cMod_decide 53 = .ok (.bipush 6, 2) := by decide +kernel
theorem dMod_decide_55 : decode cMod_decide 55 = .ok (.if_icmp .ge 17, 3) := by decide +kernel
theorem dMod_decide_58 : decode cMod_decide 58 = .ok (.iload_n 3, 1) := by decide +kernel
theorem dMod_decide_59 : decode cMod_decide 59 = .ok (.iload 4, 2) := by decide +kernel
theorem dMod_decide_61 : decode cMod_decide 61 = .ok (.if_icmp .ge 7, 3) := by decide +kernel
theorem dMod_decide_64 : decode cMod_decide 64 = .ok (.iconst 1, 1) := by decide +kernel
theorem dMod_decide_65 : decode cMod_decide 65 = .ok (.goto 20, 3) := by decide +kernel
theorem dMod_decide_68 : decode cMod_decide 68 = .ok (.iconst 0, 1) := by decide +kernel
theorem dMod_decide_69 : decode cMod_decide 69 = .ok (.goto 16, 3) := by decide +kernel
theorem dMod_decide_72 : decode cMod_decide 72 = .ok (.lload 5, 2) := by decide +kernel
theorem dMod_decide_74 : decode cMod_decide 74 = .ok (.lload 7, 2) := by decide +kernel
theorem dMod_decide_76 : decode cMod_decide 76 = .ok (.lcmp, 1) := by decide +kernel
theorem dMod_decide_77 : decode cMod_decide 77 = .ok (.ifCond .ge 7, 3) := by decide +kernel
theorem dMod_decide_80 : decode cMod_decide 80 = .ok (.iconst 1, 1) := by decide +kernel
theorem dMod_decide_81 : decode cMod_decide 81 = .ok (.goto 4, 3) := by decide +kernel
theorem dMod_decide_84 : decode cMod_decide 84 = .ok (.iconst 0, 1) := by decide +kernel
theorem dMod_decide_85 : decode cMod_decide 85 = .ok (.istore 9, 2) := by decide +kernel
theorem dMod_decide_87 : decode cMod_decide 87 = .ok (.iload_n 2, 1) := by decide +kernel
theorem dMod_decide_88 : decode cMod_decide 88 = .ok (.iconst 1, 1) := by decide +kernel
theorem dMod_decide_89 : decode cMod_decide 89 = .ok (.iand, 1) := by decide +kernel
theorem dMod_decide_90 : decode cMod_decide 90 = .ok (.iconst 1, 1) := by decide +kernel
theorem dMod_decide_91 : decode cMod_decide 91 = .ok (.if_icmp .ne 15, 3) := by decide +kernel
theorem dMod_decide_94 : decode cMod_decide 94 = .ok (.iload 9, 2) := by decide +kernel
theorem dMod_decide_96 : decode cMod_decide 96 = .ok (.ifCond .ne 7, 3) := by decide +kernel
theorem dMod_decide_99 : decode cMod_decide 99 = .ok (.iconst 1, 1) := by decide +kernel
theorem dMod_decide_100 : decode cMod_decide 100 = .ok (.goto 4, 3) := by decide +kernel
theorem dMod_decide_103 : decode cMod_decide 103 = .ok (.iconst 0, 1) := by decide +kernel
theorem dMod_decide_104 : decode cMod_decide 104 = .ok (.istore 9, 2) := by decide +kernel
theorem dMod_decide_106 : decode cMod_decide 106 = .ok (.iload 9, 2) := by decide +kernel
theorem dMod_decide_108 : decode cMod_decide 108 = .ok (.ifCond .eq 55, 3) := by decide +kernel
theorem dMod_decide_111 : decode cMod_decide 111 = .ok (.aload_n 0, 1) := by decide +kernel
theorem dMod_decide_112 : decode cMod_decide 112 = .ok (.aload_n 0, 1) := by decide +kernel
theorem dMod_decide_113 : decode cMod_decide 113 = .ok (.getfield 37, 3) := by decide +kernel
theorem dMod_decide_116 : decode cMod_decide 116 = .ok (.iload_n 1, 1) := by decide +kernel
theorem dMod_decide_117 : decode cMod_decide 117 = .ok (.bipush 31, 2) := by decide +kernel
theorem dMod_decide_119 : decode cMod_decide 119 = .ok (.iconst 1, 1) := by decide +kernel
theorem dMod_decide_120 : decode cMod_decide 120 = .ok (.bipush 12, 2) := by decide +kernel
theorem dMod_decide_122 : decode cMod_decide 122 = .ok (.invokestatic 48, 3) := by decide +kernel
theorem dMod_decide_125 : decode cMod_decide 125 = .ok (.iload_n 1, 1) := by decide +kernel
theorem dMod_decide_126 : decode cMod_decide 126 = .ok (.bipush 7, 2) := by decide +kernel
theorem dMod_decide_128 : decode cMod_decide 128 = .ok (.iconst 1, 1) := by decide +kernel
theorem dMod_decide_129 : decode cMod_decide 129 = .ok (.bipush 11, 2) := by decide +kernel
theorem dMod_decide_131 : decode cMod_decide 131 = .ok (.invokestatic 48, 3) := by decide +kernel
theorem dMod_decide_134 : decode cMod_decide 134 = .ok (.ior, 1) := by decide +kernel
theorem dMod_decide_135 : decode cMod_decide 135 = .ok (.iload_n 1, 1) := by decide +kernel
theorem dMod_decide_136 : decode cMod_decide 136 = .ok (.bipush 25, 2) := by decide +kernel
theorem dMod_decide_138 : decode cMod_decide 138 = .ok (.bipush 6, 2) := by decide +kernel
theorem dMod_decide_140 : decode cMod_decide 140 = .ok (.iconst 5, 1) := by decide +kernel
theorem dMod_decide_141 : decode cMod_decide 141 = .ok (.invokestatic 48, 3) := by decide +kernel
theorem dMod_decide_144 : decode cMod_decide 144 = .ok (.ior, 1) := by decide +kernel
theorem dMod_decide_145 : decode cMod_decide 145 = .ok (.iload_n 1, 1) := by decide +kernel
theorem dMod_decide_146 : decode cMod_decide 146 = .ok (.bipush 8, 2) := by decide +kernel
theorem dMod_decide_148 : decode cMod_decide 148 = .ok (.iconst 4, 1) := by decide +kernel
theorem dMod_decide_149 : decode cMod_decide 149 = .ok (.iconst 1, 1) := by decide +kernel
theorem dMod_decide_150 : decode cMod_decide 150 = .ok (.invokestatic 48, 3) := by decide +kernel
theorem dMod_decide_153 : decode cMod_decide 153 = .ok (.ior, 1) := by decide +kernel
theorem dMod_decide_154 : decode cMod_decide 154 = .ok (.bipush 13, 2) := by decide +kernel
theorem dMod_decide_156 : decode cMod_decide 156 = .ok (.invokestatic 69, 3) := by decide +kernel
theorem dMod_decide_159 : decode cMod_decide 159 = .ok (.iadd, 1) := by decide +kernel
theorem dMod_decide_160 : decode cMod_decide 160 = .ok (.putfield 115, 3) := by decide +kernel
theorem dMod_decide_163 : decode cMod_decide 163 = .ok (.return_, 1) := by decide +kernel
theorem dMod_reckoned_0 : decode cMod_reckoned 0 = .ok (.iload_n 0, 1) := by decide +kernel
theorem dMod_reckoned_1 : decode cMod_reckoned 1 = .ok (.tableswitch 88 0 6 #[43, 88, 47, 58, 80, 88, 84], 43) := by decide +kernel
theorem dMod_reckoned_44 : decode cMod_reckoned 44 = .ok (.iload_n 1, 1) := by decide +kernel
theorem dMod_reckoned_45 : decode cMod_reckoned 45 = .ok (.iload_n 2, 1) := by decide +kernel
theorem dMod_reckoned_46 : decode cMod_reckoned 46 = .ok (.iadd, 1) := by decide +kernel
theorem dMod_reckoned_47 : decode cMod_reckoned 47 = .ok (.ireturn, 1) := by decide +kernel
theorem dMod_reckoned_48 : decode cMod_reckoned 48 = .ok (.iload_n 1, 1) := by decide +kernel
theorem dMod_reckoned_49 : decode cMod_reckoned 49 = .ok (.iload_n 2, 1) := by decide +kernel
theorem dMod_reckoned_50 : decode cMod_reckoned 50 = .ok (.if_icmp .ge 7, 3) := by decide +kernel
theorem dMod_reckoned_53 : decode cMod_reckoned 53 = .ok (.iconst 1, 1) := by decide +kernel
theorem dMod_reckoned_54 : decode cMod_reckoned 54 = .ok (.goto 4, 3) := by decide +kernel
theorem dMod_reckoned_57 : decode cMod_reckoned 57 = .ok (.iconst 0, 1) := by decide +kernel
theorem dMod_reckoned_58 : decode cMod_reckoned 58 = .ok (.ireturn, 1) := by decide +kernel
theorem dMod_reckoned_59 : decode cMod_reckoned 59 = .ok (.iload_n 1, 1) := by decide +kernel
theorem dMod_reckoned_60 : decode cMod_reckoned 60 = .ok (.i2l, 1) := by decide +kernel
theorem dMod_reckoned_61 : decode cMod_reckoned 61 = .ok (.ldc2_w 161, 3) := by decide +kernel
theorem dMod_reckoned_64 : decode cMod_reckoned 64 = .ok (.land, 1) := by decide +kernel
theorem dMod_reckoned_65 : decode cMod_reckoned 65 = .ok (.iload_n 2, 1) := by decide +kernel
theorem dMod_reckoned_66 : decode cMod_reckoned 66 = .ok (.i2l, 1) := by decide +kernel
theorem dMod_reckoned_67 : decode cMod_reckoned 67 = .ok (.ldc2_w 161, 3) := by decide +kernel
theorem dMod_reckoned_70 : decode cMod_reckoned 70 = .ok (.land, 1) := by decide +kernel
theorem dMod_reckoned_71 : decode cMod_reckoned 71 = .ok (.lcmp, 1) := by decide +kernel
theorem dMod_reckoned_72 : decode cMod_reckoned 72 = .ok (.ifCond .ge 7, 3) := by decide +kernel
theorem dMod_reckoned_75 : decode cMod_reckoned 75 = .ok (.iconst 1, 1) := by decide +kernel
theorem dMod_reckoned_76 : decode cMod_reckoned 76 = .ok (.goto 4, 3) := by decide +kernel
theorem dMod_reckoned_79 : decode cMod_reckoned 79 = .ok (.iconst 0, 1) := by decide +kernel
theorem dMod_reckoned_80 : decode cMod_reckoned 80 = .ok (.ireturn, 1) := by decide +kernel
theorem dMod_reckoned_81 : decode cMod_reckoned 81 = .ok (.iload_n 1, 1) := by decide +kernel
theorem dMod_reckoned_82 : decode cMod_reckoned 82 = .ok (.iload_n 2, 1) := by decide +kernel
theorem dMod_reckoned_83 : decode cMod_reckoned 83 = .ok (.ixor, 1) := by decide +kernel
theorem dMod_reckoned_84 : decode cMod_reckoned 84 = .ok (.ireturn, 1) := by decide +kernel
theorem dMod_reckoned_85 : decode cMod_reckoned 85 = .ok (.iload_n 1, 1) := by decide +kernel
theorem dMod_reckoned_86 : decode cMod_reckoned 86 = .ok (.iload_n 2, 1) := by decide +kernel
theorem dMod_reckoned_87 : decode cMod_reckoned 87 = .ok (.ior, 1) := by decide +kernel
theorem dMod_reckoned_88 : decode cMod_reckoned 88 = .ok (.ireturn, 1) := by decide +kernel
theorem dMod_reckoned_89 : decode cMod_reckoned 89 = .ok (.iload_n 1, 1) := by decide +kernel
theorem dMod_reckoned_90 : decode cMod_reckoned 90 = .ok (.iload_n 2, 1) := by decide +kernel
theorem dMod_reckoned_91 : decode cMod_reckoned 91 = .ok (.iand, 1) := by decide +kernel
theorem dMod_reckoned_92 : decode cMod_reckoned 92 = .ok (.ireturn, 1) := by decide +kernel
theorem dMod_shifted_0 : decode cMod_shifted 0 = .ok (.iload_n 1, 1) := by decide +kernel
theorem dMod_shifted_1 : decode cMod_shifted 1 = .ok (.iconst 1, 1) := by decide +kernel
theorem dMod_shifted_2 : decode cMod_shifted 2 = .ok (.if_icmp .ne 12, 3) := by decide +kernel
theorem dMod_shifted_5 : decode cMod_shifted 5 = .ok (.iload_n 2, 1) := by decide +kernel
theorem dMod_shifted_6 : decode cMod_shifted 6 = .ok (.ifCond .ne 8, 3) := by decide +kernel
theorem dMod_shifted_9 : decode cMod_shifted 9 = .ok (.iload_n 3, 1) := by decide +kernel
theorem dMod_shifted_10 : decode cMod_shifted 10 = .ok (.iload 4, 2) := by decide +kernel
theorem dMod_shifted_12 : decode cMod_shifted 12 = .ok (.ishl, 1) := by decide +kernel
theorem dMod_shifted_13 : decode cMod_shifted 13 = .ok (.ireturn, 1) := by decide +kernel
theorem dMod_shifted_14 : decode cMod_shifted 14 = .ok (.iload_n 1, 1) := by decide +kernel
theorem dMod_shifted_15 : decode cMod_shifted 15 = .ok (.iconst 5, 1) := by decide +kernel
theorem dMod_shifted_16 : decode cMod_shifted 16 = .ok (.if_icmp .ne 12, 3) := by decide +kernel
theorem dMod_shifted_19 : decode cMod_shifted 19 = .ok (.iload_n 2, 1) := by decide +kernel
theorem dMod_shifted_20 : decode cMod_shifted 20 = .ok (.ifCond .ne 8, 3) := by decide +kernel
theorem dMod_shifted_23 : decode cMod_shifted 23 = .ok (.iload_n 3, 1) := by decide +kernel
theorem dMod_shifted_24 : decode cMod_shifted 24 = .ok (.iload 4, 2) := by decide +kernel
theorem dMod_shifted_26 : decode cMod_shifted 26 = .ok (.iushr, 1) := by decide +kernel
theorem dMod_shifted_27 : decode cMod_shifted 27 = .ok (.ireturn, 1) := by decide +kernel
theorem dMod_shifted_28 : decode cMod_shifted 28 = .ok (.iload_n 1, 1) := by decide +kernel
theorem dMod_shifted_29 : decode cMod_shifted 29 = .ok (.iconst 5, 1) := by decide +kernel
theorem dMod_shifted_30 : decode cMod_shifted 30 = .ok (.if_icmp .ne 16, 3) := by decide +kernel
theorem dMod_shifted_33 : decode cMod_shifted 33 = .ok (.iload_n 2, 1) := by decide +kernel
theorem dMod_shifted_34 : decode cMod_shifted 34 = .ok (.bipush 32, 2) := by decide +kernel
theorem dMod_shifted_36 : decode cMod_shifted 36 = .ok (.if_icmp .ne 10, 3) := by decide +kernel
theorem dMod_shifted_39 : decode cMod_shifted 39 = .ok (.iload_n 3, 1) := by decide +kernel
theorem dMod_shifted_40 : decode cMod_shifted 40 = .ok (.iload 4, 2) := by decide +kernel
theorem dMod_shifted_42 : decode cMod_shifted 42 = .ok (.ishr, 1) := by decide +kernel
theorem dMod_shifted_43 : decode cMod_shifted 43 = .ok (.goto 7, 3) := by decide +kernel
theorem dMod_shifted_46 : decode cMod_shifted 46 = .ok (.aload_n 0, 1) := by decide +kernel
theorem dMod_shifted_47 : decode cMod_shifted 47 = .ok (.invokevirtual 121, 3) := by decide +kernel
theorem dMod_shifted_50 : decode cMod_shifted 50 = .ok (.ireturn, 1) := by decide +kernel
theorem dMod_multiplied_0 : decode cMod_multiplied 0 = .ok (.iload_n 1, 1) := by decide +kernel
theorem dMod_multiplied_1 : decode cMod_multiplied 1 = .ok (.i2l, 1) := by decide +kernel
theorem dMod_multiplied_2 : decode cMod_multiplied 2 = .ok (.ldc2_w 161, 3) := by decide +kernel
theorem dMod_multiplied_5 : decode cMod_multiplied 5 = .ok (.land, 1) := by decide +kernel
theorem dMod_multiplied_6 : decode cMod_multiplied 6 = .ok (.lstore_n 3, 1) := by decide +kernel
theorem dMod_multiplied_7 : decode cMod_multiplied 7 = .ok (.iload_n 2, 1) := by decide +kernel
theorem dMod_multiplied_8 : decode cMod_multiplied 8 = .ok (.i2l, 1) := by decide +kernel
theorem dMod_multiplied_9 : decode cMod_multiplied 9 = .ok (.ldc2_w 161, 3) := by decide +kernel
theorem dMod_multiplied_12 : decode cMod_multiplied 12 = .ok (.land, 1) := by decide +kernel
theorem dMod_multiplied_13 : decode cMod_multiplied 13 = .ok (.lstore 5, 2) := by decide +kernel
theorem dMod_multiplied_15 : decode cMod_multiplied 15 = .ok (.iload_n 0, 1) := by decide +kernel
theorem dMod_multiplied_16 : decode cMod_multiplied 16 = .ok (.tableswitch 121 0 6 #[44, 48, 58, 68, 77, 92, 106], 44) := by decide +kernel
theorem dMod_multiplied_60 : decode cMod_multiplied 60 = .ok (.iload_n 1, 1) := by decide +kernel
theorem dMod_multiplied_61 : decode cMod_multiplied 61 = .ok (.iload_n 2, 1) := by decide +kernel
theorem dMod_multiplied_62 : decode cMod_multiplied 62 = .ok (.imul, 1) := by decide +kernel
theorem dMod_multiplied_63 : decode cMod_multiplied 63 = .ok (.ireturn, 1) := by decide +kernel
theorem dMod_multiplied_64 : decode cMod_multiplied 64 = .ok (.iload_n 1, 1) := by decide +kernel
theorem dMod_multiplied_65 : decode cMod_multiplied 65 = .ok (.i2l, 1) := by decide +kernel
theorem dMod_multiplied_66 : decode cMod_multiplied 66 = .ok (.iload_n 2, 1) := by decide +kernel
theorem dMod_multiplied_67 : decode cMod_multiplied 67 = .ok (.i2l, 1) := by decide +kernel
theorem dMod_multiplied_68 : decode cMod_multiplied 68 = .ok (.lmul, 1) := by decide +kernel
theorem dMod_multiplied_69 : decode cMod_multiplied 69 = .ok (.bipush 32, 2) := by decide +kernel
theorem dMod_multiplied_71 : decode cMod_multiplied 71 = .ok (.lshr, 1) := by decide +kernel
theorem dMod_multiplied_72 : decode cMod_multiplied 72 = .ok (.l2i, 1) := by decide +kernel
theorem dMod_multiplied_73 : decode cMod_multiplied 73 = .ok (.ireturn, 1) := by decide +kernel
theorem dMod_multiplied_74 : decode cMod_multiplied 74 = .ok (.iload_n 1, 1) := by decide +kernel
theorem dMod_multiplied_75 : decode cMod_multiplied 75 = .ok (.i2l, 1) := by decide +kernel
theorem dMod_multiplied_76 : decode cMod_multiplied 76 = .ok (.lload 5, 2) := by decide +kernel
theorem dMod_multiplied_78 : decode cMod_multiplied 78 = .ok (.lmul, 1) := by decide +kernel
theorem dMod_multiplied_79 : decode cMod_multiplied 79 = .ok (.bipush 32, 2) := by decide +kernel
theorem dMod_multiplied_81 : decode cMod_multiplied 81 = .ok (.lshr, 1) := by decide +kernel
theorem dMod_multiplied_82 : decode cMod_multiplied 82 = .ok (.l2i, 1) := by decide +kernel
theorem dMod_multiplied_83 : decode cMod_multiplied 83 = .ok (.ireturn, 1) := by decide +kernel
theorem dMod_multiplied_84 : decode cMod_multiplied 84 = .ok (.lload_n 3, 1) := by decide +kernel
theorem dMod_multiplied_85 : decode cMod_multiplied 85 = .ok (.lload 5, 2) := by decide +kernel
theorem dMod_multiplied_87 : decode cMod_multiplied 87 = .ok (.lmul, 1) := by decide +kernel
theorem dMod_multiplied_88 : decode cMod_multiplied 88 = .ok (.bipush 32, 2) := by decide +kernel
theorem dMod_multiplied_90 : decode cMod_multiplied 90 = .ok (.lushr, 1) := by decide +kernel
theorem dMod_multiplied_91 : decode cMod_multiplied 91 = .ok (.l2i, 1) := by decide +kernel
theorem dMod_multiplied_92 : decode cMod_multiplied 92 = .ok (.ireturn, 1) := by decide +kernel
theorem dMod_multiplied_93 : decode cMod_multiplied 93 = .ok (.iload_n 2, 1) := by decide +kernel
theorem dMod_multiplied_94 : decode cMod_multiplied 94 = .ok (.ifCond .ne 7, 3) := by decide +kernel
theorem dMod_multiplied_97 : decode cMod_multiplied 97 = .ok (.iconst (-1), 1) := by decide +kernel
theorem dMod_multiplied_98 : decode cMod_multiplied 98 = .ok (.goto 9, 3) := by decide +kernel
theorem dMod_multiplied_101 : decode cMod_multiplied 101 = .ok (.iload_n 1, 1) := by decide +kernel
theorem dMod_multiplied_102 : decode cMod_multiplied 102 = .ok (.i2l, 1) := by decide +kernel
theorem dMod_multiplied_103 : decode cMod_multiplied 103 = .ok (.iload_n 2, 1) := by decide +kernel
theorem dMod_multiplied_104 : decode cMod_multiplied 104 = .ok (.i2l, 1) := by decide +kernel
theorem dMod_multiplied_105 : decode cMod_multiplied 105 = .ok (.ldiv, 1) := by decide +kernel
theorem dMod_multiplied_106 : decode cMod_multiplied 106 = .ok (.l2i, 1) := by decide +kernel
theorem dMod_multiplied_107 : decode cMod_multiplied 107 = .ok (.ireturn, 1) := by decide +kernel
theorem dMod_multiplied_108 : decode cMod_multiplied 108 = .ok (.iload_n 2, 1) := by decide +kernel
theorem dMod_multiplied_109 : decode cMod_multiplied 109 = .ok (.ifCond .ne 7, 3) := by decide +kernel
theorem dMod_multiplied_112 : decode cMod_multiplied 112 = .ok (.iconst (-1), 1) := by decide +kernel
theorem dMod_multiplied_113 : decode cMod_multiplied 113 = .ok (.goto 8, 3) := by decide +kernel
theorem dMod_multiplied_116 : decode cMod_multiplied 116 = .ok (.lload_n 3, 1) := by decide +kernel
theorem dMod_multiplied_117 : decode cMod_multiplied 117 = .ok (.lload 5, 2) := by decide +kernel
theorem dMod_multiplied_119 : decode cMod_multiplied 119 = .ok (.ldiv, 1) := by decide +kernel
theorem dMod_multiplied_120 : decode cMod_multiplied 120 = .ok (.l2i, 1) := by decide +kernel
theorem dMod_multiplied_121 : decode cMod_multiplied 121 = .ok (.ireturn, 1) := by decide +kernel
theorem dMod_multiplied_122 : decode cMod_multiplied 122 = .ok (.iload_n 2, 1) := by decide +kernel
theorem dMod_multiplied_123 : decode cMod_multiplied 123 = .ok (.ifCond .ne 7, 3) := by decide +kernel
theorem dMod_multiplied_126 : decode cMod_multiplied 126 = .ok (.iload_n 1, 1) := by decide +kernel
theorem dMod_multiplied_127 : decode cMod_multiplied 127 = .ok (.goto 9, 3) := by decide +kernel
theorem dMod_multiplied_130 : decode cMod_multiplied 130 = .ok (.iload_n 1, 1) := by decide +kernel
theorem dMod_multiplied_131 : decode cMod_multiplied 131 = .ok (.i2l, 1) := by decide +kernel
theorem dMod_multiplied_132 : decode cMod_multiplied 132 = .ok (.iload_n 2, 1) := by decide +kernel
theorem dMod_multiplied_133 : decode cMod_multiplied 133 = .ok (.i2l, 1) := by decide +kernel
theorem dMod_multiplied_134 : decode cMod_multiplied 134 = .ok (.lrem, 1) := by decide +kernel
theorem dMod_multiplied_135 : decode cMod_multiplied 135 = .ok (.l2i, 1) := by decide +kernel
theorem dMod_multiplied_136 : decode cMod_multiplied 136 = .ok (.ireturn, 1) := by decide +kernel
theorem dMod_multiplied_137 : decode cMod_multiplied 137 = .ok (.iload_n 2, 1) := by decide +kernel
theorem dMod_multiplied_138 : decode cMod_multiplied 138 = .ok (.ifCond .ne 7, 3) := by decide +kernel
theorem dMod_multiplied_141 : decode cMod_multiplied 141 = .ok (.iload_n 1, 1) := by decide +kernel
theorem dMod_multiplied_142 : decode cMod_multiplied 142 = .ok (.goto 8, 3) := by decide +kernel
theorem dMod_multiplied_145 : decode cMod_multiplied 145 = .ok (.lload_n 3, 1) := by decide +kernel
theorem dMod_multiplied_146 : decode cMod_multiplied 146 = .ok (.lload 5, 2) := by decide +kernel
theorem dMod_multiplied_148 : decode cMod_multiplied 148 = .ok (.lrem, 1) := by decide +kernel
theorem dMod_multiplied_149 : decode cMod_multiplied 149 = .ok (.l2i, 1) := by decide +kernel
theorem dMod_multiplied_150 : decode cMod_multiplied 150 = .ok (.ireturn, 1) := by decide +kernel
theorem dMod_load_0 : decode cMod_load 0 = .ok (.iconst 1, 1) := by decide +kernel
theorem dMod_load_1 : decode cMod_load 1 = .ok (.iload_n 1, 1) := by decide +kernel
theorem dMod_load_2 : decode cMod_load 2 = .ok (.iconst 3, 1) := by decide +kernel
theorem dMod_load_3 : decode cMod_load 3 = .ok (.iand, 1) := by decide +kernel
theorem dMod_load_4 : decode cMod_load 4 = .ok (.ishl, 1) := by decide +kernel
theorem dMod_load_5 : decode cMod_load 5 = .ok (.istore_n 3, 1) := by decide +kernel
theorem dMod_load_6 : decode cMod_load 6 = .ok (.iload_n 1, 1) := by decide +kernel
theorem dMod_load_7 : decode cMod_load 7 = .ok (.iconst 3, 1) := by decide +kernel
theorem dMod_load_8 : decode cMod_load 8 = .ok (.if_icmp .eq 8, 3) := by decide +kernel
theorem dMod_load_11 : decode cMod_load 11 = .ok (.iload_n 1, 1) := by decide +kernel
theorem dMod_load_12 : decode cMod_load 12 = .ok (.iconst 5, 1) := by decide +kernel
theorem dMod_load_13 : decode cMod_load 13 = .ok (.if_icmp .le 8, 3) := by decide +kernel
theorem dMod_load_16 : decode cMod_load 16 = .ok (.aload_n 0, 1) := by decide +kernel
theorem dMod_load_17 : decode cMod_load 17 = .ok (.invokevirtual 121, 3) := by decide +kernel
theorem dMod_load_20 : decode cMod_load 20 = .ok (.ireturn, 1) := by decide +kernel
theorem dMod_load_21 : decode cMod_load 21 = .ok (.iload_n 2, 1) := by decide +kernel
theorem dMod_load_22 : decode cMod_load 22 = .ok (.iload_n 3, 1) := by decide +kernel
theorem dMod_load_23 : decode cMod_load 23 = .ok (.irem, 1) := by decide +kernel
theorem dMod_load_24 : decode cMod_load 24 = .ok (.ifCond .eq 10, 3) := by decide +kernel
theorem dMod_load_27 : decode cMod_load 27 = .ok (.aload_n 0, 1) := by decide +kernel
theorem dMod_load_28 : decode cMod_load 28 = .ok (.iconst 5, 1) := by decide +kernel
theorem dMod_load_29 : decode cMod_load 29 = .ok (.iload_n 2, 1) := by decide +kernel
theorem dMod_load_30 : decode cMod_load 30 = .ok (.invokevirtual 97, 3) := by decide +kernel
theorem dMod_load_33 : decode cMod_load 33 = .ok (.ireturn, 1) := by decide +kernel
theorem dMod_load_34 : decode cMod_load 34 = .ok (.aload_n 0, 1) := by decide +kernel
theorem dMod_load_35 : decode cMod_load 35 = .ok (.iload_n 2, 1) := by decide +kernel
theorem dMod_load_36 : decode cMod_load 36 = .ok (.iconst 1, 1) := by decide +kernel
theorem dMod_load_37 : decode cMod_load 37 = .ok (.invokevirtual 100, 3) := by decide +kernel
theorem dMod_load_40 : decode cMod_load 40 = .ok (.ifCond .ne 11, 3) := by decide +kernel
theorem dMod_load_43 : decode cMod_load 43 = .ok (.aload_n 0, 1) := by decide +kernel
theorem dMod_load_44 : decode cMod_load 44 = .ok (.bipush 6, 2) := by decide +kernel
theorem dMod_load_46 : decode cMod_load 46 = .ok (.iload_n 2, 1) := by decide +kernel
theorem dMod_load_47 : decode cMod_load 47 = .ok (.invokevirtual 97, 3) := by decide +kernel
theorem dMod_load_50 : decode cMod_load 50 = .ok (.ireturn, 1) := by decide +kernel
theorem dMod_load_51 : decode cMod_load 51 = .ok (.iconst 0, 1) := by decide +kernel
theorem dMod_load_52 : decode cMod_load 52 = .ok (.istore 4, 2) := by decide +kernel
theorem dMod_load_54 : decode cMod_load 54 = .ok (.iconst 0, 1) := by decide +kernel
theorem dMod_load_55 : decode cMod_load 55 = .ok (.istore 5, 2) := by decide +kernel
theorem dMod_load_57 : decode cMod_load 57 = .ok (.iload 5, 2) := by decide +kernel
theorem dMod_load_59 : decode cMod_load 59 = .ok (.iload_n 3, 1) := by decide +kernel
theorem dMod_load_60 : decode cMod_load 60 = .ok (.if_icmp .ge 29, 3) := by decide +kernel
theorem dMod_load_63 : decode cMod_load 63 = .ok (.iload 4, 2) := by decide +kernel
theorem dMod_load_65 : decode cMod_load 65 = .ok (.aload_n 0, 1) := by decide +kernel
theorem dMod_load_66 : decode cMod_load 66 = .ok (.getfield 8, 3) := by decide +kernel
theorem dMod_load_69 : decode cMod_load 69 = .ok (.iload_n 2, 1) := by decide +kernel
theorem dMod_load_70 : decode cMod_load 70 = .ok (.iload 5, 2) := by decide +kernel
theorem dMod_load_72 : decode cMod_load 72 = .ok (.iadd, 1) := by decide +kernel
theorem dMod_load_73 : decode cMod_load 73 = .ok (.iaload, 1) := by decide +kernel
theorem dMod_load_74 : decode cMod_load 74 = .ok (.bipush 8, 2) := by decide +kernel
theorem dMod_load_76 : decode cMod_load 76 = .ok (.iload 5, 2) := by decide +kernel
theorem dMod_load_78 : decode cMod_load 78 = .ok (.imul, 1) := by decide +kernel
theorem dMod_load_79 : decode cMod_load 79 = .ok (.ishl, 1) := by decide +kernel
theorem dMod_load_80 : decode cMod_load 80 = .ok (.ior, 1) := by decide +kernel
theorem dMod_load_81 : decode cMod_load 81 = .ok (.istore 4, 2) := by decide +kernel
theorem dMod_load_83 : decode cMod_load 83 = .ok (.iinc 5 1, 3) := by decide +kernel
theorem dMod_load_86 : decode cMod_load 86 = .ok (.goto (-29), 3) := by decide +kernel
theorem dMod_load_89 : decode cMod_load 89 = .ok (.iload_n 1, 1) := by decide +kernel
theorem dMod_load_90 : decode cMod_load 90 = .ok (.iconst 2, 1) := by decide +kernel
theorem dMod_load_91 : decode cMod_load 91 = .ok (.if_icmp .ge 15, 3) := by decide +kernel
theorem dMod_load_94 : decode cMod_load 94 = .ok (.iload 4, 2) := by decide +kernel
theorem dMod_load_96 : decode cMod_load 96 = .ok (.bipush 8, 2) := by decide +kernel
theorem dMod_load_98 : decode cMod_load 98 = .ok (.iload_n 3, 1) := by decide +kernel
theorem dMod_load_99 : decode cMod_load 99 = .ok (.imul, 1) := by decide +kernel
theorem dMod_load_100 : decode cMod_load 100 = .ok (.invokestatic 69, 3) := by decide +kernel
theorem dMod_load_103 : decode cMod_load 103 = .ok (.goto 5, 3) := by decide +kernel
theorem dMod_load_106 : decode cMod_load 106 = .ok (.iload 4, 2) := by decide +kernel
theorem dMod_load_108 : decode cMod_load 108 = .ok (.ireturn, 1) := by decide +kernel
theorem dMod_put_0 : decode cMod_put 0 = .ok (.iconst 1, 1) := by decide +kernel
theorem dMod_put_1 : decode cMod_put 1 = .ok (.iload_n 1, 1) := by decide +kernel
theorem dMod_put_2 : decode cMod_put 2 = .ok (.iconst 3, 1) := by decide +kernel
theorem dMod_put_3 : decode cMod_put 3 = .ok (.iand, 1) := by decide +kernel
theorem dMod_put_4 : decode cMod_put 4 = .ok (.ishl, 1) := by decide +kernel
theorem dMod_put_5 : decode cMod_put 5 = .ok (.istore 4, 2) := by decide +kernel
theorem dMod_put_7 : decode cMod_put 7 = .ok (.iload_n 1, 1) := by decide +kernel
theorem dMod_put_8 : decode cMod_put 8 = .ok (.iconst 2, 1) := by decide +kernel
theorem dMod_put_9 : decode cMod_put 9 = .ok (.if_icmp .le 11, 3) := by decide +kernel
theorem dMod_put_12 : decode cMod_put 12 = .ok (.aload_n 0, 1) := by decide +kernel
theorem dMod_put_13 : decode cMod_put 13 = .ok (.invokevirtual 121, 3) := by decide +kernel
theorem dMod_put_16 : decode cMod_put 16 = .ok (.pop, 1) := by decide +kernel
theorem dMod_put_17 : decode cMod_put 17 = .ok (.goto 71, 3) := by decide +kernel
theorem dMod_put_20 : decode cMod_put 20 = .ok (.iload_n 2, 1) := by decide +kernel
theorem dMod_put_21 : decode cMod_put 21 = .ok (.iload 4, 2) := by decide +kernel
theorem dMod_put_23 : decode cMod_put 23 = .ok (.irem, 1) := by decide +kernel
theorem dMod_put_24 : decode cMod_put 24 = .ok (.ifCond .eq 13, 3) := by decide +kernel
theorem dMod_put_27 : decode cMod_put 27 = .ok (.aload_n 0, 1) := by decide +kernel
theorem dMod_put_28 : decode cMod_put 28 = .ok (.iconst 5, 1) := by decide +kernel
theorem dMod_put_29 : decode cMod_put 29 = .ok (.iload_n 2, 1) := by decide +kernel
theorem dMod_put_30 : decode cMod_put 30 = .ok (.invokevirtual 97, 3) := by decide +kernel
theorem dMod_put_33 : decode cMod_put 33 = .ok (.pop, 1) := by decide +kernel
theorem dMod_put_34 : decode cMod_put 34 = .ok (.goto 54, 3) := by decide +kernel
theorem dMod_put_37 : decode cMod_put 37 = .ok (.aload_n 0, 1) := by decide +kernel
theorem dMod_put_38 : decode cMod_put 38 = .ok (.iload_n 2, 1) := by decide +kernel
theorem dMod_put_39 : decode cMod_put 39 = .ok (.iconst 2, 1) := by decide +kernel
theorem dMod_put_40 : decode cMod_put 40 = .ok (.invokevirtual 100, 3) := by decide +kernel
theorem dMod_put_43 : decode cMod_put 43 = .ok (.ifCond .ne 14, 3) := by decide +kernel
theorem dMod_put_46 : decode cMod_put 46 = .ok (.aload_n 0, 1) := by decide +kernel
theorem dMod_put_47 : decode cMod_put 47 = .ok (.bipush 7, 2) := by decide +kernel
theorem dMod_put_49 : decode cMod_put 49 = .ok (.iload_n 2, 1) := by decide +kernel
theorem dMod_put_50 : decode cMod_put 50 = .ok (.invokevirtual 97, 3) := by decide +kernel
theorem dMod_put_53 : decode cMod_put 53 = .ok (.pop, 1) := by decide +kernel
theorem dMod_put_54 : decode cMod_put 54 = .ok (.goto 34, 3) := by decide +kernel
theorem dMod_put_57 : decode cMod_put 57 = .ok (.iconst 0, 1) := by decide +kernel
theorem dMod_put_58 : decode cMod_put 58 = .ok (.istore 5, 2) := by decide +kernel
theorem dMod_put_60 : decode cMod_put 60 = .ok (.iload 5, 2) := by decide +kernel
theorem dMod_put_62 : decode cMod_put 62 = .ok (.iload 4, 2) := by decide +kernel
theorem dMod_put_64 : decode cMod_put 64 = .ok (.if_icmp .ge 24, 3) := by decide +kernel
theorem dMod_put_67 : decode cMod_put 67 = .ok (.aload_n 0, 1) := by decide +kernel
theorem dMod_put_68 : decode cMod_put 68 = .ok (.iload_n 2, 1) := by decide +kernel
theorem dMod_put_69 : decode cMod_put 69 = .ok (.iload 5, 2) := by decide +kernel
theorem dMod_put_71 : decode cMod_put 71 = .ok (.iadd, 1) := by decide +kernel
theorem dMod_put_72 : decode cMod_put 72 = .ok (.iload_n 3, 1) := by decide +kernel
theorem dMod_put_73 : decode cMod_put 73 = .ok (.bipush 8, 2) := by decide +kernel
theorem dMod_put_75 : decode cMod_put 75 = .ok (.iload 5, 2) := by decide +kernel
theorem dMod_put_77 : decode cMod_put 77 = .ok (.imul, 1) := by decide +kernel
theorem dMod_put_78 : decode cMod_put 78 = .ok (.ishr, 1) := by decide +kernel
theorem dMod_put_79 : decode cMod_put 79 = .ok (.invokevirtual 32, 3) := by decide +kernel
theorem dMod_put_82 : decode cMod_put 82 = .ok (.iinc 5 1, 3) := by decide +kernel
theorem dMod_put_85 : decode cMod_put 85 = .ok (.goto (-25), 3) := by decide +kernel
theorem dMod_put_88 : decode cMod_put 88 = .ok (.return_, 1) := by decide +kernel
theorem dMod_atomic_0 : decode cMod_atomic 0 = .ok (.iload_n 3, 1) := by decide +kernel
theorem dMod_atomic_1 : decode cMod_atomic 1 = .ok (.iconst 5, 1) := by decide +kernel
theorem dMod_atomic_2 : decode cMod_atomic 2 = .ok (.if_icmp .lt 39, 3) := by decide +kernel
theorem dMod_atomic_5 : decode cMod_atomic 5 = .ok (.iload_n 3, 1) := by decide +kernel
theorem dMod_atomic_6 : decode cMod_atomic 6 = .ok (.bipush 8, 2) := by decide +kernel
theorem dMod_atomic_8 : decode cMod_atomic 8 = .ok (.if_icmp .eq 33, 3) := by decide +kernel
theorem dMod_atomic_11 : decode cMod_atomic 11 = .ok (.iload_n 3, 1) := by decide +kernel
theorem dMod_atomic_12 : decode cMod_atomic 12 = .ok (.bipush 12, 2) := by decide +kernel
theorem dMod_atomic_14 : decode cMod_atomic 14 = .ok (.if_icmp .eq 27, 3) := by decide +kernel
theorem dMod_atomic_17 : decode cMod_atomic 17 = .ok (.iload_n 3, 1) := by decide +kernel
theorem dMod_atomic_18 : decode cMod_atomic 18 = .ok (.bipush 16, 2) := by decide +kernel
theorem dMod_atomic_20 : decode cMod_atomic 20 = .ok (.if_icmp .eq 21, 3) := by decide +kernel
theorem dMod_atomic_23 : decode cMod_atomic 23 = .ok (.iload_n 3, 1) := by decide +kernel
theorem dMod_atomic_24 : decode cMod_atomic 24 = .ok (.bipush 20, 2) := by decide +kernel
theorem dMod_atomic_26 : decode cMod_atomic 26 = .ok (.if_icmp .eq 15, 3) := by decide +kernel
theorem dMod_atomic_29 : decode cMod_atomic 29 = .ok (.iload_n 3, 1) := by decide +kernel
theorem dMod_atomic_30 : decode cMod_atomic 30 = .ok (.bipush 24, 2) := by decide +kernel
theorem dMod_atomic_32 : decode cMod_atomic 32 = .ok (.if_icmp .eq 9, 3) := by decide +kernel
theorem dMod_atomic_35 : decode cMod_atomic 35 = .ok (.iload_n 3, 1) := by decide +kernel
theorem dMod_atomic_36 : decode cMod_atomic 36 = .ok (.bipush 28, 2) := by decide +kernel
theorem dMod_atomic_38 : decode cMod_atomic 38 = .ok (.if_icmp .ne 7, 3) := by decide +kernel
theorem dMod_atomic_41 : decode cMod_atomic 41 = .ok (.iconst 1, 1) := by decide +kernel
theorem dMod_atomic_42 : decode cMod_atomic 42 = .ok (.goto 4, 3) := by decide +kernel
theorem dMod_atomic_45 : decode cMod_atomic 45 = .ok (.iconst 0, 1) := by decide +kernel
theorem dMod_atomic_46 : decode cMod_atomic 46 = .ok (.istore 6, 2) := by decide +kernel
theorem dMod_atomic_48 : decode cMod_atomic 48 = .ok (.iload_n 2, 1) := by decide +kernel
theorem dMod_atomic_49 : decode cMod_atomic 49 = .ok (.iconst 2, 1) := by decide +kernel
theorem dMod_atomic_50 : decode cMod_atomic 50 = .ok (.if_icmp .ne 23, 3) := by decide +kernel
theorem dMod_atomic_53 : decode cMod_atomic 53 = .ok (.iload 6, 2) := by decide +kernel
theorem dMod_atomic_55 : decode cMod_atomic 55 = .ok (.ifCond .eq 18, 3) := by decide +kernel
theorem dMod_atomic_58 : decode cMod_atomic 58 = .ok (.iload_n 3, 1) := by decide +kernel
theorem dMod_atomic_59 : decode cMod_atomic 59 = .ok (.iconst 2, 1) := by decide +kernel
theorem dMod_atomic_60 : decode cMod_atomic 60 = .ok (.if_icmp .ne 18, 3) := by decide +kernel
theorem dMod_atomic_63 : decode cMod_atomic 63 = .ok (.iload_n 1, 1) := by decide +kernel
theorem dMod_atomic_64 : decode cMod_atomic 64 = .ok (.bipush 20, 2) := by decide +kernel
theorem dMod_atomic_66 : decode cMod_atomic 66 = .ok (.iconst 5, 1) := by decide +kernel
theorem dMod_atomic_67 : decode cMod_atomic 67 = .ok (.invokestatic 44, 3) := by decide +kernel
theorem dMod_atomic_70 : decode cMod_atomic 70 = .ok (.ifCond .le 8, 3) := by decide +kernel
theorem dMod_atomic_73 : decode cMod_atomic 73 = .ok (.aload_n 0, 1) := by decide +kernel
theorem dMod_atomic_74 : decode cMod_atomic 74 = .ok (.invokevirtual 121, 3) := by decide +kernel
theorem dMod_atomic_77 : decode cMod_atomic 77 = .ok (.ireturn, 1) := by decide +kernel
theorem dMod_atomic_78 : decode cMod_atomic 78 = .ok (.iload 4, 2) := by decide +kernel
theorem dMod_atomic_80 : decode cMod_atomic 80 = .ok (.iconst 4, 1) := by decide +kernel
theorem dMod_atomic_81 : decode cMod_atomic 81 = .ok (.irem, 1) := by decide +kernel
theorem dMod_atomic_82 : decode cMod_atomic 82 = .ok (.ifCond .eq 11, 3) := by decide +kernel
theorem dMod_atomic_85 : decode cMod_atomic 85 = .ok (.aload_n 0, 1) := by decide +kernel
theorem dMod_atomic_86 : decode cMod_atomic 86 = .ok (.iconst 5, 1) := by decide +kernel
theorem dMod_atomic_87 : decode cMod_atomic 87 = .ok (.iload 4, 2) := by decide +kernel
theorem dMod_atomic_89 : decode cMod_atomic 89 = .ok (.invokevirtual 97, 3) := by decide +kernel
theorem dMod_atomic_92 : decode cMod_atomic 92 = .ok (.ireturn, 1) := by decide +kernel
theorem dMod_atomic_93 : decode cMod_atomic 93 = .ok (.iload_n 3, 1) := by decide +kernel
theorem dMod_atomic_94 : decode cMod_atomic 94 = .ok (.iconst 2, 1) := by decide +kernel
theorem dMod_atomic_95 : decode cMod_atomic 95 = .ok (.if_icmp .eq 22, 3) := by decide +kernel
theorem dMod_atomic_98 : decode cMod_atomic 98 = .ok (.aload_n 0, 1) := by decide +kernel
theorem dMod_atomic_99 : decode cMod_atomic 99 = .ok (.iload 4, 2) := by decide +kernel
theorem dMod_atomic_101 : decode cMod_atomic 101 = .ok (.iconst 2, 1) := by decide +kernel
theorem dMod_atomic_102 : decode cMod_atomic 102 = .ok (.invokevirtual 100, 3) := by decide +kernel
theorem dMod_atomic_105 : decode cMod_atomic 105 = .ok (.ifCond .ne 12, 3) := by decide +kernel
theorem dMod_atomic_108 : decode cMod_atomic 108 = .ok (.aload_n 0, 1) := by decide +kernel
theorem dMod_atomic_109 : decode cMod_atomic 109 = .ok (.bipush 7, 2) := by decide +kernel
theorem dMod_atomic_111 : decode cMod_atomic 111 = .ok (.iload 4, 2) := by decide +kernel
theorem dMod_atomic_113 : decode cMod_atomic 113 = .ok (.invokevirtual 97, 3) := by decide +kernel
theorem dMod_atomic_116 : decode cMod_atomic 116 = .ok (.ireturn, 1) := by decide +kernel
theorem dMod_atomic_117 : decode cMod_atomic 117 = .ok (.aload_n 0, 1) := by decide +kernel
theorem dMod_atomic_118 : decode cMod_atomic 118 = .ok (.iload 4, 2) := by decide +kernel
theorem dMod_atomic_120 : decode cMod_atomic 120 = .ok (.iconst 1, 1) := by decide +kernel
theorem dMod_atomic_121 : decode cMod_atomic 121 = .ok (.invokevirtual 100, 3) := by decide +kernel
theorem dMod_atomic_124 : decode cMod_atomic 124 = .ok (.ifCond .ne 12, 3) := by decide +kernel
theorem dMod_atomic_127 : decode cMod_atomic 127 = .ok (.aload_n 0, 1) := by decide +kernel
theorem dMod_atomic_128 : decode cMod_atomic 128 = .ok (.bipush 6, 2) := by decide +kernel
theorem dMod_atomic_130 : decode cMod_atomic 130 = .ok (.iload 4, 2) := by decide +kernel
theorem dMod_atomic_132 : decode cMod_atomic 132 = .ok (.invokevirtual 97, 3) := by decide +kernel
theorem dMod_atomic_135 : decode cMod_atomic 135 = .ok (.ireturn, 1) := by decide +kernel
theorem dMod_atomic_136 : decode cMod_atomic 136 = .ok (.aload_n 0, 1) := by decide +kernel
theorem dMod_atomic_137 : decode cMod_atomic 137 = .ok (.iload 4, 2) := by decide +kernel
theorem dMod_atomic_139 : decode cMod_atomic 139 = .ok (.invokevirtual 108, 3) := by decide +kernel
theorem dMod_atomic_142 : decode cMod_atomic 142 = .ok (.aload_n 0, 1) := by decide +kernel
theorem dMod_atomic_143 : decode cMod_atomic 143 = .ok (.iload 4, 2) := by decide +kernel
theorem dMod_atomic_145 : decode cMod_atomic 145 = .ok (.iconst 2, 1) := by decide +kernel
theorem dMod_atomic_146 : decode cMod_atomic 146 = .ok (.iadd, 1) := by decide +kernel
theorem dMod_atomic_147 : decode cMod_atomic 147 = .ok (.invokevirtual 108, 3) := by decide +kernel
theorem dMod_atomic_150 : decode cMod_atomic 150 = .ok (.bipush 16, 2) := by decide +kernel
theorem dMod_atomic_152 : decode cMod_atomic 152 = .ok (.ishl, 1) := by decide +kernel
theorem dMod_atomic_153 : decode cMod_atomic 153 = .ok (.ior, 1) := by decide +kernel
theorem dMod_atomic_154 : decode cMod_atomic 154 = .ok (.istore 7, 2) := by decide +kernel
theorem dMod_atomic_156 : decode cMod_atomic 156 = .ok (.iload_n 3, 1) := by decide +kernel
theorem dMod_atomic_157 : decode cMod_atomic 157 = .ok (.iconst 2, 1) := by decide +kernel
theorem dMod_atomic_158 : decode cMod_atomic 158 = .ok (.if_icmp .ne 12, 3) := by decide +kernel
theorem dMod_atomic_161 : decode cMod_atomic 161 = .ok (.aload_n 0, 1) := by decide +kernel
theorem dMod_atomic_162 : decode cMod_atomic 162 = .ok (.iload 4, 2) := by decide +kernel
theorem dMod_atomic_164 : decode cMod_atomic 164 = .ok (.putfield 20, 3) := by decide +kernel
theorem dMod_atomic_167 : decode cMod_atomic 167 = .ok (.iload 7, 2) := by decide +kernel
theorem dMod_atomic_169 : decode cMod_atomic 169 = .ok (.ireturn, 1) := by decide +kernel
theorem dMod_atomic_170 : decode cMod_atomic 170 = .ok (.aload_n 0, 1) := by decide +kernel
theorem dMod_atomic_171 : decode cMod_atomic 171 = .ok (.getfield 20, 3) := by decide +kernel
theorem dMod_atomic_174 : decode cMod_atomic 174 = .ok (.iload 4, 2) := by decide +kernel
theorem dMod_atomic_176 : decode cMod_atomic 176 = .ok (.if_icmp .ne 7, 3) := by decide +kernel
theorem dMod_atomic_179 : decode cMod_atomic 179 = .ok (.iconst 1, 1) := by decide +kernel
theorem dMod_atomic_180 : decode cMod_atomic 180 = .ok (.goto 4, 3) := by decide +kernel
theorem dMod_atomic_183 : decode cMod_atomic 183 = .ok (.iconst 0, 1) := by decide +kernel
theorem dMod_atomic_184 : decode cMod_atomic 184 = .ok (.istore 8, 2) := by decide +kernel
theorem dMod_atomic_186 : decode cMod_atomic 186 = .ok (.iload_n 3, 1) := by decide +kernel
theorem dMod_atomic_187 : decode cMod_atomic 187 = .ok (.iconst 3, 1) := by decide +kernel
theorem dMod_atomic_188 : decode cMod_atomic 188 = .ok (.if_icmp .ne 8, 3) := by decide +kernel
theorem dMod_atomic_191 : decode cMod_atomic 191 = .ok (.aload_n 0, 1) := by decide +kernel
theorem dMod_atomic_192 : decode cMod_atomic 192 = .ok (.iconst (-1), 1) := by decide +kernel
theorem dMod_atomic_193 : decode cMod_atomic 193 = .ok (.putfield 20, 3) := by decide +kernel
theorem dMod_atomic_196 : decode cMod_atomic 196 = .ok (.iload_n 3, 1) := by decide +kernel
theorem dMod_atomic_197 : decode cMod_atomic 197 = .ok (.iconst 3, 1) := by decide +kernel
theorem dMod_atomic_198 : decode cMod_atomic 198 = .ok (.if_icmp .ne 10, 3) := by decide +kernel
theorem dMod_atomic_201 : decode cMod_atomic 201 = .ok (.iload 8, 2) := by decide +kernel
theorem dMod_atomic_203 : decode cMod_atomic 203 = .ok (.ifCond .ne 5, 3) := by decide +kernel
theorem dMod_atomic_206 : decode cMod_atomic 206 = .ok (.iconst 1, 1) := by decide +kernel
theorem dMod_atomic_207 : decode cMod_atomic 207 = .ok (.ireturn, 1) := by decide +kernel
theorem dMod_atomic_208 : decode cMod_atomic 208 = .ok (.aload_n 0, 1) := by decide +kernel
theorem dMod_atomic_209 : decode cMod_atomic 209 = .ok (.iconst 2, 1) := by decide +kernel
theorem dMod_atomic_210 : decode cMod_atomic 210 = .ok (.iload 4, 2) := by decide +kernel
theorem dMod_atomic_212 : decode cMod_atomic 212 = .ok (.iload_n 3, 1) := by decide +kernel
theorem dMod_atomic_213 : decode cMod_atomic 213 = .ok (.iconst 3, 1) := by decide +kernel
theorem dMod_atomic_214 : decode cMod_atomic 214 = .ok (.if_icmp .ne 8, 3) := by decide +kernel
theorem dMod_atomic_217 : decode cMod_atomic 217 = .ok (.iload 5, 2) := by decide +kernel
theorem dMod_atomic_219 : decode cMod_atomic 219 = .ok (.goto 11, 3) := by decide +kernel
theorem dMod_atomic_222 : decode cMod_atomic 222 = .ok (.iload_n 3, 1) := by decide +kernel
theorem dMod_atomic_223 : decode cMod_atomic 223 = .ok (.iload 7, 2) := by decide +kernel
theorem dMod_atomic_225 : decode cMod_atomic 225 = .ok (.iload 5, 2) := by decide +kernel
theorem dMod_atomic_227 : decode cMod_atomic 227 = .ok (.invokestatic 163, 3) := by decide +kernel
theorem dMod_atomic_230 : decode cMod_atomic 230 = .ok (.invokevirtual 142, 3) := by decide +kernel
theorem dMod_atomic_233 : decode cMod_atomic 233 = .ok (.iload_n 3, 1) := by decide +kernel
theorem dMod_atomic_234 : decode cMod_atomic 234 = .ok (.iconst 3, 1) := by decide +kernel
theorem dMod_atomic_235 : decode cMod_atomic 235 = .ok (.if_icmp .ne 7, 3) := by decide +kernel
theorem dMod_atomic_238 : decode cMod_atomic 238 = .ok (.iconst 0, 1) := by decide +kernel
theorem dMod_atomic_239 : decode cMod_atomic 239 = .ok (.goto 5, 3) := by decide +kernel
theorem dMod_atomic_242 : decode cMod_atomic 242 = .ok (.iload 7, 2) := by decide +kernel
theorem dMod_atomic_244 : decode cMod_atomic 244 = .ok (.ireturn, 1) := by decide +kernel
theorem dMod_changed_0 : decode cMod_changed 0 = .ok (.iload_n 0, 1) := by decide +kernel
theorem dMod_changed_1 : decode cMod_changed 1 = .ok (.bipush 24, 2) := by decide +kernel
theorem dMod_changed_3 : decode cMod_changed 3 = .ok (.if_icmp .ge 16, 3) := by decide +kernel
theorem dMod_changed_6 : decode cMod_changed 6 = .ok (.iload_n 1, 1) := by decide +kernel
theorem dMod_changed_7 : decode cMod_changed 7 = .ok (.iload_n 2, 1) := by decide +kernel
theorem dMod_changed_8 : decode cMod_changed 8 = .ok (.if_icmp .ge 7, 3) := by decide +kernel
theorem dMod_changed_11 : decode cMod_changed 11 = .ok (.iconst 1, 1) := by decide +kernel
theorem dMod_changed_12 : decode cMod_changed 12 = .ok (.goto 28, 3) := by decide +kernel
theorem dMod_changed_15 : decode cMod_changed 15 = .ok (.iconst 0, 1) := by decide +kernel
theorem dMod_changed_16 : decode cMod_changed 16 = .ok (.goto 24, 3) := by decide +kernel
theorem dMod_changed_19 : decode cMod_changed 19 = .ok (.iload_n 1, 1) := by decide +kernel
theorem dMod_changed_20 : decode cMod_changed 20 = .ok (.i2l, 1) := by decide +kernel
theorem dMod_changed_21 : decode cMod_changed 21 = .ok (.ldc2_w 161, 3) := by decide +kernel
theorem dMod_changed_24 : decode cMod_changed 24 = .ok (.land, 1) := by decide +kernel
theorem dMod_changed_25 : decode cMod_changed 25 = .ok (.iload_n 2, 1) := by decide +kernel
theorem dMod_changed_26 : decode cMod_changed 26 = .ok (.i2l, 1) := by decide +kernel
theorem dMod_changed_27 : decode cMod_changed 27 = .ok (.ldc2_w 161, 3) := by decide +kernel
theorem dMod_changed_30 : decode cMod_changed 30 = .ok (.land, 1) := by decide +kernel
theorem dMod_changed_31 : decode cMod_changed 31 = .ok (.lcmp, 1) := by decide +kernel
theorem dMod_changed_32 : decode cMod_changed 32 = .ok (.ifCond .ge 7, 3) := by decide +kernel
theorem dMod_changed_35 : decode cMod_changed 35 = .ok (.iconst 1, 1) := by decide +kernel
theorem dMod_changed_36 : decode cMod_changed 36 = .ok (.goto 4, 3) := by decide +kernel
theorem dMod_changed_39 : decode cMod_changed 39 = .ok (.iconst 0, 1) := by decide +kernel
theorem dMod_changed_40 : decode cMod_changed 40 = .ok (.istore_n 3, 1) := by decide +kernel
theorem dMod_changed_41 : decode cMod_changed 41 = .ok (.iload_n 0, 1) := by decide +kernel
theorem dMod_changed_42 : decode cMod_changed 42 = .ok (.tableswitch 142 0 24 #[116, 114, 142, 142, 120, 142, 142, 142, 128, 142, 142, 142, 124, 142, 142, 142, 132, 142, 142, 142, 142, 142, 142, 142, 132], 114) := by decide +kernel
theorem dMod_changed_156 : decode cMod_changed 156 = .ok (.iload_n 2, 1) := by decide +kernel
theorem dMod_changed_157 : decode cMod_changed 157 = .ok (.ireturn, 1) := by decide +kernel
theorem dMod_changed_158 : decode cMod_changed 158 = .ok (.iload_n 1, 1) := by decide +kernel
theorem dMod_changed_159 : decode cMod_changed 159 = .ok (.iload_n 2, 1) := by decide +kernel
theorem dMod_changed_160 : decode cMod_changed 160 = .ok (.iadd, 1) := by decide +kernel
theorem dMod_changed_161 : decode cMod_changed 161 = .ok (.ireturn, 1) := by decide +kernel
theorem dMod_changed_162 : decode cMod_changed 162 = .ok (.iload_n 1, 1) := by decide +kernel
theorem dMod_changed_163 : decode cMod_changed 163 = .ok (.iload_n 2, 1) := by decide +kernel
theorem dMod_changed_164 : decode cMod_changed 164 = .ok (.ixor, 1) := by decide +kernel
theorem dMod_changed_165 : decode cMod_changed 165 = .ok (.ireturn, 1) := by decide +kernel
theorem dMod_changed_166 : decode cMod_changed 166 = .ok (.iload_n 1, 1) := by decide +kernel
theorem dMod_changed_167 : decode cMod_changed 167 = .ok (.iload_n 2, 1) := by decide +kernel
theorem dMod_changed_168 : decode cMod_changed 168 = .ok (.iand, 1) := by decide +kernel
theorem dMod_changed_169 : decode cMod_changed 169 = .ok (.ireturn, 1) := by decide +kernel
theorem dMod_changed_170 : decode cMod_changed 170 = .ok (.iload_n 1, 1) := by decide +kernel
theorem dMod_changed_171 : decode cMod_changed 171 = .ok (.iload_n 2, 1) := by decide +kernel
theorem dMod_changed_172 : decode cMod_changed 172 = .ok (.ior, 1) := by decide +kernel
theorem dMod_changed_173 : decode cMod_changed 173 = .ok (.ireturn, 1) := by decide +kernel
theorem dMod_changed_174 : decode cMod_changed 174 = .ok (.iload_n 3, 1) := by decide +kernel
theorem dMod_changed_175 : decode cMod_changed 175 = .ok (.ifCond .eq 7, 3) := by decide +kernel
theorem dMod_changed_178 : decode cMod_changed 178 = .ok (.iload_n 1, 1) := by decide +kernel
theorem dMod_changed_179 : decode cMod_changed 179 = .ok (.goto 4, 3) := by decide +kernel
theorem dMod_changed_182 : decode cMod_changed 182 = .ok (.iload_n 2, 1) := by decide +kernel
theorem dMod_changed_183 : decode cMod_changed 183 = .ok (.ireturn, 1) := by decide +kernel
theorem dMod_changed_184 : decode cMod_changed 184 = .ok (.iload_n 3, 1) := by decide +kernel
theorem dMod_changed_185 : decode cMod_changed 185 = .ok (.ifCond .eq 7, 3) := by decide +kernel
theorem dMod_changed_188 : decode cMod_changed 188 = .ok (.iload_n 2, 1) := by decide +kernel
theorem dMod_changed_189 : decode cMod_changed 189 = .ok (.goto 4, 3) := by decide +kernel
theorem dMod_changed_192 : decode cMod_changed 192 = .ok (.iload_n 1, 1) := by decide +kernel
theorem dMod_changed_193 : decode cMod_changed 193 = .ok (.ireturn, 1) := by decide +kernel
theorem dMod_system_0 : decode cMod_system 0 = .ok (.iload_n 1, 1) := by decide +kernel
theorem dMod_system_1 : decode cMod_system 1 = .ok (.bipush 115, 2) := by decide +kernel
theorem dMod_system_3 : decode cMod_system 3 = .ok (.if_icmp .ne 10, 3) := by decide +kernel
theorem dMod_system_6 : decode cMod_system 6 = .ok (.aload_n 0, 1) := by decide +kernel
theorem dMod_system_7 : decode cMod_system 7 = .ok (.iconst 3, 1) := by decide +kernel
theorem dMod_system_8 : decode cMod_system 8 = .ok (.iconst 0, 1) := by decide +kernel
theorem dMod_system_9 : decode cMod_system 9 = .ok (.invokevirtual 97, 3) := by decide +kernel
theorem dMod_system_12 : decode cMod_system 12 = .ok (.ireturn, 1) := by decide +kernel
theorem dMod_system_13 : decode cMod_system 13 = .ok (.iload_n 1, 1) := by decide +kernel
theorem dMod_system_14 : decode cMod_system 14 = .ok (.ldc 84, 2) := by decide +kernel
theorem dMod_system_16 : decode cMod_system 16 = .ok (.if_icmp .ne 10, 3) := by decide +kernel
theorem dMod_system_19 : decode cMod_system 19 = .ok (.aload_n 0, 1) := by decide +kernel
theorem dMod_system_20 : decode cMod_system 20 = .ok (.iconst 4, 1) := by decide +kernel
theorem dMod_system_21 : decode cMod_system 21 = .ok (.iconst 0, 1) := by decide +kernel
theorem dMod_system_22 : decode cMod_system 22 = .ok (.invokevirtual 97, 3) := by decide +kernel
theorem dMod_system_25 : decode cMod_system 25 = .ok (.ireturn, 1) := by decide +kernel
theorem dMod_system_26 : decode cMod_system 26 = .ok (.iload_n 1, 1) := by decide +kernel
theorem dMod_system_27 : decode cMod_system 27 = .ok (.bipush 20, 2) := by decide +kernel
theorem dMod_system_29 : decode cMod_system 29 = .ok (.iushr, 1) := by decide +kernel
theorem dMod_system_30 : decode cMod_system 30 = .ok (.istore_n 3, 1) := by decide +kernel
theorem dMod_system_31 : decode cMod_system 31 = .ok (.iload_n 2, 1) := by decide +kernel
theorem dMod_system_32 : decode cMod_system 32 = .ok (.iconst 2, 1) := by decide +kernel
theorem dMod_system_33 : decode cMod_system 33 = .ok (.if_icmp .lt 23, 3) := by decide +kernel
theorem dMod_system_36 : decode cMod_system 36 = .ok (.iload_n 2, 1) := by decide +kernel
theorem dMod_system_37 : decode cMod_system 37 = .ok (.iconst 4, 1) := by decide +kernel
theorem dMod_system_38 : decode cMod_system 38 = .ok (.if_icmp .eq 18, 3) := by decide +kernel
theorem dMod_system_41 : decode cMod_system 41 = .ok (.iload_n 2, 1) := by decide +kernel
theorem dMod_system_42 : decode cMod_system 42 = .ok (.iconst 5, 1) := by decide +kernel
theorem dMod_system_43 : decode cMod_system 43 = .ok (.if_icmp .eq 13, 3) := by decide +kernel
theorem dMod_system_46 : decode cMod_system 46 = .ok (.iload_n 1, 1) := by decide +kernel
theorem dMod_system_47 : decode cMod_system 47 = .ok (.bipush 15, 2) := by decide +kernel
theorem dMod_system_49 : decode cMod_system 49 = .ok (.iconst 5, 1) := by decide +kernel
theorem dMod_system_50 : decode cMod_system 50 = .ok (.invokestatic 44, 3) := by decide +kernel
theorem dMod_system_53 : decode cMod_system 53 = .ok (.ifCond .le 8, 3) := by decide +kernel
theorem dMod_system_56 : decode cMod_system 56 = .ok (.aload_n 0, 1) := by decide +kernel
theorem dMod_system_57 : decode cMod_system 57 = .ok (.invokevirtual 121, 3) := by decide +kernel
theorem dMod_system_60 : decode cMod_system 60 = .ok (.ireturn, 1) := by decide +kernel
theorem dMod_system_61 : decode cMod_system 61 = .ok (.iload_n 3, 1) := by decide +kernel
theorem dMod_system_62 : decode cMod_system 62 = .ok (.sipush 3072, 3) := by decide +kernel
theorem dMod_system_65 : decode cMod_system 65 = .ok (.if_icmp .eq 38, 3) := by decide +kernel
theorem dMod_system_68 : decode cMod_system 68 = .ok (.iload_n 3, 1) := by decide +kernel
theorem dMod_system_69 : decode cMod_system 69 = .ok (.sipush 3073, 3) := by decide +kernel
theorem dMod_system_72 : decode cMod_system 72 = .ok (.if_icmp .eq 31, 3) := by decide +kernel
theorem dMod_system_75 : decode cMod_system 75 = .ok (.iload_n 3, 1) := by decide +kernel
theorem dMod_system_76 : decode cMod_system 76 = .ok (.sipush 3074, 3) := by decide +kernel
theorem dMod_system_79 : decode cMod_system 79 = .ok (.if_icmp .eq 24, 3) := by decide +kernel
theorem dMod_system_82 : decode cMod_system 82 = .ok (.iload_n 3, 1) := by decide +kernel
theorem dMod_system_83 : decode cMod_system 83 = .ok (.sipush 3200, 3) := by decide +kernel
theorem dMod_system_86 : decode cMod_system 86 = .ok (.if_icmp .eq 17, 3) := by decide +kernel
theorem dMod_system_89 : decode cMod_system 89 = .ok (.iload_n 3, 1) := by decide +kernel
theorem dMod_system_90 : decode cMod_system 90 = .ok (.sipush 3201, 3) := by decide +kernel
theorem dMod_system_93 : decode cMod_system 93 = .ok (.if_icmp .eq 10, 3) := by decide +kernel
theorem dMod_system_96 : decode cMod_system 96 = .ok (.iload_n 3, 1) := by decide +kernel
theorem dMod_system_97 : decode cMod_system 97 = .ok (.sipush 3202, 3) := by decide +kernel
theorem dMod_system_100 : decode cMod_system 100 = .ok (.if_icmp .ne 7, 3) := by decide +kernel
theorem dMod_system_103 : decode cMod_system 103 = .ok (.iconst 1, 1) := by decide +kernel
theorem dMod_system_104 : decode cMod_system 104 = .ok (.goto 4, 3) := by decide +kernel
theorem dMod_system_107 : decode cMod_system 107 = .ok (.iconst 0, 1) := by decide +kernel
theorem dMod_system_108 : decode cMod_system 108 = .ok (.istore 4, 2) := by decide +kernel
theorem dMod_system_110 : decode cMod_system 110 = .ok (.iload_n 3, 1) := by decide +kernel
theorem dMod_system_111 : decode cMod_system 111 = .ok (.iconst 3, 1) := by decide +kernel
theorem dMod_system_112 : decode cMod_system 112 = .ok (.iand, 1) := by decide +kernel
theorem dMod_system_113 : decode cMod_system 113 = .ok (.iconst 1, 1) := by decide +kernel
theorem dMod_system_114 : decode cMod_system 114 = .ok (.if_icmp .ne 10, 3) := by decide +kernel
theorem dMod_system_117 : decode cMod_system 117 = .ok (.aload_n 0, 1) := by decide +kernel
theorem dMod_system_118 : decode cMod_system 118 = .ok (.getfield 40, 3) := by decide +kernel
theorem dMod_system_121 : decode cMod_system 121 = .ok (.goto 7, 3) := by decide +kernel
theorem dMod_system_124 : decode cMod_system 124 = .ok (.aload_n 0, 1) := by decide +kernel
theorem dMod_system_125 : decode cMod_system 125 = .ok (.getfield 129, 3) := by decide +kernel
theorem dMod_system_128 : decode cMod_system 128 = .ok (.lstore 5, 2) := by decide +kernel
theorem dMod_system_130 : decode cMod_system 130 = .ok (.iload 4, 2) := by decide +kernel
theorem dMod_system_132 : decode cMod_system 132 = .ok (.ifCond .eq 24, 3) := by decide +kernel
theorem dMod_system_135 : decode cMod_system 135 = .ok (.iload_n 3, 1) := by decide +kernel
theorem dMod_system_136 : decode cMod_system 136 = .ok (.sipush 3200, 3) := by decide +kernel
theorem dMod_system_139 : decode cMod_system 139 = .ok (.if_icmp .ge 8, 3) := by decide +kernel
theorem dMod_system_142 : decode cMod_system 142 = .ok (.lload 5, 2) := by decide +kernel
theorem dMod_system_144 : decode cMod_system 144 = .ok (.goto 8, 3) := by decide +kernel
theorem dMod_system_147 : decode cMod_system 147 = .ok (.lload 5, 2) := by decide +kernel
theorem dMod_system_149 : decode cMod_system 149 = .ok (.bipush 32, 2) := by decide +kernel
theorem dMod_system_151 : decode cMod_system 151 = .ok (.lshr, 1) := by decide +kernel
theorem dMod_system_152 : decode cMod_system 152 = .ok (.l2i, 1) := by decide +kernel
theorem dMod_system_153 : decode cMod_system 153 = .ok (.goto 7, 3) := by decide +kernel
theorem dMod_system_156 : decode cMod_system 156 = .ok (.aload_n 0, 1) := by decide +kernel
theorem dMod_system_157 : decode cMod_system 157 = .ok (.invokevirtual 121, 3) := by decide +kernel
theorem dMod_system_160 : decode cMod_system 160 = .ok (.ireturn, 1) := by decide +kernel
theorem dMod_run_0 : decode cMod_run 0 = .ok (.aload_n 0, 1) := by decide +kernel
theorem dMod_run_1 : decode cMod_run 1 = .ok (.iload_n 1, 1) := by decide +kernel
theorem dMod_run_2 : decode cMod_run 2 = .ok (.iconst 0, 1) := by decide +kernel
theorem dMod_run_3 : decode cMod_run 3 = .ok (.sipush 2000, 3) := by decide +kernel
theorem dMod_run_6 : decode cMod_run 6 = .ok (.invokestatic 28, 3) := by decide +kernel
theorem dMod_run_9 : decode cMod_run 9 = .ok (.ifCond .eq 7, 3) := by decide +kernel
theorem dMod_run_12 : decode cMod_run 12 = .ok (.iconst 0, 1) := by decide +kernel
theorem dMod_run_13 : decode cMod_run 13 = .ok (.goto 4, 3) := by decide +kernel
theorem dMod_run_16 : decode cMod_run 16 = .ok (.iconst 1, 1) := by decide +kernel
theorem dMod_run_17 : decode cMod_run 17 = .ok (.putfield 24, 3) := by decide +kernel
theorem dMod_run_20 : decode cMod_run 20 = .ok (.aload_n 0, 1) := by decide +kernel
theorem dMod_run_21 : decode cMod_run 21 = .ok (.getfield 24, 3) := by decide +kernel
theorem dMod_run_24 : decode cMod_run 24 = .ok (.ifCond .le 5, 3) := by decide +kernel
theorem dMod_run_27 : decode cMod_run 27 = .ok (.iconst 0, 1) := by decide +kernel
theorem dMod_run_28 : decode cMod_run 28 = .ok (.ireturn, 1) := by decide +kernel
theorem dMod_run_29 : decode cMod_run 29 = .ok (.iconst 0, 1) := by decide +kernel
theorem dMod_run_30 : decode cMod_run 30 = .ok (.istore_n 2, 1) := by decide +kernel
theorem dMod_run_31 : decode cMod_run 31 = .ok (.iload_n 2, 1) := by decide +kernel
theorem dMod_run_32 : decode cMod_run 32 = .ok (.iload_n 1, 1) := by decide +kernel
theorem dMod_run_33 : decode cMod_run 33 = .ok (.if_icmp .ge 16, 3) := by decide +kernel
theorem dMod_run_36 : decode cMod_run 36 = .ok (.aload_n 0, 1) := by decide +kernel
theorem dMod_run_37 : decode cMod_run 37 = .ok (.invokevirtual 166, 3) := by decide +kernel
theorem dMod_run_40 : decode cMod_run 40 = .ok (.ifCond .ne 9, 3) := by decide +kernel
theorem dMod_run_43 : decode cMod_run 43 = .ok (.iinc 2 1, 3) := by decide +kernel
theorem dMod_run_46 : decode cMod_run 46 = .ok (.goto (-15), 3) := by decide +kernel
theorem dMod_run_49 : decode cMod_run 49 = .ok (.iload_n 2, 1) := by decide +kernel
theorem dMod_run_50 : decode cMod_run 50 = .ok (.ireturn, 1) := by decide +kernel
theorem dMod_count_0 : decode cMod_count 0 = .ok (.aload_n 0, 1) := by decide +kernel
theorem dMod_count_1 : decode cMod_count 1 = .ok (.iload_n 1, 1) := by decide +kernel
theorem dMod_count_2 : decode cMod_count 2 = .ok (.iconst 0, 1) := by decide +kernel
theorem dMod_count_3 : decode cMod_count 3 = .ok (.iconst 4, 1) := by decide +kernel
theorem dMod_count_4 : decode cMod_count 4 = .ok (.invokestatic 28, 3) := by decide +kernel
theorem dMod_count_7 : decode cMod_count 7 = .ok (.ifCond .eq 7, 3) := by decide +kernel
theorem dMod_count_10 : decode cMod_count 10 = .ok (.iconst 0, 1) := by decide +kernel
theorem dMod_count_11 : decode cMod_count 11 = .ok (.goto 4, 3) := by decide +kernel
theorem dMod_count_14 : decode cMod_count 14 = .ok (.iconst 1, 1) := by decide +kernel
theorem dMod_count_15 : decode cMod_count 15 = .ok (.putfield 24, 3) := by decide +kernel
theorem dMod_count_18 : decode cMod_count 18 = .ok (.iload_n 1, 1) := by decide +kernel
theorem dMod_count_19 : decode cMod_count 19 = .ok (.tableswitch 62 0 4 #[33, 39, 45, 51, 56], 33) := by decide +kernel
theorem dMod_count_52 : decode cMod_count 52 = .ok (.aload_n 0, 1) := by decide +kernel
theorem dMod_count_53 : decode cMod_count 53 = .ok (.getfield 37, 3) := by decide +kernel
theorem dMod_count_56 : decode cMod_count 56 = .ok (.i2l, 1) := by decide +kernel
theorem dMod_count_57 : decode cMod_count 57 = .ok (.lreturn, 1) := by decide +kernel
theorem dMod_count_58 : decode cMod_count 58 = .ok (.aload_n 0, 1) := by decide +kernel
theorem dMod_count_59 : decode cMod_count 59 = .ok (.getfield 85, 3) := by decide +kernel
theorem dMod_count_62 : decode cMod_count 62 = .ok (.i2l, 1) := by decide +kernel
theorem dMod_count_63 : decode cMod_count 63 = .ok (.lreturn, 1) := by decide +kernel
theorem dMod_count_64 : decode cMod_count 64 = .ok (.aload_n 0, 1) := by decide +kernel
theorem dMod_count_65 : decode cMod_count 65 = .ok (.getfield 88, 3) := by decide +kernel
theorem dMod_count_68 : decode cMod_count 68 = .ok (.i2l, 1) := by decide +kernel
theorem dMod_count_69 : decode cMod_count 69 = .ok (.lreturn, 1) := by decide +kernel
theorem dMod_count_70 : decode cMod_count 70 = .ok (.aload_n 0, 1) := by decide +kernel
theorem dMod_count_71 : decode cMod_count 71 = .ok (.getfield 129, 3) := by decide +kernel
theorem dMod_count_74 : decode cMod_count 74 = .ok (.lreturn, 1) := by decide +kernel
theorem dMod_count_75 : decode cMod_count 75 = .ok (.aload_n 0, 1) := by decide +kernel
theorem dMod_count_76 : decode cMod_count 76 = .ok (.getfield 20, 3) := by decide +kernel
theorem dMod_count_79 : decode cMod_count 79 = .ok (.i2l, 1) := by decide +kernel
theorem dMod_count_80 : decode cMod_count 80 = .ok (.lreturn, 1) := by decide +kernel
theorem dMod_count_81 : decode cMod_count 81 = .ok (.lconst 0, 1) := by decide +kernel
theorem dMod_count_82 : decode cMod_count 82 = .ok (.lreturn, 1) := by decide +kernel
