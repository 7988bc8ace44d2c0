theorem dLaw_poke_0 : decode cLaw_poke 0 = .ok (.aload_n 0, 1) := by decide +kernel
theorem dLaw_poke_1 : decode cLaw_poke 1 = .ok (.iload_n 1, 1) := by decide +kernel
theorem dLaw_poke_2 : decode cLaw_poke 2 = .ok (.iload_n 2, 1) := by decide +kernel
theorem dLaw_poke_3 : decode cLaw_poke 3 = .ok (.invokevirtual 7, 3) := by decide +kernel
theorem dLaw_poke_6 : decode cLaw_poke 6 = .ok (.goto 6, 3) := by decide +kernel
theorem dLaw_poke_9 : decode cLaw_poke 9 = .ok (.astore_n 3, 1) := by decide +kernel
theorem dLaw_poke_10 : decode cLaw_poke 10 = .ok (.iconst 1, 1) := by decide +kernel
theorem dLaw_poke_11 : decode cLaw_poke 11 = .ok (.ireturn, 1) := by decide +kernel
theorem dLaw_poke_12 : decode cLaw_poke 12 = .ok (.iconst 0, 1) := by decide +kernel
theorem dLaw_poke_13 : decode cLaw_poke 13 = .ok (.ireturn, 1) := by decide +kernel
theorem dLaw_plant_0 : decode cLaw_plant 0 = .ok (.aload_n 0, 1) := by decide +kernel
theorem dLaw_plant_1 : decode cLaw_plant 1 = .ok (.iload_n 1, 1) := by decide +kernel
theorem dLaw_plant_2 : decode cLaw_plant 2 = .ok (.iload_n 2, 1) := by decide +kernel
theorem dLaw_plant_3 : decode cLaw_plant 3 = .ok (.invokevirtual 15, 3) := by decide +kernel
theorem dLaw_plant_6 : decode cLaw_plant 6 = .ok (.goto 6, 3) := by decide +kernel
theorem dLaw_plant_9 : decode cLaw_plant 9 = .ok (.astore_n 3, 1) := by decide +kernel
theorem dLaw_plant_10 : decode cLaw_plant 10 = .ok (.iconst 1, 1) := by decide +kernel
theorem dLaw_plant_11 : decode cLaw_plant 11 = .ok (.ireturn, 1) := by decide +kernel
theorem dLaw_plant_12 : decode cLaw_plant 12 = .ok (.iconst 0, 1) := by decide +kernel
theorem dLaw_plant_13 : decode cLaw_plant 13 = .ok (.ireturn, 1) := by decide +kernel
theorem dLaw_peek_0 : decode cLaw_peek 0 = .ok (.aload_n 2, 1) := by decide +kernel
theorem dLaw_peek_1 : decode cLaw_peek 1 = .ok (.iconst 0, 1) := by decide +kernel
theorem dLaw_peek_2 : decode cLaw_peek 2 = .ok (.aload_n 0, 1) := by decide +kernel
theorem dLaw_peek_3 : decode cLaw_peek 3 = .ok (.iload_n 1, 1) := by decide +kernel
theorem dLaw_peek_4 : decode cLaw_peek 4 = .ok (.invokevirtual 18, 3) := by decide +kernel
theorem dLaw_peek_7 : decode cLaw_peek 7 = .ok (.i2l, 1) := by decide +kernel
theorem dLaw_peek_8 : decode cLaw_peek 8 = .ok (.lastore, 1) := by decide +kernel
theorem dLaw_peek_9 : decode cLaw_peek 9 = .ok (.goto 6, 3) := by decide +kernel
theorem dLaw_peek_12 : decode cLaw_peek 12 = .ok (.astore_n 3, 1) := by decide +kernel
theorem dLaw_peek_13 : decode cLaw_peek 13 = .ok (.iconst 1, 1) := by decide +kernel
theorem dLaw_peek_14 : decode cLaw_peek 14 = .ok (.ireturn, 1) := by decide +kernel
theorem dLaw_peek_15 : decode cLaw_peek 15 = .ok (.iconst 0, 1) := by decide +kernel
theorem dLaw_peek_16 : decode cLaw_peek 16 = .ok (.ireturn, 1) := by decide +kernel
theorem dLaw_rights_0 : decode cLaw_rights 0 = .ok (.aload_n 3, 1) := by decide +kernel
theorem dLaw_rights_1 : decode cLaw_rights 1 = .ok (.iconst 0, 1) := by decide +kernel
theorem dLaw_rights_2 : decode cLaw_rights 2 = .ok (.aload_n 0, 1) := by decide +kernel
theorem dLaw_rights_3 : decode cLaw_rights 3 = .ok (.iload_n 1, 1) := by decide +kernel
theorem dLaw_rights_4 : decode cLaw_rights 4 = .ok (.iload_n 2, 1) := by decide +kernel
theorem dLaw_rights_5 : decode cLaw_rights 5 = .ok (.invokevirtual 22, 3) := by decide +kernel
theorem dLaw_rights_8 : decode cLaw_rights 8 = .ok (.i2l, 1) := by decide +kernel
theorem dLaw_rights_9 : decode cLaw_rights 9 = .ok (.lastore, 1) := by decide +kernel
theorem dLaw_rights_10 : decode cLaw_rights 10 = .ok (.goto 7, 3) := by decide +kernel
theorem dLaw_rights_13 : decode cLaw_rights 13 = .ok (.astore 4, 2) := by decide +kernel
theorem dLaw_rights_15 : decode cLaw_rights 15 = .ok (.iconst 1, 1) := by decide +kernel
theorem dLaw_rights_16 : decode cLaw_rights 16 = .ok (.ireturn, 1) := by decide +kernel
theorem dLaw_rights_17 : decode cLaw_rights 17 = .ok (.iconst 0, 1) := by decide +kernel
theorem dLaw_rights_18 : decode cLaw_rights 18 = .ok (.ireturn, 1) := by decide +kernel
theorem dLaw_set_0 : decode cLaw_set 0 = .ok (.aload_n 3, 1) := by decide +kernel
theorem dLaw_set_1 : decode cLaw_set 1 = .ok (.iconst 0, 1) := by decide +kernel
theorem dLaw_set_2 : decode cLaw_set 2 = .ok (.aload_n 0, 1) := by decide +kernel
theorem dLaw_set_3 : decode cLaw_set 3 = .ok (.iload_n 1, 1) := by decide +kernel
theorem dLaw_set_4 : decode cLaw_set 4 = .ok (.iload_n 2, 1) := by decide +kernel
theorem dLaw_set_5 : decode cLaw_set 5 = .ok (.invokevirtual 28, 3) := by decide +kernel
theorem dLaw_set_8 : decode cLaw_set 8 = .ok (.ifCond .eq 7, 3) := by decide +kernel
theorem dLaw_set_11 : decode cLaw_set 11 = .ok (.lconst 1, 1) := by decide +kernel
theorem dLaw_set_12 : decode cLaw_set 12 = .ok (.goto 4, 3) := by decide +kernel
theorem dLaw_set_15 : decode cLaw_set 15 = .ok (.lconst 0, 1) := by decide +kernel
theorem dLaw_set_16 : decode cLaw_set 16 = .ok (.lastore, 1) := by decide +kernel
theorem dLaw_set_17 : decode cLaw_set 17 = .ok (.goto 7, 3) := by decide +kernel
theorem dLaw_set_20 : decode cLaw_set 20 = .ok (.astore 4, 2) := by decide +kernel
theorem dLaw_set_22 : decode cLaw_set 22 = .ok (.iconst 1, 1) := by decide +kernel
theorem dLaw_set_23 : decode cLaw_set 23 = .ok (.ireturn, 1) := by decide +kernel
theorem dLaw_set_24 : decode cLaw_set 24 = .ok (.iconst 0, 1) := by decide +kernel
theorem dLaw_set_25 : decode cLaw_set 25 = .ok (.ireturn, 1) := by decide +kernel
theorem dLaw_register_0 : decode cLaw_register 0 = .ok (.aload_n 2, 1) := by decide +kernel
theorem dLaw_register_1 : decode cLaw_register 1 = .ok (.iconst 0, 1) := by decide +kernel
theorem dLaw_register_2 : decode cLaw_register 2 = .ok (.aload_n 0, 1) := by decide +kernel
theorem dLaw_register_3 : decode cLaw_register 3 = .ok (.iload_n 1, 1) := by decide +kernel
theorem dLaw_register_4 : decode cLaw_register 4 = .ok (.invokevirtual 32, 3) := by decide +kernel
theorem dLaw_register_7 : decode cLaw_register 7 = .ok (.i2l, 1) := by decide +kernel
theorem dLaw_register_8 : decode cLaw_register 8 = .ok (.lastore, 1) := by decide +kernel
theorem dLaw_register_9 : decode cLaw_register 9 = .ok (.goto 6, 3) := by decide +kernel
theorem dLaw_register_12 : decode cLaw_register 12 = .ok (.astore_n 3, 1) := by decide +kernel
theorem dLaw_register_13 : decode cLaw_register 13 = .ok (.iconst 1, 1) := by decide +kernel
theorem dLaw_register_14 : decode cLaw_register 14 = .ok (.ireturn, 1) := by decide +kernel
theorem dLaw_register_15 : decode cLaw_register 15 = .ok (.iconst 0, 1) := by decide +kernel
theorem dLaw_register_16 : decode cLaw_register 16 = .ok (.ireturn, 1) := by decide +kernel
theorem dLaw_run_0 : decode cLaw_run 0 = .ok (.aload_n 2, 1) := by decide +kernel
theorem dLaw_run_1 : decode cLaw_run 1 = .ok (.iconst 0, 1) := by decide +kernel
theorem dLaw_run_2 : decode cLaw_run 2 = .ok (.aload_n 0, 1) := by decide +kernel
theorem dLaw_run_3 : decode cLaw_run 3 = .ok (.iload_n 1, 1) := by decide +kernel
theorem dLaw_run_4 : decode cLaw_run 4 = .ok (.invokevirtual 35, 3) := by decide +kernel
theorem dLaw_run_7 : decode cLaw_run 7 = .ok (.i2l, 1) := by decide +kernel
theorem dLaw_run_8 : decode cLaw_run 8 = .ok (.lastore, 1) := by decide +kernel
theorem dLaw_run_9 : decode cLaw_run 9 = .ok (.goto 6, 3) := by decide +kernel
theorem dLaw_run_12 : decode cLaw_run 12 = .ok (.astore_n 3, 1) := by decide +kernel
theorem dLaw_run_13 : decode cLaw_run 13 = .ok (.iconst 1, 1) := by decide +kernel
theorem dLaw_run_14 : decode cLaw_run 14 = .ok (.ireturn, 1) := by decide +kernel
theorem dLaw_run_15 : decode cLaw_run 15 = .ok (.iconst 0, 1) := by decide +kernel
theorem dLaw_run_16 : decode cLaw_run 16 = .ok (.ireturn, 1) := by decide +kernel
theorem dLaw_count_0 : decode cLaw_count 0 = .ok (.aload_n 2, 1) := by decide +kernel
theorem dLaw_count_1 : decode cLaw_count 1 = .ok (.iconst 0, 1) := by decide +kernel
theorem dLaw_count_2 : decode cLaw_count 2 = .ok (.aload_n 0, 1) := by decide +kernel
theorem dLaw_count_3 : decode cLaw_count 3 = .ok (.iload_n 1, 1) := by decide +kernel
theorem dLaw_count_4 : decode cLaw_count 4 = .ok (.invokevirtual 38, 3) := by decide +kernel
theorem dLaw_count_7 : decode cLaw_count 7 = .ok (.lastore, 1) := by decide +kernel
theorem dLaw_count_8 : decode cLaw_count 8 = .ok (.goto 6, 3) := by decide +kernel
theorem dLaw_count_11 : decode cLaw_count 11 = .ok (.astore_n 3, 1) := by decide +kernel
theorem dLaw_count_12 : decode cLaw_count 12 = .ok (.iconst 1, 1) := by decide +kernel
theorem dLaw_count_13 : decode cLaw_count 13 = .ok (.ireturn, 1) := by decide +kernel
theorem dLaw_count_14 : decode cLaw_count 14 = .ok (.iconst 0, 1) := by decide +kernel
theorem dLaw_count_15 : decode cLaw_count 15 = .ok (.ireturn, 1) := by decide +kernel
theorem dLaw_law_0 : decode code 0 = .ok (.new 8, 3) := by decide +kernel
theorem dLaw_law_3 : decode code 3 = .ok (.dup, 1) := by decide +kernel
theorem dLaw_law_4 : decode code 4 = .ok (.invokespecial 42, 3) := by decide +kernel
theorem dLaw_law_7 : decode code 7 = .ok (.astore_n 1, 1) := by decide +kernel
theorem dLaw_law_8 : decode code 8 = .ok (.new 43, 3) := by decide +kernel
theorem dLaw_law_11 : decode code 11 = .ok (.dup, 1) := by decide +kernel
theorem dLaw_law_12 : decode code 12 = .ok (.invokespecial 45, 3) := by decide +kernel
theorem dLaw_law_15 : decode code 15 = .ok (.astore_n 2, 1) := by decide +kernel
theorem dLaw_law_16 : decode code 16 = .ok (.iconst 1, 1) := by decide +kernel
theorem dLaw_law_17 : decode code 17 = .ok (.newarray .long, 2) := by decide +kernel
theorem dLaw_law_19 : decode code 19 = .ok (.astore_n 3, 1) := by decide +kernel
theorem dLaw_law_20 : decode code 20 = .ok (.iconst 0, 1) := by decide +kernel
theorem dLaw_law_21 : decode code 21 = .ok (.istore 4, 2) := by decide +kernel
theorem dLaw_law_23 : decode code 23 = .ok (.iload 4, 2) := by decide +kernel
theorem dLaw_law_25 : decode code 25 = .ok (.aload_n 0, 1) := by decide +kernel
theorem dLaw_law_26 : decode code 26 = .ok (.arraylength, 1) := by decide +kernel
theorem dLaw_law_27 : decode code 27 = .ok (.iconst 3, 1) := by decide +kernel
theorem dLaw_law_28 : decode code 28 = .ok (.isub, 1) := by decide +kernel
theorem dLaw_law_29 : decode code 29 = .ok (.if_icmp .gt 626, 3) := by decide +kernel
theorem dLaw_law_32 : decode code 32 = .ok (.aload_n 0, 1) := by decide +kernel
theorem dLaw_law_33 : decode code 33 = .ok (.iload 4, 2) := by decide +kernel
theorem dLaw_law_35 : decode code 35 = .ok (.iaload, 1) := by decide +kernel
theorem dLaw_law_36 : decode code 36 = .ok (.bipush 15, 2) := by decide +kernel
theorem dLaw_law_38 : decode code 38 = .ok (.iand, 1) := by decide +kernel
theorem dLaw_law_39 : decode code 39 = .ok (.tableswitch 610 0 10 #[57, 105, 153, 209, 277, 352, 408, 431, 486, 499, 555], 57) := by decide +kernel
theorem dLaw_law_96 : decode code 96 = .ok (.aload_n 1, 1) := by decide +kernel
theorem dLaw_law_97 : decode code 97 = .ok (.aload_n 0, 1) := by decide +kernel
theorem dLaw_law_98 : decode code 98 = .ok (.iload 4, 2) := by decide +kernel
theorem dLaw_law_100 : decode code 100 = .ok (.iconst 1, 1) := by decide +kernel
theorem dLaw_law_101 : decode code 101 = .ok (.iadd, 1) := by decide +kernel
theorem dLaw_law_102 : decode code 102 = .ok (.iaload, 1) := by decide +kernel
theorem dLaw_law_103 : decode code 103 = .ok (.aload_n 0, 1) := by decide +kernel
theorem dLaw_law_104 : decode code 104 = .ok (.iload 4, 2) := by decide +kernel
theorem dLaw_law_106 : decode code 106 = .ok (.iconst 2, 1) := by decide +kernel
theorem dLaw_law_107 : decode code 107 = .ok (.iadd, 1) := by decide +kernel
theorem dLaw_law_108 : decode code 108 = .ok (.iaload, 1) := by decide +kernel
theorem dLaw_law_109 : decode code 109 = .ok (.invokestatic 46, 3) := by decide +kernel
theorem dLaw_law_112 : decode code 112 = .ok (.istore 5, 2) := by decide +kernel
theorem dLaw_law_114 : decode code 114 = .ok (.aload_n 2, 1) := by decide +kernel
theorem dLaw_law_115 : decode code 115 = .ok (.aload_n 0, 1) := by decide +kernel
theorem dLaw_law_116 : decode code 116 = .ok (.iload 4, 2) := by decide +kernel
theorem dLaw_law_118 : decode code 118 = .ok (.iconst 1, 1) := by decide +kernel
theorem dLaw_law_119 : decode code 119 = .ok (.iadd, 1) := by decide +kernel
theorem dLaw_law_120 : decode code 120 = .ok (.iaload, 1) := by decide +kernel
theorem dLaw_law_121 : decode code 121 = .ok (.aload_n 0, 1) := by decide +kernel
theorem dLaw_law_122 : decode code 122 = .ok (.iload 4, 2) := by decide +kernel
theorem dLaw_law_124 : decode code 124 = .ok (.iconst 2, 1) := by decide +kernel
theorem dLaw_law_125 : decode code 125 = .ok (.iadd, 1) := by decide +kernel
theorem dLaw_law_126 : decode code 126 = .ok (.iaload, 1) := by decide +kernel
theorem dLaw_law_127 : decode code 127 = .ok (.invokevirtual 51, 3) := by decide +kernel
theorem dLaw_law_130 : decode code 130 = .ok (.aload_n 2, 1) := by decide +kernel
theorem dLaw_law_131 : decode code 131 = .ok (.invokevirtual 52, 3) := by decide +kernel
theorem dLaw_law_134 : decode code 134 = .ok (.iload 5, 2) := by decide +kernel
theorem dLaw_law_136 : decode code 136 = .ok (.if_icmp .eq 5, 3) := by decide +kernel
theorem dLaw_law_139 : decode code 139 = .ok (.iconst 0, 1) := by decide +kernel
theorem dLaw_law_140 : decode code 140 = .ok (.ireturn, 1) := by decide +kernel
theorem dLaw_law_141 : decode code 141 = .ok (.goto 508, 3) := by decide +kernel
theorem dLaw_law_144 : decode code 144 = .ok (.aload_n 1, 1) := by decide +kernel
theorem dLaw_law_145 : decode code 145 = .ok (.aload_n 0, 1) := by decide +kernel
theorem dLaw_law_146 : decode code 146 = .ok (.iload 4, 2) := by decide +kernel
theorem dLaw_law_148 : decode code 148 = .ok (.iconst 1, 1) := by decide +kernel
theorem dLaw_law_149 : decode code 149 = .ok (.iadd, 1) := by decide +kernel
theorem dLaw_law_150 : decode code 150 = .ok (.iaload, 1) := by decide +kernel
theorem dLaw_law_151 : decode code 151 = .ok (.aload_n 0, 1) := by decide +kernel
theorem dLaw_law_152 : decode code 152 = .ok (.iload 4, 2) := by decide +kernel
theorem dLaw_law_154 : decode code 154 = .ok (.iconst 2, 1) := by decide +kernel
theorem dLaw_law_155 : decode code 155 = .ok (.iadd, 1) := by decide +kernel
theorem dLaw_law_156 : decode code 156 = .ok (.iaload, 1) := by decide +kernel
theorem dLaw_law_157 : decode code 157 = .ok (.invokestatic 56, 3) := by decide +kernel
theorem dLaw_law_160 : decode code 160 = .ok (.istore 5, 2) := by decide +kernel
theorem dLaw_law_162 : decode code 162 = .ok (.aload_n 2, 1) := by decide +kernel
theorem dLaw_law_163 : decode code 163 = .ok (.aload_n 0, 1) := by decide +kernel
theorem dLaw_law_164 : decode code 164 = .ok (.iload 4, 2) := by decide +kernel
theorem dLaw_law_166 : decode code 166 = .ok (.iconst 1, 1) := by decide +kernel
theorem dLaw_law_167 : decode code 167 = .ok (.iadd, 1) := by decide +kernel
theorem dLaw_law_168 : decode code 168 = .ok (.iaload, 1) := by decide +kernel
theorem dLaw_law_169 : decode code 169 = .ok (.aload_n 0, 1) := by decide +kernel
theorem dLaw_law_170 : decode code 170 = .ok (.iload 4, 2) := by decide +kernel
theorem dLaw_law_172 : decode code 172 = .ok (.iconst 2, 1) := by decide +kernel
theorem dLaw_law_173 : decode code 173 = .ok (.iadd, 1) := by decide +kernel
theorem dLaw_law_174 : decode code 174 = .ok (.iaload, 1) := by decide +kernel
theorem dLaw_law_175 : decode code 175 = .ok (.invokevirtual 58, 3) := by decide +kernel
theorem dLaw_law_178 : decode code 178 = .ok (.aload_n 2, 1) := by decide +kernel
theorem dLaw_law_179 : decode code 179 = .ok (.invokevirtual 52, 3) := by decide +kernel
theorem dLaw_law_182 : decode code 182 = .ok (.iload 5, 2) := by decide +kernel
theorem dLaw_law_184 : decode code 184 = .ok (.if_icmp .eq 5, 3) := by decide +kernel
theorem dLaw_law_187 : decode code 187 = .ok (.iconst 0, 1) := by decide +kernel
theorem dLaw_law_188 : decode code 188 = .ok (.ireturn, 1) := by decide +kernel
theorem dLaw_law_189 : decode code 189 = .ok (.goto 460, 3) := by decide +kernel
theorem dLaw_law_192 : decode code 192 = .ok (.aload_n 1, 1) := by decide +kernel
theorem dLaw_law_193 : decode code 193 = .ok (.aload_n 0, 1) := by decide +kernel
theorem dLaw_law_194 : decode code 194 = .ok (.iload 4, 2) := by decide +kernel
theorem dLaw_law_196 : decode code 196 = .ok (.iconst 1, 1) := by decide +kernel
theorem dLaw_law_197 : decode code 197 = .ok (.iadd, 1) := by decide +kernel
theorem dLaw_law_198 : decode code 198 = .ok (.iaload, 1) := by decide +kernel
theorem dLaw_law_199 : decode code 199 = .ok (.aload_n 3, 1) := by decide +kernel
theorem dLaw_law_200 : decode code 200 = .ok (.invokestatic 59, 3) := by decide +kernel
theorem dLaw_law_203 : decode code 203 = .ok (.istore 5, 2) := by decide +kernel
theorem dLaw_law_205 : decode code 205 = .ok (.aload_n 2, 1) := by decide +kernel
theorem dLaw_law_206 : decode code 206 = .ok (.aload_n 0, 1) := by decide +kernel
theorem dLaw_law_207 : decode code 207 = .ok (.iload 4, 2) := by decide +kernel
theorem dLaw_law_209 : decode code 209 = .ok (.iconst 1, 1) := by decide +kernel
theorem dLaw_law_210 : decode code 210 = .ok (.iadd, 1) := by decide +kernel
theorem dLaw_law_211 : decode code 211 = .ok (.iaload, 1) := by decide +kernel
theorem dLaw_law_212 : decode code 212 = .ok (.invokevirtual 62, 3) := by decide +kernel
theorem dLaw_law_215 : decode code 215 = .ok (.istore 6, 2) := by decide +kernel
theorem dLaw_law_217 : decode code 217 = .ok (.aload_n 2, 1) := by decide +kernel
theorem dLaw_law_218 : decode code 218 = .ok (.invokevirtual 52, 3) := by decide +kernel
theorem dLaw_law_221 : decode code 221 = .ok (.iload 5, 2) := by decide +kernel
theorem dLaw_law_223 : decode code 223 = .ok (.if_icmp .eq 5, 3) := by decide +kernel
theorem dLaw_law_226 : decode code 226 = .ok (.iconst 0, 1) := by decide +kernel
theorem dLaw_law_227 : decode code 227 = .ok (.ireturn, 1) := by decide +kernel
theorem dLaw_law_228 : decode code 228 = .ok (.iload 5, 2) := by decide +kernel
theorem dLaw_law_230 : decode code 230 = .ok (.ifCond .ne 15, 3) := by decide +kernel
theorem dLaw_law_233 : decode code 233 = .ok (.aload_n 3, 1) := by decide +kernel
theorem dLaw_law_234 : decode code 234 = .ok (.iconst 0, 1) := by decide +kernel
theorem dLaw_law_235 : decode code 235 = .ok (.laload, 1) := by decide +kernel
theorem dLaw_law_236 : decode code 236 = .ok (.iload 6, 2) := by decide +kernel
theorem dLaw_law_238 : decode code 238 = .ok (.i2l, 1) := by decide +kernel
theorem dLaw_law_239 : decode code 239 = .ok (.lcmp, 1) := by decide +kernel
theorem dLaw_law_240 : decode code 240 = .ok (.ifCond .eq 5, 3) := by decide +kernel
theorem dLaw_law_243 : decode code 243 = .ok (.iconst 0, 1) := by decide +kernel
theorem dLaw_law_244 : decode code 244 = .ok (.ireturn, 1) := by decide +kernel
theorem dLaw_law_245 : decode code 245 = .ok (.goto 404, 3) := by decide +kernel
theorem dLaw_law_248 : decode code 248 = .ok (.aload_n 1, 1) := by decide +kernel
theorem dLaw_law_249 : decode code 249 = .ok (.aload_n 0, 1) := by decide +kernel
theorem dLaw_law_250 : decode code 250 = .ok (.iload 4, 2) := by decide +kernel
theorem dLaw_law_252 : decode code 252 = .ok (.iconst 1, 1) := by decide +kernel
theorem dLaw_law_253 : decode code 253 = .ok (.iadd, 1) := by decide +kernel
theorem dLaw_law_254 : decode code 254 = .ok (.iaload, 1) := by decide +kernel
theorem dLaw_law_255 : decode code 255 = .ok (.aload_n 0, 1) := by decide +kernel
theorem dLaw_law_256 : decode code 256 = .ok (.iload 4, 2) := by decide +kernel
theorem dLaw_law_258 : decode code 258 = .ok (.iconst 2, 1) := by decide +kernel
theorem dLaw_law_259 : decode code 259 = .ok (.iadd, 1) := by decide +kernel
theorem dLaw_law_260 : decode code 260 = .ok (.iaload, 1) := by decide +kernel
theorem dLaw_law_261 : decode code 261 = .ok (.aload_n 3, 1) := by decide +kernel
theorem dLaw_law_262 : decode code 262 = .ok (.invokestatic 63, 3) := by decide +kernel
theorem dLaw_law_265 : decode code 265 = .ok (.istore 5, 2) := by decide +kernel
theorem dLaw_law_267 : decode code 267 = .ok (.aload_n 2, 1) := by decide +kernel
theorem dLaw_law_268 : decode code 268 = .ok (.aload_n 0, 1) := by decide +kernel
theorem dLaw_law_269 : decode code 269 = .ok (.iload 4, 2) := by decide +kernel
theorem dLaw_law_271 : decode code 271 = .ok (.iconst 1, 1) := by decide +kernel
theorem dLaw_law_272 : decode code 272 = .ok (.iadd, 1) := by decide +kernel
theorem dLaw_law_273 : decode code 273 = .ok (.iaload, 1) := by decide +kernel
theorem dLaw_law_274 : decode code 274 = .ok (.aload_n 0, 1) := by decide +kernel
theorem dLaw_law_275 : decode code 275 = .ok (.iload 4, 2) := by decide +kernel
theorem dLaw_law_277 : decode code 277 = .ok (.iconst 2, 1) := by decide +kernel
theorem dLaw_law_278 : decode code 278 = .ok (.iadd, 1) := by decide +kernel
theorem dLaw_law_279 : decode code 279 = .ok (.iaload, 1) := by decide +kernel
theorem dLaw_law_280 : decode code 280 = .ok (.invokevirtual 66, 3) := by decide +kernel
theorem dLaw_law_283 : decode code 283 = .ok (.istore 6, 2) := by decide +kernel
theorem dLaw_law_285 : decode code 285 = .ok (.aload_n 2, 1) := by decide +kernel
theorem dLaw_law_286 : decode code 286 = .ok (.invokevirtual 52, 3) := by decide +kernel
theorem dLaw_law_289 : decode code 289 = .ok (.iload 5, 2) := by decide +kernel
theorem dLaw_law_291 : decode code 291 = .ok (.if_icmp .eq 5, 3) := by decide +kernel
theorem dLaw_law_294 : decode code 294 = .ok (.iconst 0, 1) := by decide +kernel
theorem dLaw_law_295 : decode code 295 = .ok (.ireturn, 1) := by decide +kernel
theorem dLaw_law_296 : decode code 296 = .ok (.iload 5, 2) := by decide +kernel
theorem dLaw_law_298 : decode code 298 = .ok (.ifCond .ne 15, 3) := by decide +kernel
theorem dLaw_law_301 : decode code 301 = .ok (.aload_n 3, 1) := by decide +kernel
theorem dLaw_law_302 : decode code 302 = .ok (.iconst 0, 1) := by decide +kernel
theorem dLaw_law_303 : decode code 303 = .ok (.laload, 1) := by decide +kernel
theorem dLaw_law_304 : decode code 304 = .ok (.iload 6, 2) := by decide +kernel
theorem dLaw_law_306 : decode code 306 = .ok (.i2l, 1) := by decide +kernel
theorem dLaw_law_307 : decode code 307 = .ok (.lcmp, 1) := by decide +kernel
theorem dLaw_law_308 : decode code 308 = .ok (.ifCond .eq 5, 3) := by decide +kernel
theorem dLaw_law_311 : decode code 311 = .ok (.iconst 0, 1) := by decide +kernel
theorem dLaw_law_312 : decode code 312 = .ok (.ireturn, 1) := by decide +kernel
theorem dLaw_law_313 : decode code 313 = .ok (.goto 336, 3) := by decide +kernel
theorem dLaw_law_316 : decode code 316 = .ok (.aload_n 1, 1) := by decide +kernel
theorem dLaw_law_317 : decode code 317 = .ok (.aload_n 0, 1) := by decide +kernel
theorem dLaw_law_318 : decode code 318 = .ok (.iload 4, 2) := by decide +kernel
theorem dLaw_law_320 : decode code 320 = .ok (.iconst 1, 1) := by decide +kernel
theorem dLaw_law_321 : decode code 321 = .ok (.iadd, 1) := by decide +kernel
theorem dLaw_law_322 : decode code 322 = .ok (.iaload, 1) := by decide +kernel
theorem dLaw_law_323 : decode code 323 = .ok (.aload_n 0, 1) := by decide +kernel
theorem dLaw_law_324 : decode code 324 = .ok (.iload 4, 2) := by decide +kernel
theorem dLaw_law_326 : decode code 326 = .ok (.iconst 2, 1) := by decide +kernel
theorem dLaw_law_327 : decode code 327 = .ok (.iadd, 1) := by decide +kernel
theorem dLaw_law_328 : decode code 328 = .ok (.iaload, 1) := by decide +kernel
theorem dLaw_law_329 : decode code 329 = .ok (.aload_n 3, 1) := by decide +kernel
theorem dLaw_law_330 : decode code 330 = .ok (.invokestatic 67, 3) := by decide +kernel
theorem dLaw_law_333 : decode code 333 = .ok (.istore 5, 2) := by decide +kernel
theorem dLaw_law_335 : decode code 335 = .ok (.aload_n 2, 1) := by decide +kernel
theorem dLaw_law_336 : decode code 336 = .ok (.aload_n 0, 1) := by decide +kernel
theorem dLaw_law_337 : decode code 337 = .ok (.iload 4, 2) := by decide +kernel
theorem dLaw_law_339 : decode code 339 = .ok (.iconst 1, 1) := by decide +kernel
theorem dLaw_law_340 : decode code 340 = .ok (.iadd, 1) := by decide +kernel
theorem dLaw_law_341 : decode code 341 = .ok (.iaload, 1) := by decide +kernel
theorem dLaw_law_342 : decode code 342 = .ok (.aload_n 0, 1) := by decide +kernel
theorem dLaw_law_343 : decode code 343 = .ok (.iload 4, 2) := by decide +kernel
theorem dLaw_law_345 : decode code 345 = .ok (.iconst 2, 1) := by decide +kernel
theorem dLaw_law_346 : decode code 346 = .ok (.iadd, 1) := by decide +kernel
theorem dLaw_law_347 : decode code 347 = .ok (.iaload, 1) := by decide +kernel
theorem dLaw_law_348 : decode code 348 = .ok (.invokevirtual 69, 3) := by decide +kernel
theorem dLaw_law_351 : decode code 351 = .ok (.istore 6, 2) := by decide +kernel
theorem dLaw_law_353 : decode code 353 = .ok (.aload_n 2, 1) := by decide +kernel
theorem dLaw_law_354 : decode code 354 = .ok (.invokevirtual 52, 3) := by decide +kernel
theorem dLaw_law_357 : decode code 357 = .ok (.iload 5, 2) := by decide +kernel
theorem dLaw_law_359 : decode code 359 = .ok (.if_icmp .eq 5, 3) := by decide +kernel
theorem dLaw_law_362 : decode code 362 = .ok (.iconst 0, 1) := by decide +kernel
theorem dLaw_law_363 : decode code 363 = .ok (.ireturn, 1) := by decide +kernel
theorem dLaw_law_364 : decode code 364 = .ok (.iload 5, 2) := by decide +kernel
theorem dLaw_law_366 : decode code 366 = .ok (.ifCond .ne 22, 3) := by decide +kernel
theorem dLaw_law_369 : decode code 369 = .ok (.aload_n 3, 1) := by decide +kernel
theorem dLaw_law_370 : decode code 370 = .ok (.iconst 0, 1) := by decide +kernel
theorem dLaw_law_371 : decode code 371 = .ok (.laload, 1) := by decide +kernel
theorem dLaw_law_372 : decode code 372 = .ok (.iload 6, 2) := by decide +kernel
theorem dLaw_law_374 : decode code 374 = .ok (.ifCond .eq 7, 3) := by decide +kernel
theorem dLaw_law_377 : decode code 377 = .ok (.lconst 1, 1) := by decide +kernel
theorem dLaw_law_378 : decode code 378 = .ok (.goto 4, 3) := by decide +kernel
theorem dLaw_law_381 : decode code 381 = .ok (.lconst 0, 1) := by decide +kernel
theorem dLaw_law_382 : decode code 382 = .ok (.lcmp, 1) := by decide +kernel
theorem dLaw_law_383 : decode code 383 = .ok (.ifCond .eq 5, 3) := by decide +kernel
theorem dLaw_law_386 : decode code 386 = .ok (.iconst 0, 1) := by decide +kernel
theorem dLaw_law_387 : decode code 387 = .ok (.ireturn, 1) := by decide +kernel
theorem dLaw_law_388 : decode code 388 = .ok (.goto 261, 3) := by decide +kernel
theorem dLaw_law_391 : decode code 391 = .ok (.aload_n 1, 1) := by decide +kernel
theorem dLaw_law_392 : decode code 392 = .ok (.aload_n 0, 1) := by decide +kernel
theorem dLaw_law_393 : decode code 393 = .ok (.iload 4, 2) := by decide +kernel
theorem dLaw_law_395 : decode code 395 = .ok (.iconst 1, 1) := by decide +kernel
theorem dLaw_law_396 : decode code 396 = .ok (.iadd, 1) := by decide +kernel
theorem dLaw_law_397 : decode code 397 = .ok (.iaload, 1) := by decide +kernel
theorem dLaw_law_398 : decode code 398 = .ok (.aload_n 3, 1) := by decide +kernel
theorem dLaw_law_399 : decode code 399 = .ok (.invokestatic 70, 3) := by decide +kernel
theorem dLaw_law_402 : decode code 402 = .ok (.istore 5, 2) := by decide +kernel
theorem dLaw_law_404 : decode code 404 = .ok (.aload_n 2, 1) := by decide +kernel
theorem dLaw_law_405 : decode code 405 = .ok (.aload_n 0, 1) := by decide +kernel
theorem dLaw_law_406 : decode code 406 = .ok (.iload 4, 2) := by decide +kernel
theorem dLaw_law_408 : decode code 408 = .ok (.iconst 1, 1) := by decide +kernel
theorem dLaw_law_409 : decode code 409 = .ok (.iadd, 1) := by decide +kernel
theorem dLaw_law_410 : decode code 410 = .ok (.iaload, 1) := by decide +kernel
theorem dLaw_law_411 : decode code 411 = .ok (.invokevirtual 72, 3) := by decide +kernel
theorem dLaw_law_414 : decode code 414 = .ok (.istore 6, 2) := by decide +kernel
theorem dLaw_law_416 : decode code 416 = .ok (.aload_n 2, 1) := by decide +kernel
theorem dLaw_law_417 : decode code 417 = .ok (.invokevirtual 52, 3) := by decide +kernel
theorem dLaw_law_420 : decode code 420 = .ok (.iload 5, 2) := by decide +kernel
theorem dLaw_law_422 : decode code 422 = .ok (.if_icmp .eq 5, 3) := by decide +kernel
theorem dLaw_law_425 : decode code 425 = .ok (.iconst 0, 1) := by decide +kernel
theorem dLaw_law_426 : decode code 426 = .ok (.ireturn, 1) := by decide +kernel
theorem dLaw_law_427 : decode code 427 = .ok (.iload 5, 2) := by decide +kernel
theorem dLaw_law_429 : decode code 429 = .ok (.ifCond .ne 15, 3) := by decide +kernel
theorem dLaw_law_432 : decode code 432 = .ok (.aload_n 3, 1) := by decide +kernel
theorem dLaw_law_433 : decode code 433 = .ok (.iconst 0, 1) := by decide +kernel
theorem dLaw_law_434 : decode code 434 = .ok (.laload, 1) := by decide +kernel
theorem dLaw_law_435 : decode code 435 = .ok (.iload 6, 2) := by decide +kernel
theorem dLaw_law_437 : decode code 437 = .ok (.i2l, 1) := by decide +kernel
theorem dLaw_law_438 : decode code 438 = .ok (.lcmp, 1) := by decide +kernel
theorem dLaw_law_439 : decode code 439 = .ok (.ifCond .eq 5, 3) := by decide +kernel
theorem dLaw_law_442 : decode code 442 = .ok (.iconst 0, 1) := by decide +kernel
theorem dLaw_law_443 : decode code 443 = .ok (.ireturn, 1) := by decide +kernel
theorem dLaw_law_444 : decode code 444 = .ok (.goto 205, 3) := by decide +kernel
theorem dLaw_law_447 : decode code 447 = .ok (.aload_n 1, 1) := by decide +kernel
theorem dLaw_law_448 : decode code 448 = .ok (.aload_n 0, 1) := by decide +kernel
theorem dLaw_law_449 : decode code 449 = .ok (.iload 4, 2) := by decide +kernel
theorem dLaw_law_451 : decode code 451 = .ok (.iconst 1, 1) := by decide +kernel
theorem dLaw_law_452 : decode code 452 = .ok (.iadd, 1) := by decide +kernel
theorem dLaw_law_453 : decode code 453 = .ok (.iaload, 1) := by decide +kernel
theorem dLaw_law_454 : decode code 454 = .ok (.invokevirtual 73, 3) := by decide +kernel
theorem dLaw_law_457 : decode code 457 = .ok (.aload_n 2, 1) := by decide +kernel
theorem dLaw_law_458 : decode code 458 = .ok (.aload_n 0, 1) := by decide +kernel
theorem dLaw_law_459 : decode code 459 = .ok (.iload 4, 2) := by decide +kernel
theorem dLaw_law_461 : decode code 461 = .ok (.iconst 1, 1) := by decide +kernel
theorem dLaw_law_462 : decode code 462 = .ok (.iadd, 1) := by decide +kernel
theorem dLaw_law_463 : decode code 463 = .ok (.iaload, 1) := by decide +kernel
theorem dLaw_law_464 : decode code 464 = .ok (.invokevirtual 77, 3) := by decide +kernel
theorem dLaw_law_467 : decode code 467 = .ok (.goto 182, 3) := by decide +kernel
theorem dLaw_law_470 : decode code 470 = .ok (.aload_n 1, 1) := by decide +kernel
theorem dLaw_law_471 : decode code 471 = .ok (.aload_n 0, 1) := by decide +kernel
theorem dLaw_law_472 : decode code 472 = .ok (.iload 4, 2) := by decide +kernel
theorem dLaw_law_474 : decode code 474 = .ok (.iconst 1, 1) := by decide +kernel
theorem dLaw_law_475 : decode code 475 = .ok (.iadd, 1) := by decide +kernel
theorem dLaw_law_476 : decode code 476 = .ok (.iaload, 1) := by decide +kernel
theorem dLaw_law_477 : decode code 477 = .ok (.i2l, 1) := by decide +kernel
theorem dLaw_law_478 : decode code 478 = .ok (.bipush 32, 2) := by decide +kernel
theorem dLaw_law_480 : decode code 480 = .ok (.lshl, 1) := by decide +kernel
theorem dLaw_law_481 : decode code 481 = .ok (.aload_n 0, 1) := by decide +kernel
theorem dLaw_law_482 : decode code 482 = .ok (.iload 4, 2) := by decide +kernel
theorem dLaw_law_484 : decode code 484 = .ok (.iconst 2, 1) := by decide +kernel
theorem dLaw_law_485 : decode code 485 = .ok (.iadd, 1) := by decide +kernel
theorem dLaw_law_486 : decode code 486 = .ok (.iaload, 1) := by decide +kernel
theorem dLaw_law_487 : decode code 487 = .ok (.i2l, 1) := by decide +kernel
theorem dLaw_law_488 : decode code 488 = .ok (.ldc2_w 78, 3) := by decide +kernel
theorem dLaw_law_491 : decode code 491 = .ok (.land, 1) := by decide +kernel
theorem dLaw_law_492 : decode code 492 = .ok (.lor, 1) := by decide +kernel
theorem dLaw_law_493 : decode code 493 = .ok (.invokevirtual 80, 3) := by decide +kernel
theorem dLaw_law_496 : decode code 496 = .ok (.aload_n 2, 1) := by decide +kernel
theorem dLaw_law_497 : decode code 497 = .ok (.aload_n 0, 1) := by decide +kernel
theorem dLaw_law_498 : decode code 498 = .ok (.iload 4, 2) := by decide +kernel
theorem dLaw_law_500 : decode code 500 = .ok (.iconst 1, 1) := by decide +kernel
theorem dLaw_law_501 : decode code 501 = .ok (.iadd, 1) := by decide +kernel
theorem dLaw_law_502 : decode code 502 = .ok (.iaload, 1) := by decide +kernel
theorem dLaw_law_503 : decode code 503 = .ok (.i2l, 1) := by decide +kernel
theorem dLaw_law_504 : decode code 504 = .ok (.bipush 32, 2) := by decide +kernel
theorem dLaw_law_506 : decode code 506 = .ok (.lshl, 1) := by decide +kernel
theorem dLaw_law_507 : decode code 507 = .ok (.aload_n 0, 1) := by decide +kernel
theorem dLaw_law_508 : decode code 508 = .ok (.iload 4, 2) := by decide +kernel
theorem dLaw_law_510 : decode code 510 = .ok (.iconst 2, 1) := by decide +kernel
theorem dLaw_law_511 : decode code 511 = .ok (.iadd, 1) := by decide +kernel
theorem dLaw_law_512 : decode code 512 = .ok (.iaload, 1) := by decide +kernel
theorem dLaw_law_513 : decode code 513 = .ok (.i2l, 1) := by decide +kernel
theorem dLaw_law_514 : decode code 514 = .ok (.ldc2_w 78, 3) := by decide +kernel
theorem dLaw_law_517 : decode code 517 = .ok (.land, 1) := by decide +kernel
theorem dLaw_law_518 : decode code 518 = .ok (.lor, 1) := by decide +kernel
theorem dLaw_law_519 : decode code 519 = .ok (.invokevirtual 84, 3) := by decide +kernel
theorem dLaw_law_522 : decode code 522 = .ok (.goto 127, 3) := by decide +kernel
theorem dLaw_law_525 : decode code 525 = .ok (.aload_n 1, 1) := by decide +kernel
theorem dLaw_law_526 : decode code 526 = .ok (.invokevirtual 85, 3) := by decide +kernel
theorem dLaw_law_529 : decode code 529 = .ok (.aload_n 2, 1) := by decide +kernel
theorem dLaw_law_530 : decode code 530 = .ok (.invokevirtual 88, 3) := by decide +kernel
theorem dLaw_law_533 : decode code 533 = .ok (.if_icmp .eq 116, 3) := by decide +kernel
theorem dLaw_law_536 : decode code 536 = .ok (.iconst 0, 1) := by decide +kernel
theorem dLaw_law_537 : decode code 537 = .ok (.ireturn, 1) := by decide +kernel
theorem dLaw_law_538 : decode code 538 = .ok (.aload_n 1, 1) := by decide +kernel
theorem dLaw_law_539 : decode code 539 = .ok (.aload_n 0, 1) := by decide +kernel
theorem dLaw_law_540 : decode code 540 = .ok (.iload 4, 2) := by decide +kernel
theorem dLaw_law_542 : decode code 542 = .ok (.iconst 1, 1) := by decide +kernel
theorem dLaw_law_543 : decode code 543 = .ok (.iadd, 1) := by decide +kernel
theorem dLaw_law_544 : decode code 544 = .ok (.iaload, 1) := by decide +kernel
theorem dLaw_law_545 : decode code 545 = .ok (.aload_n 3, 1) := by decide +kernel
theorem dLaw_law_546 : decode code 546 = .ok (.invokestatic 89, 3) := by decide +kernel
theorem dLaw_law_549 : decode code 549 = .ok (.istore 5, 2) := by decide +kernel
theorem dLaw_law_551 : decode code 551 = .ok (.aload_n 2, 1) := by decide +kernel
theorem dLaw_law_552 : decode code 552 = .ok (.aload_n 0, 1) := by decide +kernel
theorem dLaw_law_553 : decode code 553 = .ok (.iload 4, 2) := by decide +kernel
theorem dLaw_law_555 : decode code 555 = .ok (.iconst 1, 1) := by decide +kernel
theorem dLaw_law_556 : decode code 556 = .ok (.iadd, 1) := by decide +kernel
theorem dLaw_law_557 : decode code 557 = .ok (.iaload, 1) := by decide +kernel
theorem dLaw_law_558 : decode code 558 = .ok (.invokevirtual 91, 3) := by decide +kernel
theorem dLaw_law_561 : decode code 561 = .ok (.istore 6, 2) := by decide +kernel
theorem dLaw_law_563 : decode code 563 = .ok (.aload_n 2, 1) := by decide +kernel
theorem dLaw_law_564 : decode code 564 = .ok (.invokevirtual 52, 3) := by decide +kernel
theorem dLaw_law_567 : decode code 567 = .ok (.iload 5, 2) := by decide +kernel
theorem dLaw_law_569 : decode code 569 = .ok (.if_icmp .eq 5, 3) := by decide +kernel
theorem dLaw_law_572 : decode code 572 = .ok (.iconst 0, 1) := by decide +kernel
theorem dLaw_law_573 : decode code 573 = .ok (.ireturn, 1) := by decide +kernel
theorem dLaw_law_574 : decode code 574 = .ok (.iload 5, 2) := by decide +kernel
theorem dLaw_law_576 : decode code 576 = .ok (.ifCond .ne 15, 3) := by decide +kernel
theorem dLaw_law_579 : decode code 579 = .ok (.aload_n 3, 1) := by decide +kernel
theorem dLaw_law_580 : decode code 580 = .ok (.iconst 0, 1) := by decide +kernel
theorem dLaw_law_581 : decode code 581 = .ok (.laload, 1) := by decide +kernel
theorem dLaw_law_582 : decode code 582 = .ok (.iload 6, 2) := by decide +kernel
theorem dLaw_law_584 : decode code 584 = .ok (.i2l, 1) := by decide +kernel
theorem dLaw_law_585 : decode code 585 = .ok (.lcmp, 1) := by decide +kernel
theorem dLaw_law_586 : decode code 586 = .ok (.ifCond .eq 5, 3) := by decide +kernel
theorem dLaw_law_589 : decode code 589 = .ok (.iconst 0, 1) := by decide +kernel
theorem dLaw_law_590 : decode code 590 = .ok (.ireturn, 1) := by decide +kernel
theorem dLaw_law_591 : decode code 591 = .ok (.goto 58, 3) := by decide +kernel
theorem dLaw_law_594 : decode code 594 = .ok (.aload_n 1, 1) := by decide +kernel
theorem dLaw_law_595 : decode code 595 = .ok (.aload_n 0, 1) := by decide +kernel
theorem dLaw_law_596 : decode code 596 = .ok (.iload 4, 2) := by decide +kernel
theorem dLaw_law_598 : decode code 598 = .ok (.iconst 1, 1) := by decide +kernel
theorem dLaw_law_599 : decode code 599 = .ok (.iadd, 1) := by decide +kernel
theorem dLaw_law_600 : decode code 600 = .ok (.iaload, 1) := by decide +kernel
theorem dLaw_law_601 : decode code 601 = .ok (.aload_n 3, 1) := by decide +kernel
theorem dLaw_law_602 : decode code 602 = .ok (.invokestatic 92, 3) := by decide +kernel
theorem dLaw_law_605 : decode code 605 = .ok (.istore 5, 2) := by decide +kernel
theorem dLaw_law_607 : decode code 607 = .ok (.aload_n 2, 1) := by decide +kernel
theorem dLaw_law_608 : decode code 608 = .ok (.aload_n 0, 1) := by decide +kernel
theorem dLaw_law_609 : decode code 609 = .ok (.iload 4, 2) := by decide +kernel
theorem dLaw_law_611 : decode code 611 = .ok (.iconst 1, 1) := by decide +kernel
theorem dLaw_law_612 : decode code 612 = .ok (.iadd, 1) := by decide +kernel
theorem dLaw_law_613 : decode code 613 = .ok (.iaload, 1) := by decide +kernel
theorem dLaw_law_614 : decode code 614 = .ok (.invokevirtual 94, 3) := by decide +kernel
theorem dLaw_law_617 : decode code 617 = .ok (.lstore 6, 2) := by decide +kernel
theorem dLaw_law_619 : decode code 619 = .ok (.aload_n 2, 1) := by decide +kernel
theorem dLaw_law_620 : decode code 620 = .ok (.invokevirtual 52, 3) := by decide +kernel
theorem dLaw_law_623 : decode code 623 = .ok (.iload 5, 2) := by decide +kernel
theorem dLaw_law_625 : decode code 625 = .ok (.if_icmp .eq 5, 3) := by decide +kernel
theorem dLaw_law_628 : decode code 628 = .ok (.iconst 0, 1) := by decide +kernel
theorem dLaw_law_629 : decode code 629 = .ok (.ireturn, 1) := by decide +kernel
theorem dLaw_law_630 : decode code 630 = .ok (.iload 5, 2) := by decide +kernel
theorem dLaw_law_632 : decode code 632 = .ok (.ifCond .ne 14, 3) := by decide +kernel
theorem dLaw_law_635 : decode code 635 = .ok (.aload_n 3, 1) := by decide +kernel
theorem dLaw_law_636 : decode code 636 = .ok (.iconst 0, 1) := by decide +kernel
theorem dLaw_law_637 : decode code 637 = .ok (.laload, 1) := by decide +kernel
theorem dLaw_law_638 : decode code 638 = .ok (.lload 6, 2) := by decide +kernel
theorem dLaw_law_640 : decode code 640 = .ok (.lcmp, 1) := by decide +kernel
theorem dLaw_law_641 : decode code 641 = .ok (.ifCond .eq 5, 3) := by decide +kernel
theorem dLaw_law_644 : decode code 644 = .ok (.iconst 0, 1) := by decide +kernel
theorem dLaw_law_645 : decode code 645 = .ok (.ireturn, 1) := by decide +kernel
theorem dLaw_law_646 : decode code 646 = .ok (.goto 3, 3) := by decide +kernel
theorem dLaw_law_649 : decode code 649 = .ok (.iinc 4 3, 3) := by decide +kernel
theorem dLaw_law_652 : decode code 652 = .ok (.goto (-629), 3) := by decide +kernel
theorem dLaw_law_655 : decode code 655 = .ok (.iconst 1, 1) := by decide +kernel
theorem dLaw_law_656 : decode code 656 = .ok (.ireturn, 1) := by decide +kernel
