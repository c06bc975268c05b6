theorem d_La_cell_0 : decode b_La_cell 0 = .ok (.iload_n 1, 1) := by decide +kernel
theorem d_La_cell_1 : decode b_La_cell 1 = .ok (.aload_n 0, 1) := by decide +kernel
theorem d_La_cell_2 : decode b_La_cell 2 = .ok (.arraylength, 1) := by decide +kernel
theorem d_La_cell_3 : decode b_La_cell 3 = .ok (.if_icmp .ge 9, 3) := by decide +kernel
theorem d_La_cell_6 : decode b_La_cell 6 = .ok (.aload_n 0, 1) := by decide +kernel
theorem d_La_cell_7 : decode b_La_cell 7 = .ok (.iload_n 1, 1) := by decide +kernel
theorem d_La_cell_8 : decode b_La_cell 8 = .ok (.iaload, 1) := by decide +kernel
theorem d_La_cell_9 : decode b_La_cell 9 = .ok (.goto 4, 3) := by decide +kernel
theorem d_La_cell_12 : decode b_La_cell 12 = .ok (.iconst 0, 1) := by decide +kernel
theorem d_La_cell_13 : decode b_La_cell 13 = .ok (.ireturn, 1) := by decide +kernel
theorem d_La_transfer_0 : decode b_La_transfer 0 = .ok (.aload 5, 2) := by decide +kernel
theorem d_La_transfer_2 : decode b_La_transfer 2 = .ok (.iconst 0, 1) := by decide +kernel
theorem d_La_transfer_3 : decode b_La_transfer 3 = .ok (.aload_n 0, 1) := by decide +kernel
theorem d_La_transfer_4 : decode b_La_transfer 4 = .ok (.iload_n 1, 1) := by decide +kernel
theorem d_La_transfer_5 : decode b_La_transfer 5 = .ok (.iload_n 2, 1) := by decide +kernel
theorem d_La_transfer_6 : decode b_La_transfer 6 = .ok (.iload_n 3, 1) := by decide +kernel
theorem d_La_transfer_7 : decode b_La_transfer 7 = .ok (.iload 4, 2) := by decide +kernel
theorem d_La_transfer_9 : decode b_La_transfer 9 = .ok (.invokevirtual 7, 3) := by decide +kernel
theorem d_La_transfer_12 : decode b_La_transfer 12 = .ok (.i2l, 1) := by decide +kernel
theorem d_La_transfer_13 : decode b_La_transfer 13 = .ok (.lastore, 1) := by decide +kernel
theorem d_La_transfer_14 : decode b_La_transfer 14 = .ok (.goto 11, 3) := by decide +kernel
theorem d_La_transfer_17 : decode b_La_transfer 17 = .ok (.astore 6, 2) := by decide +kernel
theorem d_La_transfer_19 : decode b_La_transfer 19 = .ok (.iconst 1, 1) := by decide +kernel
theorem d_La_transfer_20 : decode b_La_transfer 20 = .ok (.ireturn, 1) := by decide +kernel
theorem d_La_transfer_21 : decode b_La_transfer 21 = .ok (.astore 6, 2) := by decide +kernel
theorem d_La_transfer_23 : decode b_La_transfer 23 = .ok (.iconst 2, 1) := by decide +kernel
theorem d_La_transfer_24 : decode b_La_transfer 24 = .ok (.ireturn, 1) := by decide +kernel
theorem d_La_transfer_25 : decode b_La_transfer 25 = .ok (.iconst 0, 1) := by decide +kernel
theorem d_La_transfer_26 : decode b_La_transfer 26 = .ok (.ireturn, 1) := by decide +kernel
theorem d_La_run_0 : decode b_La_run 0 = .ok (.aload_n 2, 1) := by decide +kernel
theorem d_La_run_1 : decode b_La_run 1 = .ok (.iconst 0, 1) := by decide +kernel
theorem d_La_run_2 : decode b_La_run 2 = .ok (.aload_n 0, 1) := by decide +kernel
theorem d_La_run_3 : decode b_La_run 3 = .ok (.iload_n 1, 1) := by decide +kernel
theorem d_La_run_4 : decode b_La_run 4 = .ok (.invokevirtual 17, 3) := by decide +kernel
theorem d_La_run_7 : decode b_La_run 7 = .ok (.i2l, 1) := by decide +kernel
theorem d_La_run_8 : decode b_La_run 8 = .ok (.lastore, 1) := by decide +kernel
theorem d_La_run_9 : decode b_La_run 9 = .ok (.goto 6, 3) := by decide +kernel
theorem d_La_run_12 : decode b_La_run 12 = .ok (.astore_n 3, 1) := by decide +kernel
theorem d_La_run_13 : decode b_La_run 13 = .ok (.iconst 1, 1) := by decide +kernel
theorem d_La_run_14 : decode b_La_run 14 = .ok (.ireturn, 1) := by decide +kernel
theorem d_La_run_15 : decode b_La_run 15 = .ok (.iconst 0, 1) := by decide +kernel
theorem d_La_run_16 : decode b_La_run 16 = .ok (.ireturn, 1) := by decide +kernel
theorem d_La_forge_0 : decode b_La_forge 0 = .ok (.aload 6, 2) := by decide +kernel
theorem d_La_forge_2 : decode b_La_forge 2 = .ok (.iconst 0, 1) := by decide +kernel
theorem d_La_forge_3 : decode b_La_forge 3 = .ok (.aload_n 0, 1) := by decide +kernel
theorem d_La_forge_4 : decode b_La_forge 4 = .ok (.iload_n 1, 1) := by decide +kernel
theorem d_La_forge_5 : decode b_La_forge 5 = .ok (.iload_n 2, 1) := by decide +kernel
theorem d_La_forge_6 : decode b_La_forge 6 = .ok (.lload_n 3, 1) := by decide +kernel
theorem d_La_forge_7 : decode b_La_forge 7 = .ok (.iload 5, 2) := by decide +kernel
theorem d_La_forge_9 : decode b_La_forge 9 = .ok (.invokevirtual 21, 3) := by decide +kernel
theorem d_La_forge_12 : decode b_La_forge 12 = .ok (.i2l, 1) := by decide +kernel
theorem d_La_forge_13 : decode b_La_forge 13 = .ok (.lastore, 1) := by decide +kernel
theorem d_La_forge_14 : decode b_La_forge 14 = .ok (.goto 11, 3) := by decide +kernel
theorem d_La_forge_17 : decode b_La_forge 17 = .ok (.astore 7, 2) := by decide +kernel
theorem d_La_forge_19 : decode b_La_forge 19 = .ok (.iconst 1, 1) := by decide +kernel
theorem d_La_forge_20 : decode b_La_forge 20 = .ok (.ireturn, 1) := by decide +kernel
theorem d_La_forge_21 : decode b_La_forge 21 = .ok (.astore 7, 2) := by decide +kernel
theorem d_La_forge_23 : decode b_La_forge 23 = .ok (.iconst 2, 1) := by decide +kernel
theorem d_La_forge_24 : decode b_La_forge 24 = .ok (.ireturn, 1) := by decide +kernel
theorem d_La_forge_25 : decode b_La_forge 25 = .ok (.iconst 0, 1) := by decide +kernel
theorem d_La_forge_26 : decode b_La_forge 26 = .ok (.ireturn, 1) := by decide +kernel
theorem d_La_whisper_0 : decode b_La_whisper 0 = .ok (.aload 4, 2) := by decide +kernel
theorem d_La_whisper_2 : decode b_La_whisper 2 = .ok (.iconst 0, 1) := by decide +kernel
theorem d_La_whisper_3 : decode b_La_whisper 3 = .ok (.aload_n 0, 1) := by decide +kernel
theorem d_La_whisper_4 : decode b_La_whisper 4 = .ok (.iload_n 1, 1) := by decide +kernel
theorem d_La_whisper_5 : decode b_La_whisper 5 = .ok (.iload_n 2, 1) := by decide +kernel
theorem d_La_whisper_6 : decode b_La_whisper 6 = .ok (.iload_n 3, 1) := by decide +kernel
theorem d_La_whisper_7 : decode b_La_whisper 7 = .ok (.invokevirtual 25, 3) := by decide +kernel
theorem d_La_whisper_10 : decode b_La_whisper 10 = .ok (.i2l, 1) := by decide +kernel
theorem d_La_whisper_11 : decode b_La_whisper 11 = .ok (.lastore, 1) := by decide +kernel
theorem d_La_whisper_12 : decode b_La_whisper 12 = .ok (.goto 11, 3) := by decide +kernel
theorem d_La_whisper_15 : decode b_La_whisper 15 = .ok (.astore 5, 2) := by decide +kernel
theorem d_La_whisper_17 : decode b_La_whisper 17 = .ok (.iconst 1, 1) := by decide +kernel
theorem d_La_whisper_18 : decode b_La_whisper 18 = .ok (.ireturn, 1) := by decide +kernel
theorem d_La_whisper_19 : decode b_La_whisper 19 = .ok (.astore 5, 2) := by decide +kernel
theorem d_La_whisper_21 : decode b_La_whisper 21 = .ok (.iconst 2, 1) := by decide +kernel
theorem d_La_whisper_22 : decode b_La_whisper 22 = .ok (.ireturn, 1) := by decide +kernel
theorem d_La_whisper_23 : decode b_La_whisper 23 = .ok (.iconst 0, 1) := by decide +kernel
theorem d_La_whisper_24 : decode b_La_whisper 24 = .ok (.ireturn, 1) := by decide +kernel
theorem d_La_law_0 : decode b_La_law 0 = .ok (.new 8, 3) := by decide +kernel
theorem d_La_law_3 : decode b_La_law 3 = .ok (.dup, 1) := by decide +kernel
theorem d_La_law_4 : decode b_La_law 4 = .ok (.aload_n 0, 1) := by decide +kernel
theorem d_La_law_5 : decode b_La_law 5 = .ok (.iconst 0, 1) := by decide +kernel
theorem d_La_law_6 : decode b_La_law 6 = .ok (.invokestatic 29, 3) := by decide +kernel
theorem d_La_law_9 : decode b_La_law 9 = .ok (.aload_n 0, 1) := by decide +kernel
theorem d_La_law_10 : decode b_La_law 10 = .ok (.iconst 1, 1) := by decide +kernel
theorem d_La_law_11 : decode b_La_law 11 = .ok (.invokestatic 29, 3) := by decide +kernel
theorem d_La_law_14 : decode b_La_law 14 = .ok (.aload_n 0, 1) := by decide +kernel
theorem d_La_law_15 : decode b_La_law 15 = .ok (.iconst 2, 1) := by decide +kernel
theorem d_La_law_16 : decode b_La_law 16 = .ok (.invokestatic 29, 3) := by decide +kernel
theorem d_La_law_19 : decode b_La_law 19 = .ok (.invokespecial 35, 3) := by decide +kernel
theorem d_La_law_22 : decode b_La_law 22 = .ok (.astore_n 1, 1) := by decide +kernel
theorem d_La_law_23 : decode b_La_law 23 = .ok (.new 38, 3) := by decide +kernel
theorem d_La_law_26 : decode b_La_law 26 = .ok (.dup, 1) := by decide +kernel
theorem d_La_law_27 : decode b_La_law 27 = .ok (.aload_n 0, 1) := by decide +kernel
theorem d_La_law_28 : decode b_La_law 28 = .ok (.iconst 0, 1) := by decide +kernel
theorem d_La_law_29 : decode b_La_law 29 = .ok (.invokestatic 29, 3) := by decide +kernel
theorem d_La_law_32 : decode b_La_law 32 = .ok (.aload_n 0, 1) := by decide +kernel
theorem d_La_law_33 : decode b_La_law 33 = .ok (.iconst 1, 1) := by decide +kernel
theorem d_La_law_34 : decode b_La_law 34 = .ok (.invokestatic 29, 3) := by decide +kernel
theorem d_La_law_37 : decode b_La_law 37 = .ok (.aload_n 0, 1) := by decide +kernel
theorem d_La_law_38 : decode b_La_law 38 = .ok (.iconst 2, 1) := by decide +kernel
theorem d_La_law_39 : decode b_La_law 39 = .ok (.invokestatic 29, 3) := by decide +kernel
theorem d_La_law_42 : decode b_La_law 42 = .ok (.invokespecial 40, 3) := by decide +kernel
theorem d_La_law_45 : decode b_La_law 45 = .ok (.astore_n 2, 1) := by decide +kernel
theorem d_La_law_46 : decode b_La_law 46 = .ok (.iconst 1, 1) := by decide +kernel
theorem d_La_law_47 : decode b_La_law 47 = .ok (.newarray .long, 2) := by decide +kernel
theorem d_La_law_49 : decode b_La_law 49 = .ok (.astore_n 3, 1) := by decide +kernel
theorem d_La_law_50 : decode b_La_law 50 = .ok (.iconst 3, 1) := by decide +kernel
theorem d_La_law_51 : decode b_La_law 51 = .ok (.istore 4, 2) := by decide +kernel
theorem d_La_law_53 : decode b_La_law 53 = .ok (.iload 4, 2) := by decide +kernel
theorem d_La_law_55 : decode b_La_law 55 = .ok (.aload_n 0, 1) := by decide +kernel
theorem d_La_law_56 : decode b_La_law 56 = .ok (.arraylength, 1) := by decide +kernel
theorem d_La_law_57 : decode b_La_law 57 = .ok (.bipush 6, 2) := by decide +kernel
theorem d_La_law_59 : decode b_La_law 59 = .ok (.isub, 1) := by decide +kernel
theorem d_La_law_60 : decode b_La_law 60 = .ok (.if_icmp .gt 679, 3) := by decide +kernel
theorem d_La_law_63 : decode b_La_law 63 = .ok (.aload_n 0, 1) := by decide +kernel
theorem d_La_law_64 : decode b_La_law 64 = .ok (.iload 4, 2) := by decide +kernel
theorem d_La_law_66 : decode b_La_law 66 = .ok (.iaload, 1) := by decide +kernel
theorem d_La_law_67 : decode b_La_law 67 = .ok (.bipush 15, 2) := by decide +kernel
theorem d_La_law_69 : decode b_La_law 69 = .ok (.iand, 1) := by decide +kernel
theorem d_La_law_70 : decode b_La_law 70 = .ok (.tableswitch 663 0 11 #[62, 154, 167, 223, 248, 372, 452, 489, 526, 552, 589, 626], 62) := by decide +kernel
theorem d_La_law_132 : decode b_La_law 132 = .ok (.aload_n 1, 1) := by decide +kernel
theorem d_La_law_133 : decode b_La_law 133 = .ok (.aload_n 0, 1) := by decide +kernel
theorem d_La_law_134 : decode b_La_law 134 = .ok (.iload 4, 2) := by decide +kernel
theorem d_La_law_136 : decode b_La_law 136 = .ok (.iconst 1, 1) := by decide +kernel
theorem d_La_law_137 : decode b_La_law 137 = .ok (.iadd, 1) := by decide +kernel
theorem d_La_law_138 : decode b_La_law 138 = .ok (.iaload, 1) := by decide +kernel
theorem d_La_law_139 : decode b_La_law 139 = .ok (.aload_n 0, 1) := by decide +kernel
theorem d_La_law_140 : decode b_La_law 140 = .ok (.iload 4, 2) := by decide +kernel
theorem d_La_law_142 : decode b_La_law 142 = .ok (.iconst 2, 1) := by decide +kernel
theorem d_La_law_143 : decode b_La_law 143 = .ok (.iadd, 1) := by decide +kernel
theorem d_La_law_144 : decode b_La_law 144 = .ok (.iaload, 1) := by decide +kernel
theorem d_La_law_145 : decode b_La_law 145 = .ok (.aload_n 0, 1) := by decide +kernel
theorem d_La_law_146 : decode b_La_law 146 = .ok (.iload 4, 2) := by decide +kernel
theorem d_La_law_148 : decode b_La_law 148 = .ok (.iconst 3, 1) := by decide +kernel
theorem d_La_law_149 : decode b_La_law 149 = .ok (.iadd, 1) := by decide +kernel
theorem d_La_law_150 : decode b_La_law 150 = .ok (.iaload, 1) := by decide +kernel
theorem d_La_law_151 : decode b_La_law 151 = .ok (.aload_n 0, 1) := by decide +kernel
theorem d_La_law_152 : decode b_La_law 152 = .ok (.iload 4, 2) := by decide +kernel
theorem d_La_law_154 : decode b_La_law 154 = .ok (.iconst 4, 1) := by decide +kernel
theorem d_La_law_155 : decode b_La_law 155 = .ok (.iadd, 1) := by decide +kernel
theorem d_La_law_156 : decode b_La_law 156 = .ok (.iaload, 1) := by decide +kernel
theorem d_La_law_157 : decode b_La_law 157 = .ok (.aload_n 3, 1) := by decide +kernel
theorem d_La_law_158 : decode b_La_law 158 = .ok (.invokestatic 41, 3) := by decide +kernel
theorem d_La_law_161 : decode b_La_law 161 = .ok (.istore 5, 2) := by decide +kernel
theorem d_La_law_163 : decode b_La_law 163 = .ok (.aload_n 2, 1) := by decide +kernel
theorem d_La_law_164 : decode b_La_law 164 = .ok (.aload_n 0, 1) := by decide +kernel
theorem d_La_law_165 : decode b_La_law 165 = .ok (.iload 4, 2) := by decide +kernel
theorem d_La_law_167 : decode b_La_law 167 = .ok (.iconst 1, 1) := by decide +kernel
theorem d_La_law_168 : decode b_La_law 168 = .ok (.iadd, 1) := by decide +kernel
theorem d_La_law_169 : decode b_La_law 169 = .ok (.iaload, 1) := by decide +kernel
theorem d_La_law_170 : decode b_La_law 170 = .ok (.aload_n 0, 1) := by decide +kernel
theorem d_La_law_171 : decode b_La_law 171 = .ok (.iload 4, 2) := by decide +kernel
theorem d_La_law_173 : decode b_La_law 173 = .ok (.iconst 2, 1) := by decide +kernel
theorem d_La_law_174 : decode b_La_law 174 = .ok (.iadd, 1) := by decide +kernel
theorem d_La_law_175 : decode b_La_law 175 = .ok (.iaload, 1) := by decide +kernel
theorem d_La_law_176 : decode b_La_law 176 = .ok (.aload_n 0, 1) := by decide +kernel
theorem d_La_law_177 : decode b_La_law 177 = .ok (.iload 4, 2) := by decide +kernel
theorem d_La_law_179 : decode b_La_law 179 = .ok (.iconst 3, 1) := by decide +kernel
theorem d_La_law_180 : decode b_La_law 180 = .ok (.iadd, 1) := by decide +kernel
theorem d_La_law_181 : decode b_La_law 181 = .ok (.iaload, 1) := by decide +kernel
theorem d_La_law_182 : decode b_La_law 182 = .ok (.aload_n 0, 1) := by decide +kernel
theorem d_La_law_183 : decode b_La_law 183 = .ok (.iload 4, 2) := by decide +kernel
theorem d_La_law_185 : decode b_La_law 185 = .ok (.iconst 4, 1) := by decide +kernel
theorem d_La_law_186 : decode b_La_law 186 = .ok (.iadd, 1) := by decide +kernel
theorem d_La_law_187 : decode b_La_law 187 = .ok (.iaload, 1) := by decide +kernel
theorem d_La_law_188 : decode b_La_law 188 = .ok (.invokevirtual 44, 3) := by decide +kernel
theorem d_La_law_191 : decode b_La_law 191 = .ok (.istore 6, 2) := by decide +kernel
theorem d_La_law_193 : decode b_La_law 193 = .ok (.aload_n 2, 1) := by decide +kernel
theorem d_La_law_194 : decode b_La_law 194 = .ok (.invokevirtual 45, 3) := by decide +kernel
theorem d_La_law_197 : decode b_La_law 197 = .ok (.iload 5, 2) := by decide +kernel
theorem d_La_law_199 : decode b_La_law 199 = .ok (.if_icmp .eq 5, 3) := by decide +kernel
theorem d_La_law_202 : decode b_La_law 202 = .ok (.iconst 0, 1) := by decide +kernel
theorem d_La_law_203 : decode b_La_law 203 = .ok (.ireturn, 1) := by decide +kernel
theorem d_La_law_204 : decode b_La_law 204 = .ok (.iload 5, 2) := by decide +kernel
theorem d_La_law_206 : decode b_La_law 206 = .ok (.ifCond .ne 15, 3) := by decide +kernel
theorem d_La_law_209 : decode b_La_law 209 = .ok (.aload_n 3, 1) := by decide +kernel
theorem d_La_law_210 : decode b_La_law 210 = .ok (.iconst 0, 1) := by decide +kernel
theorem d_La_law_211 : decode b_La_law 211 = .ok (.laload, 1) := by decide +kernel
theorem d_La_law_212 : decode b_La_law 212 = .ok (.iload 6, 2) := by decide +kernel
theorem d_La_law_214 : decode b_La_law 214 = .ok (.i2l, 1) := by decide +kernel
theorem d_La_law_215 : decode b_La_law 215 = .ok (.lcmp, 1) := by decide +kernel
theorem d_La_law_216 : decode b_La_law 216 = .ok (.ifCond .eq 5, 3) := by decide +kernel
theorem d_La_law_219 : decode b_La_law 219 = .ok (.iconst 0, 1) := by decide +kernel
theorem d_La_law_220 : decode b_La_law 220 = .ok (.ireturn, 1) := by decide +kernel
theorem d_La_law_221 : decode b_La_law 221 = .ok (.goto 512, 3) := by decide +kernel
theorem d_La_law_224 : decode b_La_law 224 = .ok (.aload_n 1, 1) := by decide +kernel
theorem d_La_law_225 : decode b_La_law 225 = .ok (.invokevirtual 49, 3) := by decide +kernel
theorem d_La_law_228 : decode b_La_law 228 = .ok (.aload_n 2, 1) := by decide +kernel
theorem d_La_law_229 : decode b_La_law 229 = .ok (.invokevirtual 53, 3) := by decide +kernel
theorem d_La_law_232 : decode b_La_law 232 = .ok (.if_icmp .eq 501, 3) := by decide +kernel
theorem d_La_law_235 : decode b_La_law 235 = .ok (.iconst 0, 1) := by decide +kernel
theorem d_La_law_236 : decode b_La_law 236 = .ok (.ireturn, 1) := by decide +kernel
theorem d_La_law_237 : decode b_La_law 237 = .ok (.aload_n 1, 1) := by decide +kernel
theorem d_La_law_238 : decode b_La_law 238 = .ok (.aload_n 0, 1) := by decide +kernel
theorem d_La_law_239 : decode b_La_law 239 = .ok (.iload 4, 2) := by decide +kernel
theorem d_La_law_241 : decode b_La_law 241 = .ok (.iconst 1, 1) := by decide +kernel
theorem d_La_law_242 : decode b_La_law 242 = .ok (.iadd, 1) := by decide +kernel
theorem d_La_law_243 : decode b_La_law 243 = .ok (.iaload, 1) := by decide +kernel
theorem d_La_law_244 : decode b_La_law 244 = .ok (.aload_n 3, 1) := by decide +kernel
theorem d_La_law_245 : decode b_La_law 245 = .ok (.invokestatic 54, 3) := by decide +kernel
theorem d_La_law_248 : decode b_La_law 248 = .ok (.istore 5, 2) := by decide +kernel
theorem d_La_law_250 : decode b_La_law 250 = .ok (.aload_n 2, 1) := by decide +kernel
theorem d_La_law_251 : decode b_La_law 251 = .ok (.aload_n 0, 1) := by decide +kernel
theorem d_La_law_252 : decode b_La_law 252 = .ok (.iload 4, 2) := by decide +kernel
theorem d_La_law_254 : decode b_La_law 254 = .ok (.iconst 1, 1) := by decide +kernel
theorem d_La_law_255 : decode b_La_law 255 = .ok (.iadd, 1) := by decide +kernel
theorem d_La_law_256 : decode b_La_law 256 = .ok (.iaload, 1) := by decide +kernel
theorem d_La_law_257 : decode b_La_law 257 = .ok (.invokevirtual 57, 3) := by decide +kernel
theorem d_La_law_260 : decode b_La_law 260 = .ok (.istore 6, 2) := by decide +kernel
theorem d_La_law_262 : decode b_La_law 262 = .ok (.aload_n 2, 1) := by decide +kernel
theorem d_La_law_263 : decode b_La_law 263 = .ok (.invokevirtual 45, 3) := by decide +kernel
theorem d_La_law_266 : decode b_La_law 266 = .ok (.iload 5, 2) := by decide +kernel
theorem d_La_law_268 : decode b_La_law 268 = .ok (.if_icmp .eq 5, 3) := by decide +kernel
theorem d_La_law_271 : decode b_La_law 271 = .ok (.iconst 0, 1) := by decide +kernel
theorem d_La_law_272 : decode b_La_law 272 = .ok (.ireturn, 1) := by decide +kernel
theorem d_La_law_273 : decode b_La_law 273 = .ok (.iload 5, 2) := by decide +kernel
theorem d_La_law_275 : decode b_La_law 275 = .ok (.ifCond .ne 15, 3) := by decide +kernel
theorem d_La_law_278 : decode b_La_law 278 = .ok (.aload_n 3, 1) := by decide +kernel
theorem d_La_law_279 : decode b_La_law 279 = .ok (.iconst 0, 1) := by decide +kernel
theorem d_La_law_280 : decode b_La_law 280 = .ok (.laload, 1) := by decide +kernel
theorem d_La_law_281 : decode b_La_law 281 = .ok (.iload 6, 2) := by decide +kernel
theorem d_La_law_283 : decode b_La_law 283 = .ok (.i2l, 1) := by decide +kernel
theorem d_La_law_284 : decode b_La_law 284 = .ok (.lcmp, 1) := by decide +kernel
theorem d_La_law_285 : decode b_La_law 285 = .ok (.ifCond .eq 5, 3) := by decide +kernel
theorem d_La_law_288 : decode b_La_law 288 = .ok (.iconst 0, 1) := by decide +kernel
theorem d_La_law_289 : decode b_La_law 289 = .ok (.ireturn, 1) := by decide +kernel
theorem d_La_law_290 : decode b_La_law 290 = .ok (.goto 443, 3) := by decide +kernel
theorem d_La_law_293 : decode b_La_law 293 = .ok (.aload_n 1, 1) := by decide +kernel
theorem d_La_law_294 : decode b_La_law 294 = .ok (.aload_n 0, 1) := by decide +kernel
theorem d_La_law_295 : decode b_La_law 295 = .ok (.iload 4, 2) := by decide +kernel
theorem d_La_law_297 : decode b_La_law 297 = .ok (.iconst 1, 1) := by decide +kernel
theorem d_La_law_298 : decode b_La_law 298 = .ok (.iadd, 1) := by decide +kernel
theorem d_La_law_299 : decode b_La_law 299 = .ok (.iaload, 1) := by decide +kernel
theorem d_La_law_300 : decode b_La_law 300 = .ok (.invokevirtual 58, 3) := by decide +kernel
theorem d_La_law_303 : decode b_La_law 303 = .ok (.aload_n 2, 1) := by decide +kernel
theorem d_La_law_304 : decode b_La_law 304 = .ok (.aload_n 0, 1) := by decide +kernel
theorem d_La_law_305 : decode b_La_law 305 = .ok (.iload 4, 2) := by decide +kernel
theorem d_La_law_307 : decode b_La_law 307 = .ok (.iconst 1, 1) := by decide +kernel
theorem d_La_law_308 : decode b_La_law 308 = .ok (.iadd, 1) := by decide +kernel
theorem d_La_law_309 : decode b_La_law 309 = .ok (.iaload, 1) := by decide +kernel
theorem d_La_law_310 : decode b_La_law 310 = .ok (.invokevirtual 62, 3) := by decide +kernel
theorem d_La_law_313 : decode b_La_law 313 = .ok (.if_icmp .eq 420, 3) := by decide +kernel
theorem d_La_law_316 : decode b_La_law 316 = .ok (.iconst 0, 1) := by decide +kernel
theorem d_La_law_317 : decode b_La_law 317 = .ok (.ireturn, 1) := by decide +kernel
theorem d_La_law_318 : decode b_La_law 318 = .ok (.aload_n 1, 1) := by decide +kernel
theorem d_La_law_319 : decode b_La_law 319 = .ok (.aload_n 0, 1) := by decide +kernel
theorem d_La_law_320 : decode b_La_law 320 = .ok (.iload 4, 2) := by decide +kernel
theorem d_La_law_322 : decode b_La_law 322 = .ok (.iconst 1, 1) := by decide +kernel
theorem d_La_law_323 : decode b_La_law 323 = .ok (.iadd, 1) := by decide +kernel
theorem d_La_law_324 : decode b_La_law 324 = .ok (.iaload, 1) := by decide +kernel
theorem d_La_law_325 : decode b_La_law 325 = .ok (.aload_n 0, 1) := by decide +kernel
theorem d_La_law_326 : decode b_La_law 326 = .ok (.iload 4, 2) := by decide +kernel
theorem d_La_law_328 : decode b_La_law 328 = .ok (.iconst 2, 1) := by decide +kernel
theorem d_La_law_329 : decode b_La_law 329 = .ok (.iadd, 1) := by decide +kernel
theorem d_La_law_330 : decode b_La_law 330 = .ok (.iaload, 1) := by decide +kernel
theorem d_La_law_331 : decode b_La_law 331 = .ok (.aload_n 0, 1) := by decide +kernel
theorem d_La_law_332 : decode b_La_law 332 = .ok (.iload 4, 2) := by decide +kernel
theorem d_La_law_334 : decode b_La_law 334 = .ok (.iconst 3, 1) := by decide +kernel
theorem d_La_law_335 : decode b_La_law 335 = .ok (.iadd, 1) := by decide +kernel
theorem d_La_law_336 : decode b_La_law 336 = .ok (.iaload, 1) := by decide +kernel
theorem d_La_law_337 : decode b_La_law 337 = .ok (.i2l, 1) := by decide +kernel
theorem d_La_law_338 : decode b_La_law 338 = .ok (.bipush 32, 2) := by decide +kernel
theorem d_La_law_340 : decode b_La_law 340 = .ok (.lshl, 1) := by decide +kernel
theorem d_La_law_341 : decode b_La_law 341 = .ok (.aload_n 0, 1) := by decide +kernel
theorem d_La_law_342 : decode b_La_law 342 = .ok (.iload 4, 2) := by decide +kernel
theorem d_La_law_344 : decode b_La_law 344 = .ok (.iconst 4, 1) := by decide +kernel
theorem d_La_law_345 : decode b_La_law 345 = .ok (.iadd, 1) := by decide +kernel
theorem d_La_law_346 : decode b_La_law 346 = .ok (.iaload, 1) := by decide +kernel
theorem d_La_law_347 : decode b_La_law 347 = .ok (.i2l, 1) := by decide +kernel
theorem d_La_law_348 : decode b_La_law 348 = .ok (.ldc2_w 63, 3) := by decide +kernel
theorem d_La_law_351 : decode b_La_law 351 = .ok (.land, 1) := by decide +kernel
theorem d_La_law_352 : decode b_La_law 352 = .ok (.lor, 1) := by decide +kernel
theorem d_La_law_353 : decode b_La_law 353 = .ok (.aload_n 0, 1) := by decide +kernel
theorem d_La_law_354 : decode b_La_law 354 = .ok (.iload 4, 2) := by decide +kernel
theorem d_La_law_356 : decode b_La_law 356 = .ok (.iconst 5, 1) := by decide +kernel
theorem d_La_law_357 : decode b_La_law 357 = .ok (.iadd, 1) := by decide +kernel
theorem d_La_law_358 : decode b_La_law 358 = .ok (.iaload, 1) := by decide +kernel
theorem d_La_law_359 : decode b_La_law 359 = .ok (.aload_n 3, 1) := by decide +kernel
theorem d_La_law_360 : decode b_La_law 360 = .ok (.invokestatic 65, 3) := by decide +kernel
theorem d_La_law_363 : decode b_La_law 363 = .ok (.istore 5, 2) := by decide +kernel
theorem d_La_law_365 : decode b_La_law 365 = .ok (.aload_n 2, 1) := by decide +kernel
theorem d_La_law_366 : decode b_La_law 366 = .ok (.aload_n 0, 1) := by decide +kernel
theorem d_La_law_367 : decode b_La_law 367 = .ok (.iload 4, 2) := by decide +kernel
theorem d_La_law_369 : decode b_La_law 369 = .ok (.iconst 1, 1) := by decide +kernel
theorem d_La_law_370 : decode b_La_law 370 = .ok (.iadd, 1) := by decide +kernel
theorem d_La_law_371 : decode b_La_law 371 = .ok (.iaload, 1) := by decide +kernel
theorem d_La_law_372 : decode b_La_law 372 = .ok (.aload_n 0, 1) := by decide +kernel
theorem d_La_law_373 : decode b_La_law 373 = .ok (.iload 4, 2) := by decide +kernel
theorem d_La_law_375 : decode b_La_law 375 = .ok (.iconst 2, 1) := by decide +kernel
theorem d_La_law_376 : decode b_La_law 376 = .ok (.iadd, 1) := by decide +kernel
theorem d_La_law_377 : decode b_La_law 377 = .ok (.iaload, 1) := by decide +kernel
theorem d_La_law_378 : decode b_La_law 378 = .ok (.aload_n 0, 1) := by decide +kernel
theorem d_La_law_379 : decode b_La_law 379 = .ok (.iload 4, 2) := by decide +kernel
theorem d_La_law_381 : decode b_La_law 381 = .ok (.iconst 3, 1) := by decide +kernel
theorem d_La_law_382 : decode b_La_law 382 = .ok (.iadd, 1) := by decide +kernel
theorem d_La_law_383 : decode b_La_law 383 = .ok (.iaload, 1) := by decide +kernel
theorem d_La_law_384 : decode b_La_law 384 = .ok (.i2l, 1) := by decide +kernel
theorem d_La_law_385 : decode b_La_law 385 = .ok (.bipush 32, 2) := by decide +kernel
theorem d_La_law_387 : decode b_La_law 387 = .ok (.lshl, 1) := by decide +kernel
theorem d_La_law_388 : decode b_La_law 388 = .ok (.aload_n 0, 1) := by decide +kernel
theorem d_La_law_389 : decode b_La_law 389 = .ok (.iload 4, 2) := by decide +kernel
theorem d_La_law_391 : decode b_La_law 391 = .ok (.iconst 4, 1) := by decide +kernel
theorem d_La_law_392 : decode b_La_law 392 = .ok (.iadd, 1) := by decide +kernel
theorem d_La_law_393 : decode b_La_law 393 = .ok (.iaload, 1) := by decide +kernel
theorem d_La_law_394 : decode b_La_law 394 = .ok (.i2l, 1) := by decide +kernel
theorem d_La_law_395 : decode b_La_law 395 = .ok (.ldc2_w 63, 3) := by decide +kernel
theorem d_La_law_398 : decode b_La_law 398 = .ok (.land, 1) := by decide +kernel
theorem d_La_law_399 : decode b_La_law 399 = .ok (.lor, 1) := by decide +kernel
theorem d_La_law_400 : decode b_La_law 400 = .ok (.aload_n 0, 1) := by decide +kernel
theorem d_La_law_401 : decode b_La_law 401 = .ok (.iload 4, 2) := by decide +kernel
theorem d_La_law_403 : decode b_La_law 403 = .ok (.iconst 5, 1) := by decide +kernel
theorem d_La_law_404 : decode b_La_law 404 = .ok (.iadd, 1) := by decide +kernel
theorem d_La_law_405 : decode b_La_law 405 = .ok (.iaload, 1) := by decide +kernel
theorem d_La_law_406 : decode b_La_law 406 = .ok (.invokevirtual 68, 3) := by decide +kernel
theorem d_La_law_409 : decode b_La_law 409 = .ok (.istore 6, 2) := by decide +kernel
theorem d_La_law_411 : decode b_La_law 411 = .ok (.aload_n 2, 1) := by decide +kernel
theorem d_La_law_412 : decode b_La_law 412 = .ok (.invokevirtual 45, 3) := by decide +kernel
theorem d_La_law_415 : decode b_La_law 415 = .ok (.iload 5, 2) := by decide +kernel
theorem d_La_law_417 : decode b_La_law 417 = .ok (.if_icmp .eq 5, 3) := by decide +kernel
theorem d_La_law_420 : decode b_La_law 420 = .ok (.iconst 0, 1) := by decide +kernel
theorem d_La_law_421 : decode b_La_law 421 = .ok (.ireturn, 1) := by decide +kernel
theorem d_La_law_422 : decode b_La_law 422 = .ok (.iload 5, 2) := by decide +kernel
theorem d_La_law_424 : decode b_La_law 424 = .ok (.ifCond .ne 15, 3) := by decide +kernel
theorem d_La_law_427 : decode b_La_law 427 = .ok (.aload_n 3, 1) := by decide +kernel
theorem d_La_law_428 : decode b_La_law 428 = .ok (.iconst 0, 1) := by decide +kernel
theorem d_La_law_429 : decode b_La_law 429 = .ok (.laload, 1) := by decide +kernel
theorem d_La_law_430 : decode b_La_law 430 = .ok (.iload 6, 2) := by decide +kernel
theorem d_La_law_432 : decode b_La_law 432 = .ok (.i2l, 1) := by decide +kernel
theorem d_La_law_433 : decode b_La_law 433 = .ok (.lcmp, 1) := by decide +kernel
theorem d_La_law_434 : decode b_La_law 434 = .ok (.ifCond .eq 5, 3) := by decide +kernel
theorem d_La_law_437 : decode b_La_law 437 = .ok (.iconst 0, 1) := by decide +kernel
theorem d_La_law_438 : decode b_La_law 438 = .ok (.ireturn, 1) := by decide +kernel
theorem d_La_law_439 : decode b_La_law 439 = .ok (.goto 294, 3) := by decide +kernel
theorem d_La_law_442 : decode b_La_law 442 = .ok (.aload_n 1, 1) := by decide +kernel
theorem d_La_law_443 : decode b_La_law 443 = .ok (.aload_n 0, 1) := by decide +kernel
theorem d_La_law_444 : decode b_La_law 444 = .ok (.iload 4, 2) := by decide +kernel
theorem d_La_law_446 : decode b_La_law 446 = .ok (.iconst 1, 1) := by decide +kernel
theorem d_La_law_447 : decode b_La_law 447 = .ok (.iadd, 1) := by decide +kernel
theorem d_La_law_448 : decode b_La_law 448 = .ok (.iaload, 1) := by decide +kernel
theorem d_La_law_449 : decode b_La_law 449 = .ok (.aload_n 0, 1) := by decide +kernel
theorem d_La_law_450 : decode b_La_law 450 = .ok (.iload 4, 2) := by decide +kernel
theorem d_La_law_452 : decode b_La_law 452 = .ok (.iconst 2, 1) := by decide +kernel
theorem d_La_law_453 : decode b_La_law 453 = .ok (.iadd, 1) := by decide +kernel
theorem d_La_law_454 : decode b_La_law 454 = .ok (.iaload, 1) := by decide +kernel
theorem d_La_law_455 : decode b_La_law 455 = .ok (.aload_n 0, 1) := by decide +kernel
theorem d_La_law_456 : decode b_La_law 456 = .ok (.iload 4, 2) := by decide +kernel
theorem d_La_law_458 : decode b_La_law 458 = .ok (.iconst 3, 1) := by decide +kernel
theorem d_La_law_459 : decode b_La_law 459 = .ok (.iadd, 1) := by decide +kernel
theorem d_La_law_460 : decode b_La_law 460 = .ok (.iaload, 1) := by decide +kernel
theorem d_La_law_461 : decode b_La_law 461 = .ok (.aload_n 3, 1) := by decide +kernel
theorem d_La_law_462 : decode b_La_law 462 = .ok (.invokestatic 69, 3) := by decide +kernel
theorem d_La_law_465 : decode b_La_law 465 = .ok (.istore 5, 2) := by decide +kernel
theorem d_La_law_467 : decode b_La_law 467 = .ok (.aload_n 2, 1) := by decide +kernel
theorem d_La_law_468 : decode b_La_law 468 = .ok (.aload_n 0, 1) := by decide +kernel
theorem d_La_law_469 : decode b_La_law 469 = .ok (.iload 4, 2) := by decide +kernel
theorem d_La_law_471 : decode b_La_law 471 = .ok (.iconst 1, 1) := by decide +kernel
theorem d_La_law_472 : decode b_La_law 472 = .ok (.iadd, 1) := by decide +kernel
theorem d_La_law_473 : decode b_La_law 473 = .ok (.iaload, 1) := by decide +kernel
theorem d_La_law_474 : decode b_La_law 474 = .ok (.aload_n 0, 1) := by decide +kernel
theorem d_La_law_475 : decode b_La_law 475 = .ok (.iload 4, 2) := by decide +kernel
theorem d_La_law_477 : decode b_La_law 477 = .ok (.iconst 2, 1) := by decide +kernel
theorem d_La_law_478 : decode b_La_law 478 = .ok (.iadd, 1) := by decide +kernel
theorem d_La_law_479 : decode b_La_law 479 = .ok (.iaload, 1) := by decide +kernel
theorem d_La_law_480 : decode b_La_law 480 = .ok (.aload_n 0, 1) := by decide +kernel
theorem d_La_law_481 : decode b_La_law 481 = .ok (.iload 4, 2) := by decide +kernel
theorem d_La_law_483 : decode b_La_law 483 = .ok (.iconst 3, 1) := by decide +kernel
theorem d_La_law_484 : decode b_La_law 484 = .ok (.iadd, 1) := by decide +kernel
theorem d_La_law_485 : decode b_La_law 485 = .ok (.iaload, 1) := by decide +kernel
theorem d_La_law_486 : decode b_La_law 486 = .ok (.invokevirtual 72, 3) := by decide +kernel
theorem d_La_law_489 : decode b_La_law 489 = .ok (.istore 6, 2) := by decide +kernel
theorem d_La_law_491 : decode b_La_law 491 = .ok (.aload_n 2, 1) := by decide +kernel
theorem d_La_law_492 : decode b_La_law 492 = .ok (.invokevirtual 45, 3) := by decide +kernel
theorem d_La_law_495 : decode b_La_law 495 = .ok (.iload 5, 2) := by decide +kernel
theorem d_La_law_497 : decode b_La_law 497 = .ok (.if_icmp .eq 5, 3) := by decide +kernel
theorem d_La_law_500 : decode b_La_law 500 = .ok (.iconst 0, 1) := by decide +kernel
theorem d_La_law_501 : decode b_La_law 501 = .ok (.ireturn, 1) := by decide +kernel
theorem d_La_law_502 : decode b_La_law 502 = .ok (.iload 5, 2) := by decide +kernel
theorem d_La_law_504 : decode b_La_law 504 = .ok (.ifCond .ne 15, 3) := by decide +kernel
theorem d_La_law_507 : decode b_La_law 507 = .ok (.aload_n 3, 1) := by decide +kernel
theorem d_La_law_508 : decode b_La_law 508 = .ok (.iconst 0, 1) := by decide +kernel
theorem d_La_law_509 : decode b_La_law 509 = .ok (.laload, 1) := by decide +kernel
theorem d_La_law_510 : decode b_La_law 510 = .ok (.iload 6, 2) := by decide +kernel
theorem d_La_law_512 : decode b_La_law 512 = .ok (.i2l, 1) := by decide +kernel
theorem d_La_law_513 : decode b_La_law 513 = .ok (.lcmp, 1) := by decide +kernel
theorem d_La_law_514 : decode b_La_law 514 = .ok (.ifCond .eq 5, 3) := by decide +kernel
theorem d_La_law_517 : decode b_La_law 517 = .ok (.iconst 0, 1) := by decide +kernel
theorem d_La_law_518 : decode b_La_law 518 = .ok (.ireturn, 1) := by decide +kernel
theorem d_La_law_519 : decode b_La_law 519 = .ok (.goto 214, 3) := by decide +kernel
theorem d_La_law_522 : decode b_La_law 522 = .ok (.aload_n 1, 1) := by decide +kernel
theorem d_La_law_523 : decode b_La_law 523 = .ok (.aload_n 0, 1) := by decide +kernel
theorem d_La_law_524 : decode b_La_law 524 = .ok (.iload 4, 2) := by decide +kernel
theorem d_La_law_526 : decode b_La_law 526 = .ok (.iconst 1, 1) := by decide +kernel
theorem d_La_law_527 : decode b_La_law 527 = .ok (.iadd, 1) := by decide +kernel
theorem d_La_law_528 : decode b_La_law 528 = .ok (.iaload, 1) := by decide +kernel
theorem d_La_law_529 : decode b_La_law 529 = .ok (.aload_n 0, 1) := by decide +kernel
theorem d_La_law_530 : decode b_La_law 530 = .ok (.iload 4, 2) := by decide +kernel
theorem d_La_law_532 : decode b_La_law 532 = .ok (.iconst 2, 1) := by decide +kernel
theorem d_La_law_533 : decode b_La_law 533 = .ok (.iadd, 1) := by decide +kernel
theorem d_La_law_534 : decode b_La_law 534 = .ok (.iaload, 1) := by decide +kernel
theorem d_La_law_535 : decode b_La_law 535 = .ok (.invokevirtual 73, 3) := by decide +kernel
theorem d_La_law_538 : decode b_La_law 538 = .ok (.aload_n 2, 1) := by decide +kernel
theorem d_La_law_539 : decode b_La_law 539 = .ok (.aload_n 0, 1) := by decide +kernel
theorem d_La_law_540 : decode b_La_law 540 = .ok (.iload 4, 2) := by decide +kernel
theorem d_La_law_542 : decode b_La_law 542 = .ok (.iconst 1, 1) := by decide +kernel
theorem d_La_law_543 : decode b_La_law 543 = .ok (.iadd, 1) := by decide +kernel
theorem d_La_law_544 : decode b_La_law 544 = .ok (.iaload, 1) := by decide +kernel
theorem d_La_law_545 : decode b_La_law 545 = .ok (.aload_n 0, 1) := by decide +kernel
theorem d_La_law_546 : decode b_La_law 546 = .ok (.iload 4, 2) := by decide +kernel
theorem d_La_law_548 : decode b_La_law 548 = .ok (.iconst 2, 1) := by decide +kernel
theorem d_La_law_549 : decode b_La_law 549 = .ok (.iadd, 1) := by decide +kernel
theorem d_La_law_550 : decode b_La_law 550 = .ok (.iaload, 1) := by decide +kernel
theorem d_La_law_551 : decode b_La_law 551 = .ok (.invokevirtual 77, 3) := by decide +kernel
theorem d_La_law_554 : decode b_La_law 554 = .ok (.if_icmp .eq 179, 3) := by decide +kernel
theorem d_La_law_557 : decode b_La_law 557 = .ok (.iconst 0, 1) := by decide +kernel
theorem d_La_law_558 : decode b_La_law 558 = .ok (.ireturn, 1) := by decide +kernel
theorem d_La_law_559 : decode b_La_law 559 = .ok (.aload_n 1, 1) := by decide +kernel
theorem d_La_law_560 : decode b_La_law 560 = .ok (.aload_n 0, 1) := by decide +kernel
theorem d_La_law_561 : decode b_La_law 561 = .ok (.iload 4, 2) := by decide +kernel
theorem d_La_law_563 : decode b_La_law 563 = .ok (.iconst 1, 1) := by decide +kernel
theorem d_La_law_564 : decode b_La_law 564 = .ok (.iadd, 1) := by decide +kernel
theorem d_La_law_565 : decode b_La_law 565 = .ok (.iaload, 1) := by decide +kernel
theorem d_La_law_566 : decode b_La_law 566 = .ok (.aload_n 0, 1) := by decide +kernel
theorem d_La_law_567 : decode b_La_law 567 = .ok (.iload 4, 2) := by decide +kernel
theorem d_La_law_569 : decode b_La_law 569 = .ok (.iconst 2, 1) := by decide +kernel
theorem d_La_law_570 : decode b_La_law 570 = .ok (.iadd, 1) := by decide +kernel
theorem d_La_law_571 : decode b_La_law 571 = .ok (.iaload, 1) := by decide +kernel
theorem d_La_law_572 : decode b_La_law 572 = .ok (.invokevirtual 78, 3) := by decide +kernel
theorem d_La_law_575 : decode b_La_law 575 = .ok (.aload_n 2, 1) := by decide +kernel
theorem d_La_law_576 : decode b_La_law 576 = .ok (.aload_n 0, 1) := by decide +kernel
theorem d_La_law_577 : decode b_La_law 577 = .ok (.iload 4, 2) := by decide +kernel
theorem d_La_law_579 : decode b_La_law 579 = .ok (.iconst 1, 1) := by decide +kernel
theorem d_La_law_580 : decode b_La_law 580 = .ok (.iadd, 1) := by decide +kernel
theorem d_La_law_581 : decode b_La_law 581 = .ok (.iaload, 1) := by decide +kernel
theorem d_La_law_582 : decode b_La_law 582 = .ok (.aload_n 0, 1) := by decide +kernel
theorem d_La_law_583 : decode b_La_law 583 = .ok (.iload 4, 2) := by decide +kernel
theorem d_La_law_585 : decode b_La_law 585 = .ok (.iconst 2, 1) := by decide +kernel
theorem d_La_law_586 : decode b_La_law 586 = .ok (.iadd, 1) := by decide +kernel
theorem d_La_law_587 : decode b_La_law 587 = .ok (.iaload, 1) := by decide +kernel
theorem d_La_law_588 : decode b_La_law 588 = .ok (.invokevirtual 81, 3) := by decide +kernel
theorem d_La_law_591 : decode b_La_law 591 = .ok (.if_icmp .eq 142, 3) := by decide +kernel
theorem d_La_law_594 : decode b_La_law 594 = .ok (.iconst 0, 1) := by decide +kernel
theorem d_La_law_595 : decode b_La_law 595 = .ok (.ireturn, 1) := by decide +kernel
theorem d_La_law_596 : decode b_La_law 596 = .ok (.aload_n 1, 1) := by decide +kernel
theorem d_La_law_597 : decode b_La_law 597 = .ok (.aload_n 0, 1) := by decide +kernel
theorem d_La_law_598 : decode b_La_law 598 = .ok (.iload 4, 2) := by decide +kernel
theorem d_La_law_600 : decode b_La_law 600 = .ok (.iconst 1, 1) := by decide +kernel
theorem d_La_law_601 : decode b_La_law 601 = .ok (.iadd, 1) := by decide +kernel
theorem d_La_law_602 : decode b_La_law 602 = .ok (.iaload, 1) := by decide +kernel
theorem d_La_law_603 : decode b_La_law 603 = .ok (.invokevirtual 82, 3) := by decide +kernel
theorem d_La_law_606 : decode b_La_law 606 = .ok (.aload_n 2, 1) := by decide +kernel
theorem d_La_law_607 : decode b_La_law 607 = .ok (.aload_n 0, 1) := by decide +kernel
theorem d_La_law_608 : decode b_La_law 608 = .ok (.iload 4, 2) := by decide +kernel
theorem d_La_law_610 : decode b_La_law 610 = .ok (.iconst 1, 1) := by decide +kernel
theorem d_La_law_611 : decode b_La_law 611 = .ok (.iadd, 1) := by decide +kernel
theorem d_La_law_612 : decode b_La_law 612 = .ok (.iaload, 1) := by decide +kernel
theorem d_La_law_613 : decode b_La_law 613 = .ok (.invokevirtual 86, 3) := by decide +kernel
theorem d_La_law_616 : decode b_La_law 616 = .ok (.lcmp, 1) := by decide +kernel
theorem d_La_law_617 : decode b_La_law 617 = .ok (.ifCond .eq 116, 3) := by decide +kernel
theorem d_La_law_620 : decode b_La_law 620 = .ok (.iconst 0, 1) := by decide +kernel
theorem d_La_law_621 : decode b_La_law 621 = .ok (.ireturn, 1) := by decide +kernel
theorem d_La_law_622 : decode b_La_law 622 = .ok (.aload_n 1, 1) := by decide +kernel
theorem d_La_law_623 : decode b_La_law 623 = .ok (.aload_n 0, 1) := by decide +kernel
theorem d_La_law_624 : decode b_La_law 624 = .ok (.iload 4, 2) := by decide +kernel
theorem d_La_law_626 : decode b_La_law 626 = .ok (.iconst 1, 1) := by decide +kernel
theorem d_La_law_627 : decode b_La_law 627 = .ok (.iadd, 1) := by decide +kernel
theorem d_La_law_628 : decode b_La_law 628 = .ok (.iaload, 1) := by decide +kernel
theorem d_La_law_629 : decode b_La_law 629 = .ok (.aload_n 0, 1) := by decide +kernel
theorem d_La_law_630 : decode b_La_law 630 = .ok (.iload 4, 2) := by decide +kernel
theorem d_La_law_632 : decode b_La_law 632 = .ok (.iconst 2, 1) := by decide +kernel
theorem d_La_law_633 : decode b_La_law 633 = .ok (.iadd, 1) := by decide +kernel
theorem d_La_law_634 : decode b_La_law 634 = .ok (.iaload, 1) := by decide +kernel
theorem d_La_law_635 : decode b_La_law 635 = .ok (.invokevirtual 87, 3) := by decide +kernel
theorem d_La_law_638 : decode b_La_law 638 = .ok (.aload_n 2, 1) := by decide +kernel
theorem d_La_law_639 : decode b_La_law 639 = .ok (.aload_n 0, 1) := by decide +kernel
theorem d_La_law_640 : decode b_La_law 640 = .ok (.iload 4, 2) := by decide +kernel
theorem d_La_law_642 : decode b_La_law 642 = .ok (.iconst 1, 1) := by decide +kernel
theorem d_La_law_643 : decode b_La_law 643 = .ok (.iadd, 1) := by decide +kernel
theorem d_La_law_644 : decode b_La_law 644 = .ok (.iaload, 1) := by decide +kernel
theorem d_La_law_645 : decode b_La_law 645 = .ok (.aload_n 0, 1) := by decide +kernel
theorem d_La_law_646 : decode b_La_law 646 = .ok (.iload 4, 2) := by decide +kernel
theorem d_La_law_648 : decode b_La_law 648 = .ok (.iconst 2, 1) := by decide +kernel
theorem d_La_law_649 : decode b_La_law 649 = .ok (.iadd, 1) := by decide +kernel
theorem d_La_law_650 : decode b_La_law 650 = .ok (.iaload, 1) := by decide +kernel
theorem d_La_law_651 : decode b_La_law 651 = .ok (.invokevirtual 90, 3) := by decide +kernel
theorem d_La_law_654 : decode b_La_law 654 = .ok (.if_icmp .eq 79, 3) := by decide +kernel
theorem d_La_law_657 : decode b_La_law 657 = .ok (.iconst 0, 1) := by decide +kernel
theorem d_La_law_658 : decode b_La_law 658 = .ok (.ireturn, 1) := by decide +kernel
theorem d_La_law_659 : decode b_La_law 659 = .ok (.aload_n 1, 1) := by decide +kernel
theorem d_La_law_660 : decode b_La_law 660 = .ok (.aload_n 0, 1) := by decide +kernel
theorem d_La_law_661 : decode b_La_law 661 = .ok (.iload 4, 2) := by decide +kernel
theorem d_La_law_663 : decode b_La_law 663 = .ok (.iconst 1, 1) := by decide +kernel
theorem d_La_law_664 : decode b_La_law 664 = .ok (.iadd, 1) := by decide +kernel
theorem d_La_law_665 : decode b_La_law 665 = .ok (.iaload, 1) := by decide +kernel
theorem d_La_law_666 : decode b_La_law 666 = .ok (.aload_n 0, 1) := by decide +kernel
theorem d_La_law_667 : decode b_La_law 667 = .ok (.iload 4, 2) := by decide +kernel
theorem d_La_law_669 : decode b_La_law 669 = .ok (.iconst 2, 1) := by decide +kernel
theorem d_La_law_670 : decode b_La_law 670 = .ok (.iadd, 1) := by decide +kernel
theorem d_La_law_671 : decode b_La_law 671 = .ok (.iaload, 1) := by decide +kernel
theorem d_La_law_672 : decode b_La_law 672 = .ok (.invokevirtual 91, 3) := by decide +kernel
theorem d_La_law_675 : decode b_La_law 675 = .ok (.aload_n 2, 1) := by decide +kernel
theorem d_La_law_676 : decode b_La_law 676 = .ok (.aload_n 0, 1) := by decide +kernel
theorem d_La_law_677 : decode b_La_law 677 = .ok (.iload 4, 2) := by decide +kernel
theorem d_La_law_679 : decode b_La_law 679 = .ok (.iconst 1, 1) := by decide +kernel
theorem d_La_law_680 : decode b_La_law 680 = .ok (.iadd, 1) := by decide +kernel
theorem d_La_law_681 : decode b_La_law 681 = .ok (.iaload, 1) := by decide +kernel
theorem d_La_law_682 : decode b_La_law 682 = .ok (.aload_n 0, 1) := by decide +kernel
theorem d_La_law_683 : decode b_La_law 683 = .ok (.iload 4, 2) := by decide +kernel
theorem d_La_law_685 : decode b_La_law 685 = .ok (.iconst 2, 1) := by decide +kernel
theorem d_La_law_686 : decode b_La_law 686 = .ok (.iadd, 1) := by decide +kernel
theorem d_La_law_687 : decode b_La_law 687 = .ok (.iaload, 1) := by decide +kernel
theorem d_La_law_688 : decode b_La_law 688 = .ok (.invokevirtual 94, 3) := by decide +kernel
theorem d_La_law_691 : decode b_La_law 691 = .ok (.if_icmp .eq 42, 3) := by decide +kernel
theorem d_La_law_694 : decode b_La_law 694 = .ok (.iconst 0, 1) := by decide +kernel
theorem d_La_law_695 : decode b_La_law 695 = .ok (.ireturn, 1) := by decide +kernel
theorem d_La_law_696 : decode b_La_law 696 = .ok (.aload_n 1, 1) := by decide +kernel
theorem d_La_law_697 : decode b_La_law 697 = .ok (.aload_n 0, 1) := by decide +kernel
theorem d_La_law_698 : decode b_La_law 698 = .ok (.iload 4, 2) := by decide +kernel
theorem d_La_law_700 : decode b_La_law 700 = .ok (.iconst 1, 1) := by decide +kernel
theorem d_La_law_701 : decode b_La_law 701 = .ok (.iadd, 1) := by decide +kernel
theorem d_La_law_702 : decode b_La_law 702 = .ok (.iaload, 1) := by decide +kernel
theorem d_La_law_703 : decode b_La_law 703 = .ok (.aload_n 0, 1) := by decide +kernel
theorem d_La_law_704 : decode b_La_law 704 = .ok (.iload 4, 2) := by decide +kernel
theorem d_La_law_706 : decode b_La_law 706 = .ok (.iconst 2, 1) := by decide +kernel
theorem d_La_law_707 : decode b_La_law 707 = .ok (.iadd, 1) := by decide +kernel
theorem d_La_law_708 : decode b_La_law 708 = .ok (.iaload, 1) := by decide +kernel
theorem d_La_law_709 : decode b_La_law 709 = .ok (.invokevirtual 95, 3) := by decide +kernel
theorem d_La_law_712 : decode b_La_law 712 = .ok (.aload_n 2, 1) := by decide +kernel
theorem d_La_law_713 : decode b_La_law 713 = .ok (.aload_n 0, 1) := by decide +kernel
theorem d_La_law_714 : decode b_La_law 714 = .ok (.iload 4, 2) := by decide +kernel
theorem d_La_law_716 : decode b_La_law 716 = .ok (.iconst 1, 1) := by decide +kernel
theorem d_La_law_717 : decode b_La_law 717 = .ok (.iadd, 1) := by decide +kernel
theorem d_La_law_718 : decode b_La_law 718 = .ok (.iaload, 1) := by decide +kernel
theorem d_La_law_719 : decode b_La_law 719 = .ok (.aload_n 0, 1) := by decide +kernel
theorem d_La_law_720 : decode b_La_law 720 = .ok (.iload 4, 2) := by decide +kernel
theorem d_La_law_722 : decode b_La_law 722 = .ok (.iconst 2, 1) := by decide +kernel
theorem d_La_law_723 : decode b_La_law 723 = .ok (.iadd, 1) := by decide +kernel
theorem d_La_law_724 : decode b_La_law 724 = .ok (.iaload, 1) := by decide +kernel
theorem d_La_law_725 : decode b_La_law 725 = .ok (.invokevirtual 98, 3) := by decide +kernel
theorem d_La_law_728 : decode b_La_law 728 = .ok (.if_icmp .eq 5, 3) := by decide +kernel
theorem d_La_law_731 : decode b_La_law 731 = .ok (.iconst 0, 1) := by decide +kernel
theorem d_La_law_732 : decode b_La_law 732 = .ok (.ireturn, 1) := by decide +kernel
theorem d_La_law_733 : decode b_La_law 733 = .ok (.iinc 4 6, 3) := by decide +kernel
theorem d_La_law_736 : decode b_La_law 736 = .ok (.goto (-683), 3) := by decide +kernel
theorem d_La_law_739 : decode b_La_law 739 = .ok (.iconst 1, 1) := by decide +kernel
theorem d_La_law_740 : decode b_La_law 740 = .ok (.ireturn, 1) := by decide +kernel
