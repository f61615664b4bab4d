/-! rules: printed by gen2.py -/
theorem dL_isError_0 : decode cL_isError 0 = .ok (.iload_n 0, 1) := by decide +kernel
theorem dL_isError_1 : decode cL_isError 1 = .ok (.ifCond .ge 13, 3) := by decide +kernel
theorem dL_isError_4 : decode cL_isError 4 = .ok (.iload_n 0, 1) := by decide +kernel
theorem dL_isError_5 : decode cL_isError 5 = .ok (.bipush (-4), 2) := by decide +kernel
theorem dL_isError_7 : decode cL_isError 7 = .ok (.if_icmp .eq 7, 3) := by decide +kernel
theorem dL_isError_10 : decode cL_isError 10 = .ok (.iconst 1, 1) := by decide +kernel
theorem dL_isError_11 : decode cL_isError 11 = .ok (.goto 4, 3) := by decide +kernel
theorem dL_isError_14 : decode cL_isError 14 = .ok (.iconst 0, 1) := by decide +kernel
theorem dL_isError_15 : decode cL_isError 15 = .ok (.ireturn, 1) := by decide +kernel
theorem e_199 (a0 : Int32) (ws : ai_W) : ai_Call 199 [.int a0] ws = ai_Run 199 0 [.int a0] [] ws := R_entS hk_199 ⟨⟨rfl, rfl⟩, Nat.le_of_ble_eq_true rfl⟩ rfl
theorem r_199_0 (a : Int32) (st : List Value) (ws : ai_W) : ai_Run 199 0 [.int a] st ws = ai_Run 199 1 [.int a] (.int a :: st) ws := R_iload_n hc_199 dL_isError_0 rfl rfl
theorem r_199_1 (ls st : List Value) (a : Int32) (ws : ai_W) : ai_Run 199 1 ls (.int a :: st) ws = if a < 0 then ai_Run 199 4 ls st ws else ai_Run 199 14 ls st ws := R_if_ge hc_199 dL_isError_1 rfl rfl
theorem r_199_4 (a : Int32) (st : List Value) (ws : ai_W) : ai_Run 199 4 [.int a] st ws = ai_Run 199 5 [.int a] (.int a :: st) ws := R_iload_n hc_199 dL_isError_4 rfl rfl
theorem r_199_5 (ls st : List Value) (ws : ai_W) : ai_Run 199 5 ls st ws = ai_Run 199 7 ls (.int (-4) :: st) ws := R_bipush hc_199 dL_isError_5 (by decide) rfl
theorem r_199_7 (ls st : List Value) (a b : Int32) (ws : ai_W) : ai_Run 199 7 ls (.int b :: .int a :: st) ws = if a = b then ai_Run 199 14 ls st ws else ai_Run 199 10 ls st ws := R_cmp_eq hc_199 dL_isError_7 rfl rfl
theorem r_199_10 (ls st : List Value) (ws : ai_W) : ai_Run 199 10 ls st ws = ai_Run 199 11 ls (.int 1 :: st) ws := R_iconst hc_199 dL_isError_10 (by decide) rfl
theorem r_199_11 (ls st : List Value) (ws : ai_W) : ai_Run 199 11 ls st ws = ai_Run 199 15 ls st ws := R_goto hc_199 dL_isError_11 rfl
theorem r_199_14 (ls st : List Value) (ws : ai_W) : ai_Run 199 14 ls st ws = ai_Run 199 15 ls (.int 0 :: st) ws := R_iconst hc_199 dL_isError_14 (by decide) rfl
theorem r_199_15 (ls : List Value) (x : Int32) (ws : ai_W) : ai_Run 199 15 ls [.int x] ws = if ai_pb x = true then some (some (.int x), ws) else none := R_zret hc_199 dL_isError_15 ht_199
theorem dL_isWell_0 : decode cL_isWell 0 = .ok (.aload_n 0, 1) := by decide +kernel
theorem dL_isWell_1 : decode cL_isWell 1 = .ok (.iconst 0, 1) := by decide +kernel
theorem dL_isWell_2 : decode cL_isWell 2 = .ok (.invokevirtual 114, 3) := by decide +kernel
theorem dL_isWell_5 : decode cL_isWell 5 = .ok (.istore_n 1, 1) := by decide +kernel
theorem dL_isWell_6 : decode cL_isWell 6 = .ok (.iconst 0, 1) := by decide +kernel
theorem dL_isWell_7 : decode cL_isWell 7 = .ok (.istore_n 2, 1) := by decide +kernel
theorem dL_isWell_8 : decode cL_isWell 8 = .ok (.iconst 0, 1) := by decide +kernel
theorem dL_isWell_9 : decode cL_isWell 9 = .ok (.istore_n 3, 1) := by decide +kernel
theorem dL_isWell_10 : decode cL_isWell 10 = .ok (.iconst 0, 1) := by decide +kernel
theorem dL_isWell_11 : decode cL_isWell 11 = .ok (.istore 4, 2) := by decide +kernel
theorem dL_isWell_13 : decode cL_isWell 13 = .ok (.iconst 0, 1) := by decide +kernel
theorem dL_isWell_14 : decode cL_isWell 14 = .ok (.istore 5, 2) := by decide +kernel
theorem dL_isWell_16 : decode cL_isWell 16 = .ok (.iconst 1, 1) := by decide +kernel
theorem dL_isWell_17 : decode cL_isWell 17 = .ok (.istore 6, 2) := by decide +kernel
theorem dL_isWell_19 : decode cL_isWell 19 = .ok (.iconst 0, 1) := by decide +kernel
theorem dL_isWell_20 : decode cL_isWell 20 = .ok (.istore 7, 2) := by decide +kernel
theorem dL_isWell_22 : decode cL_isWell 22 = .ok (.iconst 1, 1) := by decide +kernel
theorem dL_isWell_23 : decode cL_isWell 23 = .ok (.istore 8, 2) := by decide +kernel
theorem dL_isWell_25 : decode cL_isWell 25 = .ok (.iload 8, 2) := by decide +kernel
theorem dL_isWell_27 : decode cL_isWell 27 = .ok (.bipush 30, 2) := by decide +kernel
theorem dL_isWell_29 : decode cL_isWell 29 = .ok (.if_icmp .gt 96, 3) := by decide +kernel
theorem dL_isWell_32 : decode cL_isWell 32 = .ok (.iconst 0, 1) := by decide +kernel
theorem dL_isWell_33 : decode cL_isWell 33 = .ok (.istore 9, 2) := by decide +kernel
theorem dL_isWell_35 : decode cL_isWell 35 = .ok (.iconst 0, 1) := by decide +kernel
theorem dL_isWell_36 : decode cL_isWell 36 = .ok (.istore 10, 2) := by decide +kernel
theorem dL_isWell_38 : decode cL_isWell 38 = .ok (.iload 10, 2) := by decide +kernel
theorem dL_isWell_40 : decode cL_isWell 40 = .ok (.iload_n 1, 1) := by decide +kernel
theorem dL_isWell_41 : decode cL_isWell 41 = .ok (.if_icmp .ge 33, 3) := by decide +kernel
theorem dL_isWell_44 : decode cL_isWell 44 = .ok (.iload 9, 2) := by decide +kernel
theorem dL_isWell_46 : decode cL_isWell 46 = .ok (.aload_n 0, 1) := by decide +kernel
theorem dL_isWell_47 : decode cL_isWell 47 = .ok (.iload 10, 2) := by decide +kernel
theorem dL_isWell_49 : decode cL_isWell 49 = .ok (.iload 8, 2) := by decide +kernel
theorem dL_isWell_51 : decode cL_isWell 51 = .ok (.invokestatic 141, 3) := by decide +kernel
theorem dL_isWell_54 : decode cL_isWell 54 = .ok (.ifCond .eq 10, 3) := by decide +kernel
theorem dL_isWell_57 : decode cL_isWell 57 = .ok (.iconst 1, 1) := by decide +kernel
theorem dL_isWell_58 : decode cL_isWell 58 = .ok (.iload 10, 2) := by decide +kernel
theorem dL_isWell_60 : decode cL_isWell 60 = .ok (.ishl, 1) := by decide +kernel
theorem dL_isWell_61 : decode cL_isWell 61 = .ok (.goto 4, 3) := by decide +kernel
theorem dL_isWell_64 : decode cL_isWell 64 = .ok (.iconst 0, 1) := by decide +kernel
theorem dL_isWell_65 : decode cL_isWell 65 = .ok (.ior, 1) := by decide +kernel
theorem dL_isWell_66 : decode cL_isWell 66 = .ok (.istore 9, 2) := by decide +kernel
theorem dL_isWell_68 : decode cL_isWell 68 = .ok (.iinc 10 1, 3) := by decide +kernel
theorem dL_isWell_71 : decode cL_isWell 71 = .ok (.goto (-33), 3) := by decide +kernel
theorem dL_isWell_74 : decode cL_isWell 74 = .ok (.aload_n 0, 1) := by decide +kernel
theorem dL_isWell_75 : decode cL_isWell 75 = .ok (.iload 8, 2) := by decide +kernel
theorem dL_isWell_77 : decode cL_isWell 77 = .ok (.invokevirtual 117, 3) := by decide +kernel
theorem dL_isWell_80 : decode cL_isWell 80 = .ok (.iload 9, 2) := by decide +kernel
theorem dL_isWell_82 : decode cL_isWell 82 = .ok (.if_icmp .ne 14, 3) := by decide +kernel
theorem dL_isWell_85 : decode cL_isWell 85 = .ok (.aload_n 0, 1) := by decide +kernel
theorem dL_isWell_86 : decode cL_isWell 86 = .ok (.iload 8, 2) := by decide +kernel
theorem dL_isWell_88 : decode cL_isWell 88 = .ok (.invokevirtual 145, 3) := by decide +kernel
theorem dL_isWell_91 : decode cL_isWell 91 = .ok (.iload 9, 2) := by decide +kernel
theorem dL_isWell_93 : decode cL_isWell 93 = .ok (.if_icmp .eq 5, 3) := by decide +kernel
theorem dL_isWell_96 : decode cL_isWell 96 = .ok (.iconst 0, 1) := by decide +kernel
theorem dL_isWell_97 : decode cL_isWell 97 = .ok (.ireturn, 1) := by decide +kernel
theorem dL_isWell_98 : decode cL_isWell 98 = .ok (.iload 9, 2) := by decide +kernel
theorem dL_isWell_100 : decode cL_isWell 100 = .ok (.invokestatic 148, 3) := by decide +kernel
theorem dL_isWell_103 : decode cL_isWell 103 = .ok (.iload 7, 2) := by decide +kernel
theorem dL_isWell_105 : decode cL_isWell 105 = .ok (.if_icmp .le 14, 3) := by decide +kernel
theorem dL_isWell_108 : decode cL_isWell 108 = .ok (.iload 9, 2) := by decide +kernel
theorem dL_isWell_110 : decode cL_isWell 110 = .ok (.invokestatic 148, 3) := by decide +kernel
theorem dL_isWell_113 : decode cL_isWell 113 = .ok (.istore 7, 2) := by decide +kernel
theorem dL_isWell_115 : decode cL_isWell 115 = .ok (.iload 8, 2) := by decide +kernel
theorem dL_isWell_117 : decode cL_isWell 117 = .ok (.istore 6, 2) := by decide +kernel
theorem dL_isWell_119 : decode cL_isWell 119 = .ok (.iinc 8 1, 3) := by decide +kernel
theorem dL_isWell_122 : decode cL_isWell 122 = .ok (.goto (-97), 3) := by decide +kernel
theorem dL_isWell_125 : decode cL_isWell 125 = .ok (.iconst 0, 1) := by decide +kernel
theorem dL_isWell_126 : decode cL_isWell 126 = .ok (.istore 8, 2) := by decide +kernel
theorem dL_isWell_128 : decode cL_isWell 128 = .ok (.iload 8, 2) := by decide +kernel
theorem dL_isWell_130 : decode cL_isWell 130 = .ok (.iload_n 1, 1) := by decide +kernel
theorem dL_isWell_131 : decode cL_isWell 131 = .ok (.if_icmp .ge 441, 3) := by decide +kernel
theorem dL_isWell_134 : decode cL_isWell 134 = .ok (.aload_n 0, 1) := by decide +kernel
theorem dL_isWell_135 : decode cL_isWell 135 = .ok (.iload 8, 2) := by decide +kernel
theorem dL_isWell_137 : decode cL_isWell 137 = .ok (.iconst 0, 1) := by decide +kernel
theorem dL_isWell_138 : decode cL_isWell 138 = .ok (.invokevirtual 138, 3) := by decide +kernel
theorem dL_isWell_141 : decode cL_isWell 141 = .ok (.istore 9, 2) := by decide +kernel
theorem dL_isWell_143 : decode cL_isWell 143 = .ok (.iconst 0, 1) := by decide +kernel
theorem dL_isWell_144 : decode cL_isWell 144 = .ok (.istore 10, 2) := by decide +kernel
theorem dL_isWell_146 : decode cL_isWell 146 = .ok (.iconst 0, 1) := by decide +kernel
theorem dL_isWell_147 : decode cL_isWell 147 = .ok (.istore 11, 2) := by decide +kernel
theorem dL_isWell_149 : decode cL_isWell 149 = .ok (.iconst 0, 1) := by decide +kernel
theorem dL_isWell_150 : decode cL_isWell 150 = .ok (.istore 12, 2) := by decide +kernel
theorem dL_isWell_152 : decode cL_isWell 152 = .ok (.iconst 0, 1) := by decide +kernel
theorem dL_isWell_153 : decode cL_isWell 153 = .ok (.istore 13, 2) := by decide +kernel
theorem dL_isWell_155 : decode cL_isWell 155 = .ok (.iconst 0, 1) := by decide +kernel
theorem dL_isWell_156 : decode cL_isWell 156 = .ok (.istore 14, 2) := by decide +kernel
theorem dL_isWell_158 : decode cL_isWell 158 = .ok (.iconst 0, 1) := by decide +kernel
theorem dL_isWell_159 : decode cL_isWell 159 = .ok (.istore 15, 2) := by decide +kernel
theorem dL_isWell_161 : decode cL_isWell 161 = .ok (.iload 15, 2) := by decide +kernel
theorem dL_isWell_163 : decode cL_isWell 163 = .ok (.iload 9, 2) := by decide +kernel
theorem dL_isWell_165 : decode cL_isWell 165 = .ok (.if_icmp .ge 227, 3) := by decide +kernel
theorem dL_isWell_168 : decode cL_isWell 168 = .ok (.aload_n 0, 1) := by decide +kernel
theorem dL_isWell_169 : decode cL_isWell 169 = .ok (.iload 8, 2) := by decide +kernel
theorem dL_isWell_171 : decode cL_isWell 171 = .ok (.iload 15, 2) := by decide +kernel
theorem dL_isWell_173 : decode cL_isWell 173 = .ok (.iconst 0, 1) := by decide +kernel
theorem dL_isWell_174 : decode cL_isWell 174 = .ok (.invokevirtual 123, 3) := by decide +kernel
theorem dL_isWell_177 : decode cL_isWell 177 = .ok (.istore 16, 2) := by decide +kernel
theorem dL_isWell_179 : decode cL_isWell 179 = .ok (.aload_n 0, 1) := by decide +kernel
theorem dL_isWell_180 : decode cL_isWell 180 = .ok (.iload 8, 2) := by decide +kernel
theorem dL_isWell_182 : decode cL_isWell 182 = .ok (.iload 15, 2) := by decide +kernel
theorem dL_isWell_184 : decode cL_isWell 184 = .ok (.iconst 4, 1) := by decide +kernel
theorem dL_isWell_185 : decode cL_isWell 185 = .ok (.invokevirtual 123, 3) := by decide +kernel
theorem dL_isWell_188 : decode cL_isWell 188 = .ok (.istore 17, 2) := by decide +kernel
theorem dL_isWell_190 : decode cL_isWell 190 = .ok (.iload 16, 2) := by decide +kernel
theorem dL_isWell_192 : decode cL_isWell 192 = .ok (.iload 14, 2) := by decide +kernel
theorem dL_isWell_194 : decode cL_isWell 194 = .ok (.if_icmp .le 33, 3) := by decide +kernel
theorem dL_isWell_197 : decode cL_isWell 197 = .ok (.iload 17, 2) := by decide +kernel
theorem dL_isWell_199 : decode cL_isWell 199 = .ok (.bipush (-4), 2) := by decide +kernel
theorem dL_isWell_201 : decode cL_isWell 201 = .ok (.if_icmp .eq 10, 3) := by decide +kernel
theorem dL_isWell_204 : decode cL_isWell 204 = .ok (.iload 17, 2) := by decide +kernel
theorem dL_isWell_206 : decode cL_isWell 206 = .ok (.iload 16, 2) := by decide +kernel
theorem dL_isWell_208 : decode cL_isWell 208 = .ok (.if_icmp .le 19, 3) := by decide +kernel
theorem dL_isWell_211 : decode cL_isWell 211 = .ok (.iload 17, 2) := by decide +kernel
theorem dL_isWell_213 : decode cL_isWell 213 = .ok (.bipush (-4), 2) := by decide +kernel
theorem dL_isWell_215 : decode cL_isWell 215 = .ok (.if_icmp .ne 14, 3) := by decide +kernel
theorem dL_isWell_218 : decode cL_isWell 218 = .ok (.iload 15, 2) := by decide +kernel
theorem dL_isWell_220 : decode cL_isWell 220 = .ok (.iconst 1, 1) := by decide +kernel
theorem dL_isWell_221 : decode cL_isWell 221 = .ok (.iadd, 1) := by decide +kernel
theorem dL_isWell_222 : decode cL_isWell 222 = .ok (.iload 9, 2) := by decide +kernel
theorem dL_isWell_224 : decode cL_isWell 224 = .ok (.if_icmp .ge 5, 3) := by decide +kernel
theorem dL_isWell_227 : decode cL_isWell 227 = .ok (.iconst 0, 1) := by decide +kernel
theorem dL_isWell_228 : decode cL_isWell 228 = .ok (.ireturn, 1) := by decide +kernel
theorem dL_isWell_229 : decode cL_isWell 229 = .ok (.iload 17, 2) := by decide +kernel
theorem dL_isWell_231 : decode cL_isWell 231 = .ok (.istore 14, 2) := by decide +kernel
theorem dL_isWell_233 : decode cL_isWell 233 = .ok (.iload 10, 2) := by decide +kernel
theorem dL_isWell_235 : decode cL_isWell 235 = .ok (.aload_n 0, 1) := by decide +kernel
theorem dL_isWell_236 : decode cL_isWell 236 = .ok (.iload 8, 2) := by decide +kernel
theorem dL_isWell_238 : decode cL_isWell 238 = .ok (.iload 15, 2) := by decide +kernel
theorem dL_isWell_240 : decode cL_isWell 240 = .ok (.iconst 1, 1) := by decide +kernel
theorem dL_isWell_241 : decode cL_isWell 241 = .ok (.invokevirtual 123, 3) := by decide +kernel
theorem dL_isWell_244 : decode cL_isWell 244 = .ok (.bipush (-4), 2) := by decide +kernel
theorem dL_isWell_246 : decode cL_isWell 246 = .ok (.if_icmp .ne 7, 3) := by decide +kernel
theorem dL_isWell_249 : decode cL_isWell 249 = .ok (.iconst 0, 1) := by decide +kernel
theorem dL_isWell_250 : decode cL_isWell 250 = .ok (.goto 4, 3) := by decide +kernel
theorem dL_isWell_253 : decode cL_isWell 253 = .ok (.iconst 1, 1) := by decide +kernel
theorem dL_isWell_254 : decode cL_isWell 254 = .ok (.iadd, 1) := by decide +kernel
theorem dL_isWell_255 : decode cL_isWell 255 = .ok (.istore 10, 2) := by decide +kernel
theorem dL_isWell_257 : decode cL_isWell 257 = .ok (.bipush (-4), 2) := by decide +kernel
theorem dL_isWell_259 : decode cL_isWell 259 = .ok (.istore 18, 2) := by decide +kernel
theorem dL_isWell_261 : decode cL_isWell 261 = .ok (.iconst 0, 1) := by decide +kernel
theorem dL_isWell_262 : decode cL_isWell 262 = .ok (.istore 19, 2) := by decide +kernel
theorem dL_isWell_264 : decode cL_isWell 264 = .ok (.iconst 0, 1) := by decide +kernel
theorem dL_isWell_265 : decode cL_isWell 265 = .ok (.istore 20, 2) := by decide +kernel
theorem dL_isWell_267 : decode cL_isWell 267 = .ok (.iload 20, 2) := by decide +kernel
theorem dL_isWell_269 : decode cL_isWell 269 = .ok (.iload_n 1, 1) := by decide +kernel
theorem dL_isWell_270 : decode cL_isWell 270 = .ok (.if_icmp .ge 74, 3) := by decide +kernel
theorem dL_isWell_273 : decode cL_isWell 273 = .ok (.aload_n 0, 1) := by decide +kernel
theorem dL_isWell_274 : decode cL_isWell 274 = .ok (.iload 20, 2) := by decide +kernel
theorem dL_isWell_276 : decode cL_isWell 276 = .ok (.iload 8, 2) := by decide +kernel
theorem dL_isWell_278 : decode cL_isWell 278 = .ok (.iload 15, 2) := by decide +kernel
theorem dL_isWell_280 : decode cL_isWell 280 = .ok (.invokestatic 153, 3) := by decide +kernel
theorem dL_isWell_283 : decode cL_isWell 283 = .ok (.istore 21, 2) := by decide +kernel
theorem dL_isWell_285 : decode cL_isWell 285 = .ok (.iload 19, 2) := by decide +kernel
theorem dL_isWell_287 : decode cL_isWell 287 = .ok (.iload 21, 2) := by decide +kernel
theorem dL_isWell_289 : decode cL_isWell 289 = .ok (.ifCond .eq 7, 3) := by decide +kernel
theorem dL_isWell_292 : decode cL_isWell 292 = .ok (.iconst 1, 1) := by decide +kernel
theorem dL_isWell_293 : decode cL_isWell 293 = .ok (.goto 4, 3) := by decide +kernel
theorem dL_isWell_296 : decode cL_isWell 296 = .ok (.iconst 0, 1) := by decide +kernel
theorem dL_isWell_297 : decode cL_isWell 297 = .ok (.iadd, 1) := by decide +kernel
theorem dL_isWell_298 : decode cL_isWell 298 = .ok (.istore 19, 2) := by decide +kernel
theorem dL_isWell_300 : decode cL_isWell 300 = .ok (.iload 21, 2) := by decide +kernel
theorem dL_isWell_302 : decode cL_isWell 302 = .ok (.ifCond .eq 32, 3) := by decide +kernel
theorem dL_isWell_305 : decode cL_isWell 305 = .ok (.iload 18, 2) := by decide +kernel
theorem dL_isWell_307 : decode cL_isWell 307 = .ok (.ifCond .lt 22, 3) := by decide +kernel
theorem dL_isWell_310 : decode cL_isWell 310 = .ok (.aload_n 0, 1) := by decide +kernel
theorem dL_isWell_311 : decode cL_isWell 311 = .ok (.iload 20, 2) := by decide +kernel
theorem dL_isWell_313 : decode cL_isWell 313 = .ok (.iload 8, 2) := by decide +kernel
theorem dL_isWell_315 : decode cL_isWell 315 = .ok (.invokevirtual 126, 3) := by decide +kernel
theorem dL_isWell_318 : decode cL_isWell 318 = .ok (.aload_n 0, 1) := by decide +kernel
theorem dL_isWell_319 : decode cL_isWell 319 = .ok (.iload 18, 2) := by decide +kernel
theorem dL_isWell_321 : decode cL_isWell 321 = .ok (.iload 8, 2) := by decide +kernel
theorem dL_isWell_323 : decode cL_isWell 323 = .ok (.invokevirtual 126, 3) := by decide +kernel
theorem dL_isWell_326 : decode cL_isWell 326 = .ok (.if_icmp .le 8, 3) := by decide +kernel
theorem dL_isWell_329 : decode cL_isWell 329 = .ok (.iload 20, 2) := by decide +kernel
theorem dL_isWell_331 : decode cL_isWell 331 = .ok (.goto 5, 3) := by decide +kernel
theorem dL_isWell_334 : decode cL_isWell 334 = .ok (.iload 18, 2) := by decide +kernel
theorem dL_isWell_336 : decode cL_isWell 336 = .ok (.istore 18, 2) := by decide +kernel
theorem dL_isWell_338 : decode cL_isWell 338 = .ok (.iinc 20 1, 3) := by decide +kernel
theorem dL_isWell_341 : decode cL_isWell 341 = .ok (.goto (-74), 3) := by decide +kernel
theorem dL_isWell_344 : decode cL_isWell 344 = .ok (.aload_n 0, 1) := by decide +kernel
theorem dL_isWell_345 : decode cL_isWell 345 = .ok (.iload 8, 2) := by decide +kernel
theorem dL_isWell_347 : decode cL_isWell 347 = .ok (.iload 15, 2) := by decide +kernel
theorem dL_isWell_349 : decode cL_isWell 349 = .ok (.iconst 3, 1) := by decide +kernel
theorem dL_isWell_350 : decode cL_isWell 350 = .ok (.invokevirtual 123, 3) := by decide +kernel
theorem dL_isWell_353 : decode cL_isWell 353 = .ok (.iload 19, 2) := by decide +kernel
theorem dL_isWell_355 : decode cL_isWell 355 = .ok (.if_icmp .ne 29, 3) := by decide +kernel
theorem dL_isWell_358 : decode cL_isWell 358 = .ok (.aload_n 0, 1) := by decide +kernel
theorem dL_isWell_359 : decode cL_isWell 359 = .ok (.iload 8, 2) := by decide +kernel
theorem dL_isWell_361 : decode cL_isWell 361 = .ok (.iload 15, 2) := by decide +kernel
theorem dL_isWell_363 : decode cL_isWell 363 = .ok (.invokevirtual 157, 3) := by decide +kernel
theorem dL_isWell_366 : decode cL_isWell 366 = .ok (.iload 18, 2) := by decide +kernel
theorem dL_isWell_368 : decode cL_isWell 368 = .ok (.if_icmp .ne 16, 3) := by decide +kernel
theorem dL_isWell_371 : decode cL_isWell 371 = .ok (.aload_n 0, 1) := by decide +kernel
theorem dL_isWell_372 : decode cL_isWell 372 = .ok (.iload 8, 2) := by decide +kernel
theorem dL_isWell_374 : decode cL_isWell 374 = .ok (.iload 15, 2) := by decide +kernel
theorem dL_isWell_376 : decode cL_isWell 376 = .ok (.invokevirtual 160, 3) := by decide +kernel
theorem dL_isWell_379 : decode cL_isWell 379 = .ok (.iload 18, 2) := by decide +kernel
theorem dL_isWell_381 : decode cL_isWell 381 = .ok (.if_icmp .eq 5, 3) := by decide +kernel
theorem dL_isWell_384 : decode cL_isWell 384 = .ok (.iconst 0, 1) := by decide +kernel
theorem dL_isWell_385 : decode cL_isWell 385 = .ok (.ireturn, 1) := by decide +kernel
theorem dL_isWell_386 : decode cL_isWell 386 = .ok (.iinc 15 1, 3) := by decide +kernel
theorem dL_isWell_389 : decode cL_isWell 389 = .ok (.goto (-228), 3) := by decide +kernel
theorem dL_isWell_392 : decode cL_isWell 392 = .ok (.iconst 1, 1) := by decide +kernel
theorem dL_isWell_393 : decode cL_isWell 393 = .ok (.istore 15, 2) := by decide +kernel
theorem dL_isWell_395 : decode cL_isWell 395 = .ok (.iload 15, 2) := by decide +kernel
theorem dL_isWell_397 : decode cL_isWell 397 = .ok (.bipush 30, 2) := by decide +kernel
theorem dL_isWell_399 : decode cL_isWell 399 = .ok (.if_icmp .gt 30, 3) := by decide +kernel
theorem dL_isWell_402 : decode cL_isWell 402 = .ok (.iload 11, 2) := by decide +kernel
theorem dL_isWell_404 : decode cL_isWell 404 = .ok (.aload_n 0, 1) := by decide +kernel
theorem dL_isWell_405 : decode cL_isWell 405 = .ok (.iload 8, 2) := by decide +kernel
theorem dL_isWell_407 : decode cL_isWell 407 = .ok (.iload 15, 2) := by decide +kernel
theorem dL_isWell_409 : decode cL_isWell 409 = .ok (.invokestatic 141, 3) := by decide +kernel
theorem dL_isWell_412 : decode cL_isWell 412 = .ok (.ifCond .eq 7, 3) := by decide +kernel
theorem dL_isWell_415 : decode cL_isWell 415 = .ok (.iconst 0, 1) := by decide +kernel
theorem dL_isWell_416 : decode cL_isWell 416 = .ok (.goto 4, 3) := by decide +kernel
theorem dL_isWell_419 : decode cL_isWell 419 = .ok (.iconst 1, 1) := by decide +kernel
theorem dL_isWell_420 : decode cL_isWell 420 = .ok (.iadd, 1) := by decide +kernel
theorem dL_isWell_421 : decode cL_isWell 421 = .ok (.istore 11, 2) := by decide +kernel
theorem dL_isWell_423 : decode cL_isWell 423 = .ok (.iinc 15 1, 3) := by decide +kernel
theorem dL_isWell_426 : decode cL_isWell 426 = .ok (.goto (-31), 3) := by decide +kernel
theorem dL_isWell_429 : decode cL_isWell 429 = .ok (.iconst 0, 1) := by decide +kernel
theorem dL_isWell_430 : decode cL_isWell 430 = .ok (.istore 15, 2) := by decide +kernel
theorem dL_isWell_432 : decode cL_isWell 432 = .ok (.iload 15, 2) := by decide +kernel
theorem dL_isWell_434 : decode cL_isWell 434 = .ok (.iload_n 1, 1) := by decide +kernel
theorem dL_isWell_435 : decode cL_isWell 435 = .ok (.if_icmp .ge 35, 3) := by decide +kernel
theorem dL_isWell_438 : decode cL_isWell 438 = .ok (.iload 12, 2) := by decide +kernel
theorem dL_isWell_440 : decode cL_isWell 440 = .ok (.aload_n 0, 1) := by decide +kernel
theorem dL_isWell_441 : decode cL_isWell 441 = .ok (.iload 8, 2) := by decide +kernel
theorem dL_isWell_443 : decode cL_isWell 443 = .ok (.iload 15, 2) := by decide +kernel
theorem dL_isWell_445 : decode cL_isWell 445 = .ok (.invokevirtual 126, 3) := by decide +kernel
theorem dL_isWell_448 : decode cL_isWell 448 = .ok (.iadd, 1) := by decide +kernel
theorem dL_isWell_449 : decode cL_isWell 449 = .ok (.istore 12, 2) := by decide +kernel
theorem dL_isWell_451 : decode cL_isWell 451 = .ok (.iload 13, 2) := by decide +kernel
theorem dL_isWell_453 : decode cL_isWell 453 = .ok (.aload_n 0, 1) := by decide +kernel
theorem dL_isWell_454 : decode cL_isWell 454 = .ok (.iload 15, 2) := by decide +kernel
theorem dL_isWell_456 : decode cL_isWell 456 = .ok (.iload 8, 2) := by decide +kernel
theorem dL_isWell_458 : decode cL_isWell 458 = .ok (.invokevirtual 126, 3) := by decide +kernel
theorem dL_isWell_461 : decode cL_isWell 461 = .ok (.iadd, 1) := by decide +kernel
theorem dL_isWell_462 : decode cL_isWell 462 = .ok (.istore 13, 2) := by decide +kernel
theorem dL_isWell_464 : decode cL_isWell 464 = .ok (.iinc 15 1, 3) := by decide +kernel
theorem dL_isWell_467 : decode cL_isWell 467 = .ok (.goto (-35), 3) := by decide +kernel
theorem dL_isWell_470 : decode cL_isWell 470 = .ok (.aload_n 0, 1) := by decide +kernel
theorem dL_isWell_471 : decode cL_isWell 471 = .ok (.iload 8, 2) := by decide +kernel
theorem dL_isWell_473 : decode cL_isWell 473 = .ok (.iconst 2, 1) := by decide +kernel
theorem dL_isWell_474 : decode cL_isWell 474 = .ok (.invokevirtual 138, 3) := by decide +kernel
theorem dL_isWell_477 : decode cL_isWell 477 = .ok (.iload 11, 2) := by decide +kernel
theorem dL_isWell_479 : decode cL_isWell 479 = .ok (.if_icmp .ne 51, 3) := by decide +kernel
theorem dL_isWell_482 : decode cL_isWell 482 = .ok (.aload_n 0, 1) := by decide +kernel
theorem dL_isWell_483 : decode cL_isWell 483 = .ok (.iload 8, 2) := by decide +kernel
theorem dL_isWell_485 : decode cL_isWell 485 = .ok (.iconst 3, 1) := by decide +kernel
theorem dL_isWell_486 : decode cL_isWell 486 = .ok (.invokevirtual 138, 3) := by decide +kernel
theorem dL_isWell_489 : decode cL_isWell 489 = .ok (.iload 10, 2) := by decide +kernel
theorem dL_isWell_491 : decode cL_isWell 491 = .ok (.if_icmp .ne 39, 3) := by decide +kernel
theorem dL_isWell_494 : decode cL_isWell 494 = .ok (.aload_n 0, 1) := by decide +kernel
theorem dL_isWell_495 : decode cL_isWell 495 = .ok (.iload 8, 2) := by decide +kernel
theorem dL_isWell_497 : decode cL_isWell 497 = .ok (.iconst 5, 1) := by decide +kernel
theorem dL_isWell_498 : decode cL_isWell 498 = .ok (.invokevirtual 138, 3) := by decide +kernel
theorem dL_isWell_501 : decode cL_isWell 501 = .ok (.iload 12, 2) := by decide +kernel
theorem dL_isWell_503 : decode cL_isWell 503 = .ok (.if_icmp .ne 27, 3) := by decide +kernel
theorem dL_isWell_506 : decode cL_isWell 506 = .ok (.aload_n 0, 1) := by decide +kernel
theorem dL_isWell_507 : decode cL_isWell 507 = .ok (.iload 8, 2) := by decide +kernel
theorem dL_isWell_509 : decode cL_isWell 509 = .ok (.bipush 6, 2) := by decide +kernel
theorem dL_isWell_511 : decode cL_isWell 511 = .ok (.invokevirtual 138, 3) := by decide +kernel
theorem dL_isWell_514 : decode cL_isWell 514 = .ok (.iload 13, 2) := by decide +kernel
theorem dL_isWell_516 : decode cL_isWell 516 = .ok (.if_icmp .ne 14, 3) := by decide +kernel
theorem dL_isWell_519 : decode cL_isWell 519 = .ok (.aload_n 0, 1) := by decide +kernel
theorem dL_isWell_520 : decode cL_isWell 520 = .ok (.iload 8, 2) := by decide +kernel
theorem dL_isWell_522 : decode cL_isWell 522 = .ok (.iload 8, 2) := by decide +kernel
theorem dL_isWell_524 : decode cL_isWell 524 = .ok (.invokevirtual 126, 3) := by decide +kernel
theorem dL_isWell_527 : decode cL_isWell 527 = .ok (.ifCond .eq 5, 3) := by decide +kernel
theorem dL_isWell_530 : decode cL_isWell 530 = .ok (.iconst 0, 1) := by decide +kernel
theorem dL_isWell_531 : decode cL_isWell 531 = .ok (.ireturn, 1) := by decide +kernel
theorem dL_isWell_532 : decode cL_isWell 532 = .ok (.iload_n 2, 1) := by decide +kernel
theorem dL_isWell_533 : decode cL_isWell 533 = .ok (.iload 9, 2) := by decide +kernel
theorem dL_isWell_535 : decode cL_isWell 535 = .ok (.iadd, 1) := by decide +kernel
theorem dL_isWell_536 : decode cL_isWell 536 = .ok (.istore_n 2, 1) := by decide +kernel
theorem dL_isWell_537 : decode cL_isWell 537 = .ok (.iload_n 3, 1) := by decide +kernel
theorem dL_isWell_538 : decode cL_isWell 538 = .ok (.aload_n 0, 1) := by decide +kernel
theorem dL_isWell_539 : decode cL_isWell 539 = .ok (.iload 8, 2) := by decide +kernel
theorem dL_isWell_541 : decode cL_isWell 541 = .ok (.iconst 1, 1) := by decide +kernel
theorem dL_isWell_542 : decode cL_isWell 542 = .ok (.invokevirtual 138, 3) := by decide +kernel
theorem dL_isWell_545 : decode cL_isWell 545 = .ok (.iadd, 1) := by decide +kernel
theorem dL_isWell_546 : decode cL_isWell 546 = .ok (.istore_n 3, 1) := by decide +kernel
theorem dL_isWell_547 : decode cL_isWell 547 = .ok (.iload 4, 2) := by decide +kernel
theorem dL_isWell_549 : decode cL_isWell 549 = .ok (.iload 10, 2) := by decide +kernel
theorem dL_isWell_551 : decode cL_isWell 551 = .ok (.iadd, 1) := by decide +kernel
theorem dL_isWell_552 : decode cL_isWell 552 = .ok (.istore 4, 2) := by decide +kernel
theorem dL_isWell_554 : decode cL_isWell 554 = .ok (.iload 5, 2) := by decide +kernel
theorem dL_isWell_556 : decode cL_isWell 556 = .ok (.aload_n 0, 1) := by decide +kernel
theorem dL_isWell_557 : decode cL_isWell 557 = .ok (.iload 8, 2) := by decide +kernel
theorem dL_isWell_559 : decode cL_isWell 559 = .ok (.iconst 4, 1) := by decide +kernel
theorem dL_isWell_560 : decode cL_isWell 560 = .ok (.invokevirtual 138, 3) := by decide +kernel
theorem dL_isWell_563 : decode cL_isWell 563 = .ok (.iadd, 1) := by decide +kernel
theorem dL_isWell_564 : decode cL_isWell 564 = .ok (.istore 5, 2) := by decide +kernel
theorem dL_isWell_566 : decode cL_isWell 566 = .ok (.iinc 8 1, 3) := by decide +kernel
theorem dL_isWell_569 : decode cL_isWell 569 = .ok (.goto (-441), 3) := by decide +kernel
theorem dL_isWell_572 : decode cL_isWell 572 = .ok (.iload_n 2, 1) := by decide +kernel
theorem dL_isWell_573 : decode cL_isWell 573 = .ok (.aload_n 0, 1) := by decide +kernel
theorem dL_isWell_574 : decode cL_isWell 574 = .ok (.iconst 2, 1) := by decide +kernel
theorem dL_isWell_575 : decode cL_isWell 575 = .ok (.invokevirtual 114, 3) := by decide +kernel
theorem dL_isWell_578 : decode cL_isWell 578 = .ok (.if_icmp .ne 61, 3) := by decide +kernel
theorem dL_isWell_581 : decode cL_isWell 581 = .ok (.iload_n 3, 1) := by decide +kernel
theorem dL_isWell_582 : decode cL_isWell 582 = .ok (.aload_n 0, 1) := by decide +kernel
theorem dL_isWell_583 : decode cL_isWell 583 = .ok (.iconst 3, 1) := by decide +kernel
theorem dL_isWell_584 : decode cL_isWell 584 = .ok (.invokevirtual 114, 3) := by decide +kernel
theorem dL_isWell_587 : decode cL_isWell 587 = .ok (.if_icmp .ne 52, 3) := by decide +kernel
theorem dL_isWell_590 : decode cL_isWell 590 = .ok (.iload 4, 2) := by decide +kernel
theorem dL_isWell_592 : decode cL_isWell 592 = .ok (.aload_n 0, 1) := by decide +kernel
theorem dL_isWell_593 : decode cL_isWell 593 = .ok (.iconst 4, 1) := by decide +kernel
theorem dL_isWell_594 : decode cL_isWell 594 = .ok (.invokevirtual 114, 3) := by decide +kernel
theorem dL_isWell_597 : decode cL_isWell 597 = .ok (.if_icmp .ne 42, 3) := by decide +kernel
theorem dL_isWell_600 : decode cL_isWell 600 = .ok (.iload 5, 2) := by decide +kernel
theorem dL_isWell_602 : decode cL_isWell 602 = .ok (.iload 4, 2) := by decide +kernel
theorem dL_isWell_604 : decode cL_isWell 604 = .ok (.if_icmp .ne 35, 3) := by decide +kernel
theorem dL_isWell_607 : decode cL_isWell 607 = .ok (.aload_n 0, 1) := by decide +kernel
theorem dL_isWell_608 : decode cL_isWell 608 = .ok (.iconst 0, 1) := by decide +kernel
theorem dL_isWell_609 : decode cL_isWell 609 = .ok (.invokevirtual 163, 3) := by decide +kernel
theorem dL_isWell_612 : decode cL_isWell 612 = .ok (.iload 6, 2) := by decide +kernel
theorem dL_isWell_614 : decode cL_isWell 614 = .ok (.if_icmp .ne 25, 3) := by decide +kernel
theorem dL_isWell_617 : decode cL_isWell 617 = .ok (.aload_n 0, 1) := by decide +kernel
theorem dL_isWell_618 : decode cL_isWell 618 = .ok (.iconst 1, 1) := by decide +kernel
theorem dL_isWell_619 : decode cL_isWell 619 = .ok (.invokevirtual 163, 3) := by decide +kernel
theorem dL_isWell_622 : decode cL_isWell 622 = .ok (.iload 7, 2) := by decide +kernel
theorem dL_isWell_624 : decode cL_isWell 624 = .ok (.if_icmp .ne 15, 3) := by decide +kernel
theorem dL_isWell_627 : decode cL_isWell 627 = .ok (.aload_n 0, 1) := by decide +kernel
theorem dL_isWell_628 : decode cL_isWell 628 = .ok (.invokevirtual 166, 3) := by decide +kernel
theorem dL_isWell_631 : decode cL_isWell 631 = .ok (.iconst 1, 1) := by decide +kernel
theorem dL_isWell_632 : decode cL_isWell 632 = .ok (.if_icmp .ne 7, 3) := by decide +kernel
theorem dL_isWell_635 : decode cL_isWell 635 = .ok (.iconst 1, 1) := by decide +kernel
theorem dL_isWell_636 : decode cL_isWell 636 = .ok (.goto 4, 3) := by decide +kernel
theorem dL_isWell_639 : decode cL_isWell 639 = .ok (.iconst 0, 1) := by decide +kernel
theorem dL_isWell_640 : decode cL_isWell 640 = .ok (.ireturn, 1) := by decide +kernel
theorem e_200 (a0 : Nat) (ws : ai_W) : ai_Call 200 [.ref a0] ws = ai_Run 200 0 [.ref a0, .null, .null, .null, .null, .null, .null, .null, .null, .null, .null, .null, .null, .null, .null, .null, .null, .null, .null, .null, .null, .null] [] ws := R_entS hk_200 ⟨⟨rfl, rfl⟩, Nat.le_of_ble_eq_true rfl⟩ rfl
theorem r_200_0 (l1 l2 l3 l4 l5 l6 l7 l8 l9 l10 l11 l12 l13 l14 l15 l16 l17 l18 l19 l20 l21 : Value) (a : Nat) (st : List Value) (ws : ai_W) : ai_Run 200 0 [.ref a, l1, l2, l3, l4, l5, l6, l7, l8, l9, l10, l11, l12, l13, l14, l15, l16, l17, l18, l19, l20, l21] st ws = ai_Run 200 1 [.ref a, l1, l2, l3, l4, l5, l6, l7, l8, l9, l10, l11, l12, l13, l14, l15, l16, l17, l18, l19, l20, l21] (.ref a :: st) ws := R_aload_n hc_200 dL_isWell_0 rfl rfl
theorem rx_200_0 (l1 l2 l3 l4 l5 l6 l7 l8 l9 l10 l11 l12 l13 l14 l15 l16 l17 l18 l19 l20 l21 : Value) {a : Nat} (hq : ¬ a = 23) (st : List Value) (ws : ai_W) : ai_Run 200 0 [.retAddr a, l1, l2, l3, l4, l5, l6, l7, l8, l9, l10, l11, l12, l13, l14, l15, l16, l17, l18, l19, l20, l21] st ws = ai_Run 200 1 [.retAddr a, l1, l2, l3, l4, l5, l6, l7, l8, l9, l10, l11, l12, l13, l14, l15, l16, l17, l18, l19, l20, l21] (.retAddr a :: st) ws := R_aload_nX hq hc_200 dL_isWell_0 rfl rfl
theorem r_200_1 (ls st : List Value) (ws : ai_W) : ai_Run 200 1 ls st ws = ai_Run 200 2 ls (.int 0 :: st) ws := R_iconst hc_200 dL_isWell_1 (by decide) rfl
theorem r_200_2 (ls : List Value) (r : Value) (b0 : Int32) (ws : ai_W) : ai_Run 200 2 ls [.int b0, r] ws = (ai_Call 28 [r, .int b0] ws).bind fun q => ai_Run 200 5 ls (q.1.toList ++ []) q.2 := R_callV hc_200 dL_isWell_2 hv_200 (w := 342) rfl (ai_lt3 hf_28 hf_200 hL_28 ho_28 ho_200 rfl) hk_28 (by rw [hn_28]; rfl) rfl (Nat.le_of_ble_eq_true rfl) rfl
theorem r_200_5 (l0 l1 l2 l3 l4 l5 l6 l7 l8 l9 l10 l11 l12 l13 l14 l15 l16 l17 l18 l19 l20 l21 : Value) (a : Int32) (st : List Value) (ws : ai_W) : ai_Run 200 5 [l0, l1, l2, l3, l4, l5, l6, l7, l8, l9, l10, l11, l12, l13, l14, l15, l16, l17, l18, l19, l20, l21] (.int a :: st) ws = ai_Run 200 6 [l0, .int a, l2, l3, l4, l5, l6, l7, l8, l9, l10, l11, l12, l13, l14, l15, l16, l17, l18, l19, l20, l21] st ws := R_istore_n hc_200 dL_isWell_5 (Nat.le_of_ble_eq_true rfl) rfl rfl
theorem r_200_6 (ls st : List Value) (ws : ai_W) : ai_Run 200 6 ls st ws = ai_Run 200 7 ls (.int 0 :: st) ws := R_iconst hc_200 dL_isWell_6 (by decide) rfl
theorem r_200_7 (l0 l1 l2 l3 l4 l5 l6 l7 l8 l9 l10 l11 l12 l13 l14 l15 l16 l17 l18 l19 l20 l21 : Value) (a : Int32) (st : List Value) (ws : ai_W) : ai_Run 200 7 [l0, l1, l2, l3, l4, l5, l6, l7, l8, l9, l10, l11, l12, l13, l14, l15, l16, l17, l18, l19, l20, l21] (.int a :: st) ws = ai_Run 200 8 [l0, l1, .int a, l3, l4, l5, l6, l7, l8, l9, l10, l11, l12, l13, l14, l15, l16, l17, l18, l19, l20, l21] st ws := R_istore_n hc_200 dL_isWell_7 (Nat.le_of_ble_eq_true rfl) rfl rfl
theorem r_200_8 (ls st : List Value) (ws : ai_W) : ai_Run 200 8 ls st ws = ai_Run 200 9 ls (.int 0 :: st) ws := R_iconst hc_200 dL_isWell_8 (by decide) rfl
theorem r_200_9 (l0 l1 l2 l3 l4 l5 l6 l7 l8 l9 l10 l11 l12 l13 l14 l15 l16 l17 l18 l19 l20 l21 : Value) (a : Int32) (st : List Value) (ws : ai_W) : ai_Run 200 9 [l0, l1, l2, l3, l4, l5, l6, l7, l8, l9, l10, l11, l12, l13, l14, l15, l16, l17, l18, l19, l20, l21] (.int a :: st) ws = ai_Run 200 10 [l0, l1, l2, .int a, l4, l5, l6, l7, l8, l9, l10, l11, l12, l13, l14, l15, l16, l17, l18, l19, l20, l21] st ws := R_istore_n hc_200 dL_isWell_9 (Nat.le_of_ble_eq_true rfl) rfl rfl
theorem r_200_10 (ls st : List Value) (ws : ai_W) : ai_Run 200 10 ls st ws = ai_Run 200 11 ls (.int 0 :: st) ws := R_iconst hc_200 dL_isWell_10 (by decide) rfl
theorem r_200_11 (l0 l1 l2 l3 l4 l5 l6 l7 l8 l9 l10 l11 l12 l13 l14 l15 l16 l17 l18 l19 l20 l21 : Value) (a : Int32) (st : List Value) (ws : ai_W) : ai_Run 200 11 [l0, l1, l2, l3, l4, l5, l6, l7, l8, l9, l10, l11, l12, l13, l14, l15, l16, l17, l18, l19, l20, l21] (.int a :: st) ws = ai_Run 200 13 [l0, l1, l2, l3, .int a, l5, l6, l7, l8, l9, l10, l11, l12, l13, l14, l15, l16, l17, l18, l19, l20, l21] st ws := R_istore hc_200 dL_isWell_11 (Nat.le_of_ble_eq_true rfl) rfl rfl
theorem r_200_13 (ls st : List Value) (ws : ai_W) : ai_Run 200 13 ls st ws = ai_Run 200 14 ls (.int 0 :: st) ws := R_iconst hc_200 dL_isWell_13 (by decide) rfl
theorem r_200_14 (l0 l1 l2 l3 l4 l5 l6 l7 l8 l9 l10 l11 l12 l13 l14 l15 l16 l17 l18 l19 l20 l21 : Value) (a : Int32) (st : List Value) (ws : ai_W) : ai_Run 200 14 [l0, l1, l2, l3, l4, l5, l6, l7, l8, l9, l10, l11, l12, l13, l14, l15, l16, l17, l18, l19, l20, l21] (.int a :: st) ws = ai_Run 200 16 [l0, l1, l2, l3, l4, .int a, l6, l7, l8, l9, l10, l11, l12, l13, l14, l15, l16, l17, l18, l19, l20, l21] st ws := R_istore hc_200 dL_isWell_14 (Nat.le_of_ble_eq_true rfl) rfl rfl
theorem r_200_16 (ls st : List Value) (ws : ai_W) : ai_Run 200 16 ls st ws = ai_Run 200 17 ls (.int 1 :: st) ws := R_iconst hc_200 dL_isWell_16 (by decide) rfl
theorem r_200_17 (l0 l1 l2 l3 l4 l5 l6 l7 l8 l9 l10 l11 l12 l13 l14 l15 l16 l17 l18 l19 l20 l21 : Value) (a : Int32) (st : List Value) (ws : ai_W) : ai_Run 200 17 [l0, l1, l2, l3, l4, l5, l6, l7, l8, l9, l10, l11, l12, l13, l14, l15, l16, l17, l18, l19, l20, l21] (.int a :: st) ws = ai_Run 200 19 [l0, l1, l2, l3, l4, l5, .int a, l7, l8, l9, l10, l11, l12, l13, l14, l15, l16, l17, l18, l19, l20, l21] st ws := R_istore hc_200 dL_isWell_17 (Nat.le_of_ble_eq_true rfl) rfl rfl
theorem r_200_19 (ls st : List Value) (ws : ai_W) : ai_Run 200 19 ls st ws = ai_Run 200 20 ls (.int 0 :: st) ws := R_iconst hc_200 dL_isWell_19 (by decide) rfl
theorem r_200_20 (l0 l1 l2 l3 l4 l5 l6 l7 l8 l9 l10 l11 l12 l13 l14 l15 l16 l17 l18 l19 l20 l21 : Value) (a : Int32) (st : List Value) (ws : ai_W) : ai_Run 200 20 [l0, l1, l2, l3, l4, l5, l6, l7, l8, l9, l10, l11, l12, l13, l14, l15, l16, l17, l18, l19, l20, l21] (.int a :: st) ws = ai_Run 200 22 [l0, l1, l2, l3, l4, l5, l6, .int a, l8, l9, l10, l11, l12, l13, l14, l15, l16, l17, l18, l19, l20, l21] st ws := R_istore hc_200 dL_isWell_20 (Nat.le_of_ble_eq_true rfl) rfl rfl
theorem r_200_22 (ls st : List Value) (ws : ai_W) : ai_Run 200 22 ls st ws = ai_Run 200 23 ls (.int 1 :: st) ws := R_iconst hc_200 dL_isWell_22 (by decide) rfl
theorem r_200_23 (l0 l1 l2 l3 l4 l5 l6 l7 l8 l9 l10 l11 l12 l13 l14 l15 l16 l17 l18 l19 l20 l21 : Value) (a : Int32) (st : List Value) (ws : ai_W) : ai_Run 200 23 [l0, l1, l2, l3, l4, l5, l6, l7, l8, l9, l10, l11, l12, l13, l14, l15, l16, l17, l18, l19, l20, l21] (.int a :: st) ws = ai_Run 200 25 [l0, l1, l2, l3, l4, l5, l6, l7, .int a, l9, l10, l11, l12, l13, l14, l15, l16, l17, l18, l19, l20, l21] st ws := R_istore hc_200 dL_isWell_23 (Nat.le_of_ble_eq_true rfl) rfl rfl
theorem r_200_25 (l0 l1 l2 l3 l4 l5 l6 l7 l9 l10 l11 l12 l13 l14 l15 l16 l17 l18 l19 l20 l21 : Value) (a : Int32) (st : List Value) (ws : ai_W) : ai_Run 200 25 [l0, l1, l2, l3, l4, l5, l6, l7, .int a, l9, l10, l11, l12, l13, l14, l15, l16, l17, l18, l19, l20, l21] st ws = ai_Run 200 27 [l0, l1, l2, l3, l4, l5, l6, l7, .int a, l9, l10, l11, l12, l13, l14, l15, l16, l17, l18, l19, l20, l21] (.int a :: st) ws := R_iload hc_200 dL_isWell_25 rfl rfl
theorem r_200_27 (ls st : List Value) (ws : ai_W) : ai_Run 200 27 ls st ws = ai_Run 200 29 ls (.int 30 :: st) ws := R_bipush hc_200 dL_isWell_27 (by decide) rfl
theorem r_200_29 (ls st : List Value) (a b : Int32) (ws : ai_W) : ai_Run 200 29 ls (.int b :: .int a :: st) ws = if b < a then ai_Run 200 125 ls st ws else ai_Run 200 32 ls st ws := R_cmp_gt hc_200 dL_isWell_29 rfl rfl
theorem r_200_32 (ls st : List Value) (ws : ai_W) : ai_Run 200 32 ls st ws = ai_Run 200 33 ls (.int 0 :: st) ws := R_iconst hc_200 dL_isWell_32 (by decide) rfl
theorem r_200_33 (l0 l1 l2 l3 l4 l5 l6 l7 l8 l9 l10 l11 l12 l13 l14 l15 l16 l17 l18 l19 l20 l21 : Value) (a : Int32) (st : List Value) (ws : ai_W) : ai_Run 200 33 [l0, l1, l2, l3, l4, l5, l6, l7, l8, l9, l10, l11, l12, l13, l14, l15, l16, l17, l18, l19, l20, l21] (.int a :: st) ws = ai_Run 200 35 [l0, l1, l2, l3, l4, l5, l6, l7, l8, .int a, l10, l11, l12, l13, l14, l15, l16, l17, l18, l19, l20, l21] st ws := R_istore hc_200 dL_isWell_33 (Nat.le_of_ble_eq_true rfl) rfl rfl
theorem r_200_35 (ls st : List Value) (ws : ai_W) : ai_Run 200 35 ls st ws = ai_Run 200 36 ls (.int 0 :: st) ws := R_iconst hc_200 dL_isWell_35 (by decide) rfl
theorem r_200_36 (l0 l1 l2 l3 l4 l5 l6 l7 l8 l9 l10 l11 l12 l13 l14 l15 l16 l17 l18 l19 l20 l21 : Value) (a : Int32) (st : List Value) (ws : ai_W) : ai_Run 200 36 [l0, l1, l2, l3, l4, l5, l6, l7, l8, l9, l10, l11, l12, l13, l14, l15, l16, l17, l18, l19, l20, l21] (.int a :: st) ws = ai_Run 200 38 [l0, l1, l2, l3, l4, l5, l6, l7, l8, l9, .int a, l11, l12, l13, l14, l15, l16, l17, l18, l19, l20, l21] st ws := R_istore hc_200 dL_isWell_36 (Nat.le_of_ble_eq_true rfl) rfl rfl
theorem r_200_38 (l0 l1 l2 l3 l4 l5 l6 l7 l8 l9 l11 l12 l13 l14 l15 l16 l17 l18 l19 l20 l21 : Value) (a : Int32) (st : List Value) (ws : ai_W) : ai_Run 200 38 [l0, l1, l2, l3, l4, l5, l6, l7, l8, l9, .int a, l11, l12, l13, l14, l15, l16, l17, l18, l19, l20, l21] st ws = ai_Run 200 40 [l0, l1, l2, l3, l4, l5, l6, l7, l8, l9, .int a, l11, l12, l13, l14, l15, l16, l17, l18, l19, l20, l21] (.int a :: st) ws := R_iload hc_200 dL_isWell_38 rfl rfl
theorem r_200_40 (l0 l2 l3 l4 l5 l6 l7 l8 l9 l10 l11 l12 l13 l14 l15 l16 l17 l18 l19 l20 l21 : Value) (a : Int32) (st : List Value) (ws : ai_W) : ai_Run 200 40 [l0, .int a, l2, l3, l4, l5, l6, l7, l8, l9, l10, l11, l12, l13, l14, l15, l16, l17, l18, l19, l20, l21] st ws = ai_Run 200 41 [l0, .int a, l2, l3, l4, l5, l6, l7, l8, l9, l10, l11, l12, l13, l14, l15, l16, l17, l18, l19, l20, l21] (.int a :: st) ws := R_iload_n hc_200 dL_isWell_40 rfl rfl
theorem r_200_41 (ls st : List Value) (a b : Int32) (ws : ai_W) : ai_Run 200 41 ls (.int b :: .int a :: st) ws = if a < b then ai_Run 200 44 ls st ws else ai_Run 200 74 ls st ws := R_cmp_ge hc_200 dL_isWell_41 rfl rfl
theorem r_200_44 (l0 l1 l2 l3 l4 l5 l6 l7 l8 l10 l11 l12 l13 l14 l15 l16 l17 l18 l19 l20 l21 : Value) (a : Int32) (st : List Value) (ws : ai_W) : ai_Run 200 44 [l0, l1, l2, l3, l4, l5, l6, l7, l8, .int a, l10, l11, l12, l13, l14, l15, l16, l17, l18, l19, l20, l21] st ws = ai_Run 200 46 [l0, l1, l2, l3, l4, l5, l6, l7, l8, .int a, l10, l11, l12, l13, l14, l15, l16, l17, l18, l19, l20, l21] (.int a :: st) ws := R_iload hc_200 dL_isWell_44 rfl rfl
theorem r_200_46 (l1 l2 l3 l4 l5 l6 l7 l8 l9 l10 l11 l12 l13 l14 l15 l16 l17 l18 l19 l20 l21 : Value) (a : Nat) (st : List Value) (ws : ai_W) : ai_Run 200 46 [.ref a, l1, l2, l3, l4, l5, l6, l7, l8, l9, l10, l11, l12, l13, l14, l15, l16, l17, l18, l19, l20, l21] st ws = ai_Run 200 47 [.ref a, l1, l2, l3, l4, l5, l6, l7, l8, l9, l10, l11, l12, l13, l14, l15, l16, l17, l18, l19, l20, l21] (.ref a :: st) ws := R_aload_n hc_200 dL_isWell_46 rfl rfl
theorem rx_200_46 (l1 l2 l3 l4 l5 l6 l7 l8 l9 l10 l11 l12 l13 l14 l15 l16 l17 l18 l19 l20 l21 : Value) {a : Nat} (hq : ¬ a = 23) (st : List Value) (ws : ai_W) : ai_Run 200 46 [.retAddr a, l1, l2, l3, l4, l5, l6, l7, l8, l9, l10, l11, l12, l13, l14, l15, l16, l17, l18, l19, l20, l21] st ws = ai_Run 200 47 [.retAddr a, l1, l2, l3, l4, l5, l6, l7, l8, l9, l10, l11, l12, l13, l14, l15, l16, l17, l18, l19, l20, l21] (.retAddr a :: st) ws := R_aload_nX hq hc_200 dL_isWell_46 rfl rfl
theorem r_200_47 (l0 l1 l2 l3 l4 l5 l6 l7 l8 l9 l11 l12 l13 l14 l15 l16 l17 l18 l19 l20 l21 : Value) (a : Int32) (st : List Value) (ws : ai_W) : ai_Run 200 47 [l0, l1, l2, l3, l4, l5, l6, l7, l8, l9, .int a, l11, l12, l13, l14, l15, l16, l17, l18, l19, l20, l21] st ws = ai_Run 200 49 [l0, l1, l2, l3, l4, l5, l6, l7, l8, l9, .int a, l11, l12, l13, l14, l15, l16, l17, l18, l19, l20, l21] (.int a :: st) ws := R_iload hc_200 dL_isWell_47 rfl rfl
theorem r_200_49 (l0 l1 l2 l3 l4 l5 l6 l7 l9 l10 l11 l12 l13 l14 l15 l16 l17 l18 l19 l20 l21 : Value) (a : Int32) (st : List Value) (ws : ai_W) : ai_Run 200 49 [l0, l1, l2, l3, l4, l5, l6, l7, .int a, l9, l10, l11, l12, l13, l14, l15, l16, l17, l18, l19, l20, l21] st ws = ai_Run 200 51 [l0, l1, l2, l3, l4, l5, l6, l7, .int a, l9, l10, l11, l12, l13, l14, l15, l16, l17, l18, l19, l20, l21] (.int a :: st) ws := R_iload hc_200 dL_isWell_49 rfl rfl
theorem r_200_51 (ls : List Value) (b0 : Value) (b1 : Int32) (b2 : Int32) (s0 : Value) (ws : ai_W) : ai_Run 200 51 ls [.int b2, .int b1, b0, s0] ws = (ai_Call 166 [b0, .int b1, .int b2] ws).bind fun q => ai_Run 200 54 ls (q.1.toList ++ [s0]) q.2 := R_callS hc_200 dL_isWell_51 hv_200 (w := 1171) rfl (ai_lt3 hf_166 hf_200 hL_166 ho_166 ho_200 rfl) hk_166 (by rw [hn_166]; rfl) rfl (Nat.le_of_ble_eq_true rfl) rfl
theorem r_200_54 (ls st : List Value) (a : Int32) (ws : ai_W) : ai_Run 200 54 ls (.int a :: st) ws = if a = 0 then ai_Run 200 64 ls st ws else ai_Run 200 57 ls st ws := R_if_eq hc_200 dL_isWell_54 rfl rfl
theorem r_200_57 (ls st : List Value) (ws : ai_W) : ai_Run 200 57 ls st ws = ai_Run 200 58 ls (.int 1 :: st) ws := R_iconst hc_200 dL_isWell_57 (by decide) rfl
theorem r_200_58 (l0 l1 l2 l3 l4 l5 l6 l7 l8 l9 l11 l12 l13 l14 l15 l16 l17 l18 l19 l20 l21 : Value) (a : Int32) (st : List Value) (ws : ai_W) : ai_Run 200 58 [l0, l1, l2, l3, l4, l5, l6, l7, l8, l9, .int a, l11, l12, l13, l14, l15, l16, l17, l18, l19, l20, l21] st ws = ai_Run 200 60 [l0, l1, l2, l3, l4, l5, l6, l7, l8, l9, .int a, l11, l12, l13, l14, l15, l16, l17, l18, l19, l20, l21] (.int a :: st) ws := R_iload hc_200 dL_isWell_58 rfl rfl
theorem r_200_60 (ls st : List Value) (a b : Int32) (ws : ai_W) : ai_Run 200 60 ls (.int b :: .int a :: st) ws = ai_Run 200 61 ls (.int (a <<< (b &&& 31)) :: st) ws := R_ishl hc_200 dL_isWell_60 rfl
theorem r_200_61 (ls st : List Value) (ws : ai_W) : ai_Run 200 61 ls st ws = ai_Run 200 65 ls st ws := R_goto hc_200 dL_isWell_61 rfl
theorem r_200_64 (ls st : List Value) (ws : ai_W) : ai_Run 200 64 ls st ws = ai_Run 200 65 ls (.int 0 :: st) ws := R_iconst hc_200 dL_isWell_64 (by decide) rfl
theorem r_200_65 (ls st : List Value) (a b : Int32) (ws : ai_W) : ai_Run 200 65 ls (.int b :: .int a :: st) ws = ai_Run 200 66 ls (.int (a ||| b) :: st) ws := R_ior hc_200 dL_isWell_65 rfl
theorem r_200_66 (l0 l1 l2 l3 l4 l5 l6 l7 l8 l9 l10 l11 l12 l13 l14 l15 l16 l17 l18 l19 l20 l21 : Value) (a : Int32) (st : List Value) (ws : ai_W) : ai_Run 200 66 [l0, l1, l2, l3, l4, l5, l6, l7, l8, l9, l10, l11, l12, l13, l14, l15, l16, l17, l18, l19, l20, l21] (.int a :: st) ws = ai_Run 200 68 [l0, l1, l2, l3, l4, l5, l6, l7, l8, .int a, l10, l11, l12, l13, l14, l15, l16, l17, l18, l19, l20, l21] st ws := R_istore hc_200 dL_isWell_66 (Nat.le_of_ble_eq_true rfl) rfl rfl
theorem r_200_68 (l0 l1 l2 l3 l4 l5 l6 l7 l8 l9 l11 l12 l13 l14 l15 l16 l17 l18 l19 l20 l21 : Value) (a : Int32) (st : List Value) (ws : ai_W) : ai_Run 200 68 [l0, l1, l2, l3, l4, l5, l6, l7, l8, l9, .int a, l11, l12, l13, l14, l15, l16, l17, l18, l19, l20, l21] st ws = ai_Run 200 71 [l0, l1, l2, l3, l4, l5, l6, l7, l8, l9, .int (a + 1), l11, l12, l13, l14, l15, l16, l17, l18, l19, l20, l21] st ws := R_iinc hc_200 dL_isWell_68 rfl (by decide) rfl rfl
theorem r_200_71 (ls st : List Value) (ws : ai_W) : ai_Run 200 71 ls st ws = ai_Run 200 38 ls st ws := R_goto hc_200 dL_isWell_71 rfl
theorem r_200_74 (l1 l2 l3 l4 l5 l6 l7 l8 l9 l10 l11 l12 l13 l14 l15 l16 l17 l18 l19 l20 l21 : Value) (a : Nat) (st : List Value) (ws : ai_W) : ai_Run 200 74 [.ref a, l1, l2, l3, l4, l5, l6, l7, l8, l9, l10, l11, l12, l13, l14, l15, l16, l17, l18, l19, l20, l21] st ws = ai_Run 200 75 [.ref a, l1, l2, l3, l4, l5, l6, l7, l8, l9, l10, l11, l12, l13, l14, l15, l16, l17, l18, l19, l20, l21] (.ref a :: st) ws := R_aload_n hc_200 dL_isWell_74 rfl rfl
theorem rx_200_74 (l1 l2 l3 l4 l5 l6 l7 l8 l9 l10 l11 l12 l13 l14 l15 l16 l17 l18 l19 l20 l21 : Value) {a : Nat} (hq : ¬ a = 23) (st : List Value) (ws : ai_W) : ai_Run 200 74 [.retAddr a, l1, l2, l3, l4, l5, l6, l7, l8, l9, l10, l11, l12, l13, l14, l15, l16, l17, l18, l19, l20, l21] st ws = ai_Run 200 75 [.retAddr a, l1, l2, l3, l4, l5, l6, l7, l8, l9, l10, l11, l12, l13, l14, l15, l16, l17, l18, l19, l20, l21] (.retAddr a :: st) ws := R_aload_nX hq hc_200 dL_isWell_74 rfl rfl
theorem r_200_75 (l0 l1 l2 l3 l4 l5 l6 l7 l9 l10 l11 l12 l13 l14 l15 l16 l17 l18 l19 l20 l21 : Value) (a : Int32) (st : List Value) (ws : ai_W) : ai_Run 200 75 [l0, l1, l2, l3, l4, l5, l6, l7, .int a, l9, l10, l11, l12, l13, l14, l15, l16, l17, l18, l19, l20, l21] st ws = ai_Run 200 77 [l0, l1, l2, l3, l4, l5, l6, l7, .int a, l9, l10, l11, l12, l13, l14, l15, l16, l17, l18, l19, l20, l21] (.int a :: st) ws := R_iload hc_200 dL_isWell_75 rfl rfl
theorem r_200_77 (ls : List Value) (r : Value) (b0 : Int32) (ws : ai_W) : ai_Run 200 77 ls [.int b0, r] ws = (ai_Call 103 [r, .int b0] ws).bind fun q => ai_Run 200 80 ls (q.1.toList ++ []) q.2 := R_callV hc_200 dL_isWell_77 hv_200 (w := 1102) rfl (ai_lt3 hf_103 hf_200 hL_103 ho_103 ho_200 rfl) hk_103 (by rw [hn_103]; rfl) rfl (Nat.le_of_ble_eq_true rfl) rfl
theorem r_200_80 (l0 l1 l2 l3 l4 l5 l6 l7 l8 l10 l11 l12 l13 l14 l15 l16 l17 l18 l19 l20 l21 : Value) (a : Int32) (st : List Value) (ws : ai_W) : ai_Run 200 80 [l0, l1, l2, l3, l4, l5, l6, l7, l8, .int a, l10, l11, l12, l13, l14, l15, l16, l17, l18, l19, l20, l21] st ws = ai_Run 200 82 [l0, l1, l2, l3, l4, l5, l6, l7, l8, .int a, l10, l11, l12, l13, l14, l15, l16, l17, l18, l19, l20, l21] (.int a :: st) ws := R_iload hc_200 dL_isWell_80 rfl rfl
theorem r_200_82 (ls st : List Value) (a b : Int32) (ws : ai_W) : ai_Run 200 82 ls (.int b :: .int a :: st) ws = if a = b then ai_Run 200 85 ls st ws else ai_Run 200 96 ls st ws := R_cmp_ne hc_200 dL_isWell_82 rfl rfl
theorem r_200_85 (l1 l2 l3 l4 l5 l6 l7 l8 l9 l10 l11 l12 l13 l14 l15 l16 l17 l18 l19 l20 l21 : Value) (a : Nat) (st : List Value) (ws : ai_W) : ai_Run 200 85 [.ref a, l1, l2, l3, l4, l5, l6, l7, l8, l9, l10, l11, l12, l13, l14, l15, l16, l17, l18, l19, l20, l21] st ws = ai_Run 200 86 [.ref a, l1, l2, l3, l4, l5, l6, l7, l8, l9, l10, l11, l12, l13, l14, l15, l16, l17, l18, l19, l20, l21] (.ref a :: st) ws := R_aload_n hc_200 dL_isWell_85 rfl rfl
theorem rx_200_85 (l1 l2 l3 l4 l5 l6 l7 l8 l9 l10 l11 l12 l13 l14 l15 l16 l17 l18 l19 l20 l21 : Value) {a : Nat} (hq : ¬ a = 23) (st : List Value) (ws : ai_W) : ai_Run 200 85 [.retAddr a, l1, l2, l3, l4, l5, l6, l7, l8, l9, l10, l11, l12, l13, l14, l15, l16, l17, l18, l19, l20, l21] st ws = ai_Run 200 86 [.retAddr a, l1, l2, l3, l4, l5, l6, l7, l8, l9, l10, l11, l12, l13, l14, l15, l16, l17, l18, l19, l20, l21] (.retAddr a :: st) ws := R_aload_nX hq hc_200 dL_isWell_85 rfl rfl
theorem r_200_86 (l0 l1 l2 l3 l4 l5 l6 l7 l9 l10 l11 l12 l13 l14 l15 l16 l17 l18 l19 l20 l21 : Value) (a : Int32) (st : List Value) (ws : ai_W) : ai_Run 200 86 [l0, l1, l2, l3, l4, l5, l6, l7, .int a, l9, l10, l11, l12, l13, l14, l15, l16, l17, l18, l19, l20, l21] st ws = ai_Run 200 88 [l0, l1, l2, l3, l4, l5, l6, l7, .int a, l9, l10, l11, l12, l13, l14, l15, l16, l17, l18, l19, l20, l21] (.int a :: st) ws := R_iload hc_200 dL_isWell_86 rfl rfl
theorem r_200_88 (ls : List Value) (r : Value) (b0 : Int32) (ws : ai_W) : ai_Run 200 88 ls [.int b0, r] ws = (ai_Call 106 [r, .int b0] ws).bind fun q => ai_Run 200 91 ls (q.1.toList ++ []) q.2 := R_callV hc_200 dL_isWell_88 hv_200 (w := 1192) rfl (ai_lt3 hf_106 hf_200 hL_106 ho_106 ho_200 rfl) hk_106 (by rw [hn_106]; rfl) rfl (Nat.le_of_ble_eq_true rfl) rfl
theorem r_200_91 (l0 l1 l2 l3 l4 l5 l6 l7 l8 l10 l11 l12 l13 l14 l15 l16 l17 l18 l19 l20 l21 : Value) (a : Int32) (st : List Value) (ws : ai_W) : ai_Run 200 91 [l0, l1, l2, l3, l4, l5, l6, l7, l8, .int a, l10, l11, l12, l13, l14, l15, l16, l17, l18, l19, l20, l21] st ws = ai_Run 200 93 [l0, l1, l2, l3, l4, l5, l6, l7, l8, .int a, l10, l11, l12, l13, l14, l15, l16, l17, l18, l19, l20, l21] (.int a :: st) ws := R_iload hc_200 dL_isWell_91 rfl rfl
theorem r_200_93 (ls st : List Value) (a b : Int32) (ws : ai_W) : ai_Run 200 93 ls (.int b :: .int a :: st) ws = if a = b then ai_Run 200 98 ls st ws else ai_Run 200 96 ls st ws := R_cmp_eq hc_200 dL_isWell_93 rfl rfl
theorem r_200_96 (ls st : List Value) (ws : ai_W) : ai_Run 200 96 ls st ws = ai_Run 200 97 ls (.int 0 :: st) ws := R_iconst hc_200 dL_isWell_96 (by decide) rfl
theorem r_200_97 (ls : List Value) (x : Int32) (ws : ai_W) : ai_Run 200 97 ls [.int x] ws = if ai_pb x = true then some (some (.int x), ws) else none := R_zret hc_200 dL_isWell_97 ht_200
theorem r_200_98 (l0 l1 l2 l3 l4 l5 l6 l7 l8 l10 l11 l12 l13 l14 l15 l16 l17 l18 l19 l20 l21 : Value) (a : Int32) (st : List Value) (ws : ai_W) : ai_Run 200 98 [l0, l1, l2, l3, l4, l5, l6, l7, l8, .int a, l10, l11, l12, l13, l14, l15, l16, l17, l18, l19, l20, l21] st ws = ai_Run 200 100 [l0, l1, l2, l3, l4, l5, l6, l7, l8, .int a, l10, l11, l12, l13, l14, l15, l16, l17, l18, l19, l20, l21] (.int a :: st) ws := R_iload hc_200 dL_isWell_98 rfl rfl
theorem r_200_100 (ls : List Value) (b0 : Int32) (ws : ai_W) : ai_Run 200 100 ls [.int b0] ws = (ai_Call 100 [.int b0] ws).bind fun q => ai_Run 200 103 ls (q.1.toList ++ []) q.2 := R_callS hc_200 dL_isWell_100 hv_200 (w := 1205) rfl (ai_lt3 hf_100 hf_200 hL_100 ho_100 ho_200 rfl) hk_100 (by rw [hn_100]; rfl) rfl (Nat.le_of_ble_eq_true rfl) rfl
theorem r_200_103 (l0 l1 l2 l3 l4 l5 l6 l8 l9 l10 l11 l12 l13 l14 l15 l16 l17 l18 l19 l20 l21 : Value) (a : Int32) (st : List Value) (ws : ai_W) : ai_Run 200 103 [l0, l1, l2, l3, l4, l5, l6, .int a, l8, l9, l10, l11, l12, l13, l14, l15, l16, l17, l18, l19, l20, l21] st ws = ai_Run 200 105 [l0, l1, l2, l3, l4, l5, l6, .int a, l8, l9, l10, l11, l12, l13, l14, l15, l16, l17, l18, l19, l20, l21] (.int a :: st) ws := R_iload hc_200 dL_isWell_103 rfl rfl
theorem r_200_105 (ls st : List Value) (a b : Int32) (ws : ai_W) : ai_Run 200 105 ls (.int b :: .int a :: st) ws = if b < a then ai_Run 200 108 ls st ws else ai_Run 200 119 ls st ws := R_cmp_le hc_200 dL_isWell_105 rfl rfl
theorem r_200_108 (l0 l1 l2 l3 l4 l5 l6 l7 l8 l10 l11 l12 l13 l14 l15 l16 l17 l18 l19 l20 l21 : Value) (a : Int32) (st : List Value) (ws : ai_W) : ai_Run 200 108 [l0, l1, l2, l3, l4, l5, l6, l7, l8, .int a, l10, l11, l12, l13, l14, l15, l16, l17, l18, l19, l20, l21] st ws = ai_Run 200 110 [l0, l1, l2, l3, l4, l5, l6, l7, l8, .int a, l10, l11, l12, l13, l14, l15, l16, l17, l18, l19, l20, l21] (.int a :: st) ws := R_iload hc_200 dL_isWell_108 rfl rfl
theorem r_200_110 (ls : List Value) (b0 : Int32) (ws : ai_W) : ai_Run 200 110 ls [.int b0] ws = (ai_Call 100 [.int b0] ws).bind fun q => ai_Run 200 113 ls (q.1.toList ++ []) q.2 := R_callS hc_200 dL_isWell_110 hv_200 (w := 1205) rfl (ai_lt3 hf_100 hf_200 hL_100 ho_100 ho_200 rfl) hk_100 (by rw [hn_100]; rfl) rfl (Nat.le_of_ble_eq_true rfl) rfl
theorem r_200_113 (l0 l1 l2 l3 l4 l5 l6 l7 l8 l9 l10 l11 l12 l13 l14 l15 l16 l17 l18 l19 l20 l21 : Value) (a : Int32) (st : List Value) (ws : ai_W) : ai_Run 200 113 [l0, l1, l2, l3, l4, l5, l6, l7, l8, l9, l10, l11, l12, l13, l14, l15, l16, l17, l18, l19, l20, l21] (.int a :: st) ws = ai_Run 200 115 [l0, l1, l2, l3, l4, l5, l6, .int a, l8, l9, l10, l11, l12, l13, l14, l15, l16, l17, l18, l19, l20, l21] st ws := R_istore hc_200 dL_isWell_113 (Nat.le_of_ble_eq_true rfl) rfl rfl
theorem r_200_115 (l0 l1 l2 l3 l4 l5 l6 l7 l9 l10 l11 l12 l13 l14 l15 l16 l17 l18 l19 l20 l21 : Value) (a : Int32) (st : List Value) (ws : ai_W) : ai_Run 200 115 [l0, l1, l2, l3, l4, l5, l6, l7, .int a, l9, l10, l11, l12, l13, l14, l15, l16, l17, l18, l19, l20, l21] st ws = ai_Run 200 117 [l0, l1, l2, l3, l4, l5, l6, l7, .int a, l9, l10, l11, l12, l13, l14, l15, l16, l17, l18, l19, l20, l21] (.int a :: st) ws := R_iload hc_200 dL_isWell_115 rfl rfl
theorem r_200_117 (l0 l1 l2 l3 l4 l5 l6 l7 l8 l9 l10 l11 l12 l13 l14 l15 l16 l17 l18 l19 l20 l21 : Value) (a : Int32) (st : List Value) (ws : ai_W) : ai_Run 200 117 [l0, l1, l2, l3, l4, l5, l6, l7, l8, l9, l10, l11, l12, l13, l14, l15, l16, l17, l18, l19, l20, l21] (.int a :: st) ws = ai_Run 200 119 [l0, l1, l2, l3, l4, l5, .int a, l7, l8, l9, l10, l11, l12, l13, l14, l15, l16, l17, l18, l19, l20, l21] st ws := R_istore hc_200 dL_isWell_117 (Nat.le_of_ble_eq_true rfl) rfl rfl
theorem r_200_119 (l0 l1 l2 l3 l4 l5 l6 l7 l9 l10 l11 l12 l13 l14 l15 l16 l17 l18 l19 l20 l21 : Value) (a : Int32) (st : List Value) (ws : ai_W) : ai_Run 200 119 [l0, l1, l2, l3, l4, l5, l6, l7, .int a, l9, l10, l11, l12, l13, l14, l15, l16, l17, l18, l19, l20, l21] st ws = ai_Run 200 122 [l0, l1, l2, l3, l4, l5, l6, l7, .int (a + 1), l9, l10, l11, l12, l13, l14, l15, l16, l17, l18, l19, l20, l21] st ws := R_iinc hc_200 dL_isWell_119 rfl (by decide) rfl rfl
theorem r_200_122 (ls st : List Value) (ws : ai_W) : ai_Run 200 122 ls st ws = ai_Run 200 25 ls st ws := R_goto hc_200 dL_isWell_122 rfl
theorem r_200_125 (ls st : List Value) (ws : ai_W) : ai_Run 200 125 ls st ws = ai_Run 200 126 ls (.int 0 :: st) ws := R_iconst hc_200 dL_isWell_125 (by decide) rfl
theorem r_200_126 (l0 l1 l2 l3 l4 l5 l6 l7 l8 l9 l10 l11 l12 l13 l14 l15 l16 l17 l18 l19 l20 l21 : Value) (a : Int32) (st : List Value) (ws : ai_W) : ai_Run 200 126 [l0, l1, l2, l3, l4, l5, l6, l7, l8, l9, l10, l11, l12, l13, l14, l15, l16, l17, l18, l19, l20, l21] (.int a :: st) ws = ai_Run 200 128 [l0, l1, l2, l3, l4, l5, l6, l7, .int a, l9, l10, l11, l12, l13, l14, l15, l16, l17, l18, l19, l20, l21] st ws := R_istore hc_200 dL_isWell_126 (Nat.le_of_ble_eq_true rfl) rfl rfl
theorem r_200_128 (l0 l1 l2 l3 l4 l5 l6 l7 l9 l10 l11 l12 l13 l14 l15 l16 l17 l18 l19 l20 l21 : Value) (a : Int32) (st : List Value) (ws : ai_W) : ai_Run 200 128 [l0, l1, l2, l3, l4, l5, l6, l7, .int a, l9, l10, l11, l12, l13, l14, l15, l16, l17, l18, l19, l20, l21] st ws = ai_Run 200 130 [l0, l1, l2, l3, l4, l5, l6, l7, .int a, l9, l10, l11, l12, l13, l14, l15, l16, l17, l18, l19, l20, l21] (.int a :: st) ws := R_iload hc_200 dL_isWell_128 rfl rfl
theorem r_200_130 (l0 l2 l3 l4 l5 l6 l7 l8 l9 l10 l11 l12 l13 l14 l15 l16 l17 l18 l19 l20 l21 : Value) (a : Int32) (st : List Value) (ws : ai_W) : ai_Run 200 130 [l0, .int a, l2, l3, l4, l5, l6, l7, l8, l9, l10, l11, l12, l13, l14, l15, l16, l17, l18, l19, l20, l21] st ws = ai_Run 200 131 [l0, .int a, l2, l3, l4, l5, l6, l7, l8, l9, l10, l11, l12, l13, l14, l15, l16, l17, l18, l19, l20, l21] (.int a :: st) ws := R_iload_n hc_200 dL_isWell_130 rfl rfl
theorem r_200_131 (ls st : List Value) (a b : Int32) (ws : ai_W) : ai_Run 200 131 ls (.int b :: .int a :: st) ws = if a < b then ai_Run 200 134 ls st ws else ai_Run 200 572 ls st ws := R_cmp_ge hc_200 dL_isWell_131 rfl rfl
theorem r_200_134 (l1 l2 l3 l4 l5 l6 l7 l8 l9 l10 l11 l12 l13 l14 l15 l16 l17 l18 l19 l20 l21 : Value) (a : Nat) (st : List Value) (ws : ai_W) : ai_Run 200 134 [.ref a, l1, l2, l3, l4, l5, l6, l7, l8, l9, l10, l11, l12, l13, l14, l15, l16, l17, l18, l19, l20, l21] st ws = ai_Run 200 135 [.ref a, l1, l2, l3, l4, l5, l6, l7, l8, l9, l10, l11, l12, l13, l14, l15, l16, l17, l18, l19, l20, l21] (.ref a :: st) ws := R_aload_n hc_200 dL_isWell_134 rfl rfl
theorem rx_200_134 (l1 l2 l3 l4 l5 l6 l7 l8 l9 l10 l11 l12 l13 l14 l15 l16 l17 l18 l19 l20 l21 : Value) {a : Nat} (hq : ¬ a = 23) (st : List Value) (ws : ai_W) : ai_Run 200 134 [.retAddr a, l1, l2, l3, l4, l5, l6, l7, l8, l9, l10, l11, l12, l13, l14, l15, l16, l17, l18, l19, l20, l21] st ws = ai_Run 200 135 [.retAddr a, l1, l2, l3, l4, l5, l6, l7, l8, l9, l10, l11, l12, l13, l14, l15, l16, l17, l18, l19, l20, l21] (.retAddr a :: st) ws := R_aload_nX hq hc_200 dL_isWell_134 rfl rfl
theorem r_200_135 (l0 l1 l2 l3 l4 l5 l6 l7 l9 l10 l11 l12 l13 l14 l15 l16 l17 l18 l19 l20 l21 : Value) (a : Int32) (st : List Value) (ws : ai_W) : ai_Run 200 135 [l0, l1, l2, l3, l4, l5, l6, l7, .int a, l9, l10, l11, l12, l13, l14, l15, l16, l17, l18, l19, l20, l21] st ws = ai_Run 200 137 [l0, l1, l2, l3, l4, l5, l6, l7, .int a, l9, l10, l11, l12, l13, l14, l15, l16, l17, l18, l19, l20, l21] (.int a :: st) ws := R_iload hc_200 dL_isWell_135 rfl rfl
theorem r_200_137 (ls st : List Value) (ws : ai_W) : ai_Run 200 137 ls st ws = ai_Run 200 138 ls (.int 0 :: st) ws := R_iconst hc_200 dL_isWell_137 (by decide) rfl
theorem r_200_138 (ls : List Value) (r : Value) (b0 : Int32) (b1 : Int32) (ws : ai_W) : ai_Run 200 138 ls [.int b1, .int b0, r] ws = (ai_Call 98 [r, .int b0, .int b1] ws).bind fun q => ai_Run 200 141 ls (q.1.toList ++ []) q.2 := R_callV hc_200 dL_isWell_138 hv_200 (w := 1174) rfl (ai_lt3 hf_98 hf_200 hL_98 ho_98 ho_200 rfl) hk_98 (by rw [hn_98]; rfl) rfl (Nat.le_of_ble_eq_true rfl) rfl
theorem r_200_141 (l0 l1 l2 l3 l4 l5 l6 l7 l8 l9 l10 l11 l12 l13 l14 l15 l16 l17 l18 l19 l20 l21 : Value) (a : Int32) (st : List Value) (ws : ai_W) : ai_Run 200 141 [l0, l1, l2, l3, l4, l5, l6, l7, l8, l9, l10, l11, l12, l13, l14, l15, l16, l17, l18, l19, l20, l21] (.int a :: st) ws = ai_Run 200 143 [l0, l1, l2, l3, l4, l5, l6, l7, l8, .int a, l10, l11, l12, l13, l14, l15, l16, l17, l18, l19, l20, l21] st ws := R_istore hc_200 dL_isWell_141 (Nat.le_of_ble_eq_true rfl) rfl rfl
theorem r_200_143 (ls st : List Value) (ws : ai_W) : ai_Run 200 143 ls st ws = ai_Run 200 144 ls (.int 0 :: st) ws := R_iconst hc_200 dL_isWell_143 (by decide) rfl
theorem r_200_144 (l0 l1 l2 l3 l4 l5 l6 l7 l8 l9 l10 l11 l12 l13 l14 l15 l16 l17 l18 l19 l20 l21 : Value) (a : Int32) (st : List Value) (ws : ai_W) : ai_Run 200 144 [l0, l1, l2, l3, l4, l5, l6, l7, l8, l9, l10, l11, l12, l13, l14, l15, l16, l17, l18, l19, l20, l21] (.int a :: st) ws = ai_Run 200 146 [l0, l1, l2, l3, l4, l5, l6, l7, l8, l9, .int a, l11, l12, l13, l14, l15, l16, l17, l18, l19, l20, l21] st ws := R_istore hc_200 dL_isWell_144 (Nat.le_of_ble_eq_true rfl) rfl rfl
theorem r_200_146 (ls st : List Value) (ws : ai_W) : ai_Run 200 146 ls st ws = ai_Run 200 147 ls (.int 0 :: st) ws := R_iconst hc_200 dL_isWell_146 (by decide) rfl
theorem r_200_147 (l0 l1 l2 l3 l4 l5 l6 l7 l8 l9 l10 l11 l12 l13 l14 l15 l16 l17 l18 l19 l20 l21 : Value) (a : Int32) (st : List Value) (ws : ai_W) : ai_Run 200 147 [l0, l1, l2, l3, l4, l5, l6, l7, l8, l9, l10, l11, l12, l13, l14, l15, l16, l17, l18, l19, l20, l21] (.int a :: st) ws = ai_Run 200 149 [l0, l1, l2, l3, l4, l5, l6, l7, l8, l9, l10, .int a, l12, l13, l14, l15, l16, l17, l18, l19, l20, l21] st ws := R_istore hc_200 dL_isWell_147 (Nat.le_of_ble_eq_true rfl) rfl rfl
theorem r_200_149 (ls st : List Value) (ws : ai_W) : ai_Run 200 149 ls st ws = ai_Run 200 150 ls (.int 0 :: st) ws := R_iconst hc_200 dL_isWell_149 (by decide) rfl
theorem r_200_150 (l0 l1 l2 l3 l4 l5 l6 l7 l8 l9 l10 l11 l12 l13 l14 l15 l16 l17 l18 l19 l20 l21 : Value) (a : Int32) (st : List Value) (ws : ai_W) : ai_Run 200 150 [l0, l1, l2, l3, l4, l5, l6, l7, l8, l9, l10, l11, l12, l13, l14, l15, l16, l17, l18, l19, l20, l21] (.int a :: st) ws = ai_Run 200 152 [l0, l1, l2, l3, l4, l5, l6, l7, l8, l9, l10, l11, .int a, l13, l14, l15, l16, l17, l18, l19, l20, l21] st ws := R_istore hc_200 dL_isWell_150 (Nat.le_of_ble_eq_true rfl) rfl rfl
theorem r_200_152 (ls st : List Value) (ws : ai_W) : ai_Run 200 152 ls st ws = ai_Run 200 153 ls (.int 0 :: st) ws := R_iconst hc_200 dL_isWell_152 (by decide) rfl
theorem r_200_153 (l0 l1 l2 l3 l4 l5 l6 l7 l8 l9 l10 l11 l12 l13 l14 l15 l16 l17 l18 l19 l20 l21 : Value) (a : Int32) (st : List Value) (ws : ai_W) : ai_Run 200 153 [l0, l1, l2, l3, l4, l5, l6, l7, l8, l9, l10, l11, l12, l13, l14, l15, l16, l17, l18, l19, l20, l21] (.int a :: st) ws = ai_Run 200 155 [l0, l1, l2, l3, l4, l5, l6, l7, l8, l9, l10, l11, l12, .int a, l14, l15, l16, l17, l18, l19, l20, l21] st ws := R_istore hc_200 dL_isWell_153 (Nat.le_of_ble_eq_true rfl) rfl rfl
theorem r_200_155 (ls st : List Value) (ws : ai_W) : ai_Run 200 155 ls st ws = ai_Run 200 156 ls (.int 0 :: st) ws := R_iconst hc_200 dL_isWell_155 (by decide) rfl
theorem r_200_156 (l0 l1 l2 l3 l4 l5 l6 l7 l8 l9 l10 l11 l12 l13 l14 l15 l16 l17 l18 l19 l20 l21 : Value) (a : Int32) (st : List Value) (ws : ai_W) : ai_Run 200 156 [l0, l1, l2, l3, l4, l5, l6, l7, l8, l9, l10, l11, l12, l13, l14, l15, l16, l17, l18, l19, l20, l21] (.int a :: st) ws = ai_Run 200 158 [l0, l1, l2, l3, l4, l5, l6, l7, l8, l9, l10, l11, l12, l13, .int a, l15, l16, l17, l18, l19, l20, l21] st ws := R_istore hc_200 dL_isWell_156 (Nat.le_of_ble_eq_true rfl) rfl rfl
theorem r_200_158 (ls st : List Value) (ws : ai_W) : ai_Run 200 158 ls st ws = ai_Run 200 159 ls (.int 0 :: st) ws := R_iconst hc_200 dL_isWell_158 (by decide) rfl
theorem r_200_159 (l0 l1 l2 l3 l4 l5 l6 l7 l8 l9 l10 l11 l12 l13 l14 l15 l16 l17 l18 l19 l20 l21 : Value) (a : Int32) (st : List Value) (ws : ai_W) : ai_Run 200 159 [l0, l1, l2, l3, l4, l5, l6, l7, l8, l9, l10, l11, l12, l13, l14, l15, l16, l17, l18, l19, l20, l21] (.int a :: st) ws = ai_Run 200 161 [l0, l1, l2, l3, l4, l5, l6, l7, l8, l9, l10, l11, l12, l13, l14, .int a, l16, l17, l18, l19, l20, l21] st ws := R_istore hc_200 dL_isWell_159 (Nat.le_of_ble_eq_true rfl) rfl rfl
theorem r_200_161 (l0 l1 l2 l3 l4 l5 l6 l7 l8 l9 l10 l11 l12 l13 l14 l16 l17 l18 l19 l20 l21 : Value) (a : Int32) (st : List Value) (ws : ai_W) : ai_Run 200 161 [l0, l1, l2, l3, l4, l5, l6, l7, l8, l9, l10, l11, l12, l13, l14, .int a, l16, l17, l18, l19, l20, l21] st ws = ai_Run 200 163 [l0, l1, l2, l3, l4, l5, l6, l7, l8, l9, l10, l11, l12, l13, l14, .int a, l16, l17, l18, l19, l20, l21] (.int a :: st) ws := R_iload hc_200 dL_isWell_161 rfl rfl
theorem r_200_163 (l0 l1 l2 l3 l4 l5 l6 l7 l8 l10 l11 l12 l13 l14 l15 l16 l17 l18 l19 l20 l21 : Value) (a : Int32) (st : List Value) (ws : ai_W) : ai_Run 200 163 [l0, l1, l2, l3, l4, l5, l6, l7, l8, .int a, l10, l11, l12, l13, l14, l15, l16, l17, l18, l19, l20, l21] st ws = ai_Run 200 165 [l0, l1, l2, l3, l4, l5, l6, l7, l8, .int a, l10, l11, l12, l13, l14, l15, l16, l17, l18, l19, l20, l21] (.int a :: st) ws := R_iload hc_200 dL_isWell_163 rfl rfl
theorem r_200_165 (ls st : List Value) (a b : Int32) (ws : ai_W) : ai_Run 200 165 ls (.int b :: .int a :: st) ws = if a < b then ai_Run 200 168 ls st ws else ai_Run 200 392 ls st ws := R_cmp_ge hc_200 dL_isWell_165 rfl rfl
theorem r_200_168 (l1 l2 l3 l4 l5 l6 l7 l8 l9 l10 l11 l12 l13 l14 l15 l16 l17 l18 l19 l20 l21 : Value) (a : Nat) (st : List Value) (ws : ai_W) : ai_Run 200 168 [.ref a, l1, l2, l3, l4, l5, l6, l7, l8, l9, l10, l11, l12, l13, l14, l15, l16, l17, l18, l19, l20, l21] st ws = ai_Run 200 169 [.ref a, l1, l2, l3, l4, l5, l6, l7, l8, l9, l10, l11, l12, l13, l14, l15, l16, l17, l18, l19, l20, l21] (.ref a :: st) ws := R_aload_n hc_200 dL_isWell_168 rfl rfl
theorem rx_200_168 (l1 l2 l3 l4 l5 l6 l7 l8 l9 l10 l11 l12 l13 l14 l15 l16 l17 l18 l19 l20 l21 : Value) {a : Nat} (hq : ¬ a = 23) (st : List Value) (ws : ai_W) : ai_Run 200 168 [.retAddr a, l1, l2, l3, l4, l5, l6, l7, l8, l9, l10, l11, l12, l13, l14, l15, l16, l17, l18, l19, l20, l21] st ws = ai_Run 200 169 [.retAddr a, l1, l2, l3, l4, l5, l6, l7, l8, l9, l10, l11, l12, l13, l14, l15, l16, l17, l18, l19, l20, l21] (.retAddr a :: st) ws := R_aload_nX hq hc_200 dL_isWell_168 rfl rfl
theorem r_200_169 (l0 l1 l2 l3 l4 l5 l6 l7 l9 l10 l11 l12 l13 l14 l15 l16 l17 l18 l19 l20 l21 : Value) (a : Int32) (st : List Value) (ws : ai_W) : ai_Run 200 169 [l0, l1, l2, l3, l4, l5, l6, l7, .int a, l9, l10, l11, l12, l13, l14, l15, l16, l17, l18, l19, l20, l21] st ws = ai_Run 200 171 [l0, l1, l2, l3, l4, l5, l6, l7, .int a, l9, l10, l11, l12, l13, l14, l15, l16, l17, l18, l19, l20, l21] (.int a :: st) ws := R_iload hc_200 dL_isWell_169 rfl rfl
theorem r_200_171 (l0 l1 l2 l3 l4 l5 l6 l7 l8 l9 l10 l11 l12 l13 l14 l16 l17 l18 l19 l20 l21 : Value) (a : Int32) (st : List Value) (ws : ai_W) : ai_Run 200 171 [l0, l1, l2, l3, l4, l5, l6, l7, l8, l9, l10, l11, l12, l13, l14, .int a, l16, l17, l18, l19, l20, l21] st ws = ai_Run 200 173 [l0, l1, l2, l3, l4, l5, l6, l7, l8, l9, l10, l11, l12, l13, l14, .int a, l16, l17, l18, l19, l20, l21] (.int a :: st) ws := R_iload hc_200 dL_isWell_171 rfl rfl
theorem r_200_173 (ls st : List Value) (ws : ai_W) : ai_Run 200 173 ls st ws = ai_Run 200 174 ls (.int 0 :: st) ws := R_iconst hc_200 dL_isWell_173 (by decide) rfl
theorem r_200_174 (ls : List Value) (r : Value) (b0 : Int32) (b1 : Int32) (b2 : Int32) (ws : ai_W) : ai_Run 200 174 ls [.int b2, .int b1, .int b0, r] ws = (ai_Call 108 [r, .int b0, .int b1, .int b2] ws).bind fun q => ai_Run 200 177 ls (q.1.toList ++ []) q.2 := R_callV hc_200 dL_isWell_174 hv_200 (w := 1125) rfl (ai_lt3 hf_108 hf_200 hL_108 ho_108 ho_200 rfl) hk_108 (by rw [hn_108]; rfl) rfl (Nat.le_of_ble_eq_true rfl) rfl
theorem r_200_177 (l0 l1 l2 l3 l4 l5 l6 l7 l8 l9 l10 l11 l12 l13 l14 l15 l16 l17 l18 l19 l20 l21 : Value) (a : Int32) (st : List Value) (ws : ai_W) : ai_Run 200 177 [l0, l1, l2, l3, l4, l5, l6, l7, l8, l9, l10, l11, l12, l13, l14, l15, l16, l17, l18, l19, l20, l21] (.int a :: st) ws = ai_Run 200 179 [l0, l1, l2, l3, l4, l5, l6, l7, l8, l9, l10, l11, l12, l13, l14, l15, .int a, l17, l18, l19, l20, l21] st ws := R_istore hc_200 dL_isWell_177 (Nat.le_of_ble_eq_true rfl) rfl rfl
theorem r_200_179 (l1 l2 l3 l4 l5 l6 l7 l8 l9 l10 l11 l12 l13 l14 l15 l16 l17 l18 l19 l20 l21 : Value) (a : Nat) (st : List Value) (ws : ai_W) : ai_Run 200 179 [.ref a, l1, l2, l3, l4, l5, l6, l7, l8, l9, l10, l11, l12, l13, l14, l15, l16, l17, l18, l19, l20, l21] st ws = ai_Run 200 180 [.ref a, l1, l2, l3, l4, l5, l6, l7, l8, l9, l10, l11, l12, l13, l14, l15, l16, l17, l18, l19, l20, l21] (.ref a :: st) ws := R_aload_n hc_200 dL_isWell_179 rfl rfl
theorem rx_200_179 (l1 l2 l3 l4 l5 l6 l7 l8 l9 l10 l11 l12 l13 l14 l15 l16 l17 l18 l19 l20 l21 : Value) {a : Nat} (hq : ¬ a = 23) (st : List Value) (ws : ai_W) : ai_Run 200 179 [.retAddr a, l1, l2, l3, l4, l5, l6, l7, l8, l9, l10, l11, l12, l13, l14, l15, l16, l17, l18, l19, l20, l21] st ws = ai_Run 200 180 [.retAddr a, l1, l2, l3, l4, l5, l6, l7, l8, l9, l10, l11, l12, l13, l14, l15, l16, l17, l18, l19, l20, l21] (.retAddr a :: st) ws := R_aload_nX hq hc_200 dL_isWell_179 rfl rfl
theorem r_200_180 (l0 l1 l2 l3 l4 l5 l6 l7 l9 l10 l11 l12 l13 l14 l15 l16 l17 l18 l19 l20 l21 : Value) (a : Int32) (st : List Value) (ws : ai_W) : ai_Run 200 180 [l0, l1, l2, l3, l4, l5, l6, l7, .int a, l9, l10, l11, l12, l13, l14, l15, l16, l17, l18, l19, l20, l21] st ws = ai_Run 200 182 [l0, l1, l2, l3, l4, l5, l6, l7, .int a, l9, l10, l11, l12, l13, l14, l15, l16, l17, l18, l19, l20, l21] (.int a :: st) ws := R_iload hc_200 dL_isWell_180 rfl rfl
theorem r_200_182 (l0 l1 l2 l3 l4 l5 l6 l7 l8 l9 l10 l11 l12 l13 l14 l16 l17 l18 l19 l20 l21 : Value) (a : Int32) (st : List Value) (ws : ai_W) : ai_Run 200 182 [l0, l1, l2, l3, l4, l5, l6, l7, l8, l9, l10, l11, l12, l13, l14, .int a, l16, l17, l18, l19, l20, l21] st ws = ai_Run 200 184 [l0, l1, l2, l3, l4, l5, l6, l7, l8, l9, l10, l11, l12, l13, l14, .int a, l16, l17, l18, l19, l20, l21] (.int a :: st) ws := R_iload hc_200 dL_isWell_182 rfl rfl
theorem r_200_184 (ls st : List Value) (ws : ai_W) : ai_Run 200 184 ls st ws = ai_Run 200 185 ls (.int 4 :: st) ws := R_iconst hc_200 dL_isWell_184 (by decide) rfl
theorem r_200_185 (ls : List Value) (r : Value) (b0 : Int32) (b1 : Int32) (b2 : Int32) (ws : ai_W) : ai_Run 200 185 ls [.int b2, .int b1, .int b0, r] ws = (ai_Call 108 [r, .int b0, .int b1, .int b2] ws).bind fun q => ai_Run 200 188 ls (q.1.toList ++ []) q.2 := R_callV hc_200 dL_isWell_185 hv_200 (w := 1125) rfl (ai_lt3 hf_108 hf_200 hL_108 ho_108 ho_200 rfl) hk_108 (by rw [hn_108]; rfl) rfl (Nat.le_of_ble_eq_true rfl) rfl
theorem r_200_188 (l0 l1 l2 l3 l4 l5 l6 l7 l8 l9 l10 l11 l12 l13 l14 l15 l16 l17 l18 l19 l20 l21 : Value) (a : Int32) (st : List Value) (ws : ai_W) : ai_Run 200 188 [l0, l1, l2, l3, l4, l5, l6, l7, l8, l9, l10, l11, l12, l13, l14, l15, l16, l17, l18, l19, l20, l21] (.int a :: st) ws = ai_Run 200 190 [l0, l1, l2, l3, l4, l5, l6, l7, l8, l9, l10, l11, l12, l13, l14, l15, l16, .int a, l18, l19, l20, l21] st ws := R_istore hc_200 dL_isWell_188 (Nat.le_of_ble_eq_true rfl) rfl rfl
theorem r_200_190 (l0 l1 l2 l3 l4 l5 l6 l7 l8 l9 l10 l11 l12 l13 l14 l15 l17 l18 l19 l20 l21 : Value) (a : Int32) (st : List Value) (ws : ai_W) : ai_Run 200 190 [l0, l1, l2, l3, l4, l5, l6, l7, l8, l9, l10, l11, l12, l13, l14, l15, .int a, l17, l18, l19, l20, l21] st ws = ai_Run 200 192 [l0, l1, l2, l3, l4, l5, l6, l7, l8, l9, l10, l11, l12, l13, l14, l15, .int a, l17, l18, l19, l20, l21] (.int a :: st) ws := R_iload hc_200 dL_isWell_190 rfl rfl
theorem r_200_192 (l0 l1 l2 l3 l4 l5 l6 l7 l8 l9 l10 l11 l12 l13 l15 l16 l17 l18 l19 l20 l21 : Value) (a : Int32) (st : List Value) (ws : ai_W) : ai_Run 200 192 [l0, l1, l2, l3, l4, l5, l6, l7, l8, l9, l10, l11, l12, l13, .int a, l15, l16, l17, l18, l19, l20, l21] st ws = ai_Run 200 194 [l0, l1, l2, l3, l4, l5, l6, l7, l8, l9, l10, l11, l12, l13, .int a, l15, l16, l17, l18, l19, l20, l21] (.int a :: st) ws := R_iload hc_200 dL_isWell_192 rfl rfl
theorem r_200_194 (ls st : List Value) (a b : Int32) (ws : ai_W) : ai_Run 200 194 ls (.int b :: .int a :: st) ws = if b < a then ai_Run 200 197 ls st ws else ai_Run 200 227 ls st ws := R_cmp_le hc_200 dL_isWell_194 rfl rfl
theorem r_200_197 (l0 l1 l2 l3 l4 l5 l6 l7 l8 l9 l10 l11 l12 l13 l14 l15 l16 l18 l19 l20 l21 : Value) (a : Int32) (st : List Value) (ws : ai_W) : ai_Run 200 197 [l0, l1, l2, l3, l4, l5, l6, l7, l8, l9, l10, l11, l12, l13, l14, l15, l16, .int a, l18, l19, l20, l21] st ws = ai_Run 200 199 [l0, l1, l2, l3, l4, l5, l6, l7, l8, l9, l10, l11, l12, l13, l14, l15, l16, .int a, l18, l19, l20, l21] (.int a :: st) ws := R_iload hc_200 dL_isWell_197 rfl rfl
theorem r_200_199 (ls st : List Value) (ws : ai_W) : ai_Run 200 199 ls st ws = ai_Run 200 201 ls (.int (-4) :: st) ws := R_bipush hc_200 dL_isWell_199 (by decide) rfl
theorem r_200_201 (ls st : List Value) (a b : Int32) (ws : ai_W) : ai_Run 200 201 ls (.int b :: .int a :: st) ws = if a = b then ai_Run 200 211 ls st ws else ai_Run 200 204 ls st ws := R_cmp_eq hc_200 dL_isWell_201 rfl rfl
theorem r_200_204 (l0 l1 l2 l3 l4 l5 l6 l7 l8 l9 l10 l11 l12 l13 l14 l15 l16 l18 l19 l20 l21 : Value) (a : Int32) (st : List Value) (ws : ai_W) : ai_Run 200 204 [l0, l1, l2, l3, l4, l5, l6, l7, l8, l9, l10, l11, l12, l13, l14, l15, l16, .int a, l18, l19, l20, l21] st ws = ai_Run 200 206 [l0, l1, l2, l3, l4, l5, l6, l7, l8, l9, l10, l11, l12, l13, l14, l15, l16, .int a, l18, l19, l20, l21] (.int a :: st) ws := R_iload hc_200 dL_isWell_204 rfl rfl
theorem r_200_206 (l0 l1 l2 l3 l4 l5 l6 l7 l8 l9 l10 l11 l12 l13 l14 l15 l17 l18 l19 l20 l21 : Value) (a : Int32) (st : List Value) (ws : ai_W) : ai_Run 200 206 [l0, l1, l2, l3, l4, l5, l6, l7, l8, l9, l10, l11, l12, l13, l14, l15, .int a, l17, l18, l19, l20, l21] st ws = ai_Run 200 208 [l0, l1, l2, l3, l4, l5, l6, l7, l8, l9, l10, l11, l12, l13, l14, l15, .int a, l17, l18, l19, l20, l21] (.int a :: st) ws := R_iload hc_200 dL_isWell_206 rfl rfl
theorem r_200_208 (ls st : List Value) (a b : Int32) (ws : ai_W) : ai_Run 200 208 ls (.int b :: .int a :: st) ws = if b < a then ai_Run 200 211 ls st ws else ai_Run 200 227 ls st ws := R_cmp_le hc_200 dL_isWell_208 rfl rfl
theorem r_200_211 (l0 l1 l2 l3 l4 l5 l6 l7 l8 l9 l10 l11 l12 l13 l14 l15 l16 l18 l19 l20 l21 : Value) (a : Int32) (st : List Value) (ws : ai_W) : ai_Run 200 211 [l0, l1, l2, l3, l4, l5, l6, l7, l8, l9, l10, l11, l12, l13, l14, l15, l16, .int a, l18, l19, l20, l21] st ws = ai_Run 200 213 [l0, l1, l2, l3, l4, l5, l6, l7, l8, l9, l10, l11, l12, l13, l14, l15, l16, .int a, l18, l19, l20, l21] (.int a :: st) ws := R_iload hc_200 dL_isWell_211 rfl rfl
theorem r_200_213 (ls st : List Value) (ws : ai_W) : ai_Run 200 213 ls st ws = ai_Run 200 215 ls (.int (-4) :: st) ws := R_bipush hc_200 dL_isWell_213 (by decide) rfl
theorem r_200_215 (ls st : List Value) (a b : Int32) (ws : ai_W) : ai_Run 200 215 ls (.int b :: .int a :: st) ws = if a = b then ai_Run 200 218 ls st ws else ai_Run 200 229 ls st ws := R_cmp_ne hc_200 dL_isWell_215 rfl rfl
theorem r_200_218 (l0 l1 l2 l3 l4 l5 l6 l7 l8 l9 l10 l11 l12 l13 l14 l16 l17 l18 l19 l20 l21 : Value) (a : Int32) (st : List Value) (ws : ai_W) : ai_Run 200 218 [l0, l1, l2, l3, l4, l5, l6, l7, l8, l9, l10, l11, l12, l13, l14, .int a, l16, l17, l18, l19, l20, l21] st ws = ai_Run 200 220 [l0, l1, l2, l3, l4, l5, l6, l7, l8, l9, l10, l11, l12, l13, l14, .int a, l16, l17, l18, l19, l20, l21] (.int a :: st) ws := R_iload hc_200 dL_isWell_218 rfl rfl
theorem r_200_220 (ls st : List Value) (ws : ai_W) : ai_Run 200 220 ls st ws = ai_Run 200 221 ls (.int 1 :: st) ws := R_iconst hc_200 dL_isWell_220 (by decide) rfl
theorem r_200_221 (ls st : List Value) (a b : Int32) (ws : ai_W) : ai_Run 200 221 ls (.int b :: .int a :: st) ws = ai_Run 200 222 ls (.int (a + b) :: st) ws := R_iadd hc_200 dL_isWell_221 rfl
theorem r_200_222 (l0 l1 l2 l3 l4 l5 l6 l7 l8 l10 l11 l12 l13 l14 l15 l16 l17 l18 l19 l20 l21 : Value) (a : Int32) (st : List Value) (ws : ai_W) : ai_Run 200 222 [l0, l1, l2, l3, l4, l5, l6, l7, l8, .int a, l10, l11, l12, l13, l14, l15, l16, l17, l18, l19, l20, l21] st ws = ai_Run 200 224 [l0, l1, l2, l3, l4, l5, l6, l7, l8, .int a, l10, l11, l12, l13, l14, l15, l16, l17, l18, l19, l20, l21] (.int a :: st) ws := R_iload hc_200 dL_isWell_222 rfl rfl
theorem r_200_224 (ls st : List Value) (a b : Int32) (ws : ai_W) : ai_Run 200 224 ls (.int b :: .int a :: st) ws = if a < b then ai_Run 200 227 ls st ws else ai_Run 200 229 ls st ws := R_cmp_ge hc_200 dL_isWell_224 rfl rfl
theorem r_200_227 (ls st : List Value) (ws : ai_W) : ai_Run 200 227 ls st ws = ai_Run 200 228 ls (.int 0 :: st) ws := R_iconst hc_200 dL_isWell_227 (by decide) rfl
theorem r_200_228 (ls : List Value) (x : Int32) (ws : ai_W) : ai_Run 200 228 ls [.int x] ws = if ai_pb x = true then some (some (.int x), ws) else none := R_zret hc_200 dL_isWell_228 ht_200
theorem r_200_229 (l0 l1 l2 l3 l4 l5 l6 l7 l8 l9 l10 l11 l12 l13 l14 l15 l16 l18 l19 l20 l21 : Value) (a : Int32) (st : List Value) (ws : ai_W) : ai_Run 200 229 [l0, l1, l2, l3, l4, l5, l6, l7, l8, l9, l10, l11, l12, l13, l14, l15, l16, .int a, l18, l19, l20, l21] st ws = ai_Run 200 231 [l0, l1, l2, l3, l4, l5, l6, l7, l8, l9, l10, l11, l12, l13, l14, l15, l16, .int a, l18, l19, l20, l21] (.int a :: st) ws := R_iload hc_200 dL_isWell_229 rfl rfl
theorem r_200_231 (l0 l1 l2 l3 l4 l5 l6 l7 l8 l9 l10 l11 l12 l13 l14 l15 l16 l17 l18 l19 l20 l21 : Value) (a : Int32) (st : List Value) (ws : ai_W) : ai_Run 200 231 [l0, l1, l2, l3, l4, l5, l6, l7, l8, l9, l10, l11, l12, l13, l14, l15, l16, l17, l18, l19, l20, l21] (.int a :: st) ws = ai_Run 200 233 [l0, l1, l2, l3, l4, l5, l6, l7, l8, l9, l10, l11, l12, l13, .int a, l15, l16, l17, l18, l19, l20, l21] st ws := R_istore hc_200 dL_isWell_231 (Nat.le_of_ble_eq_true rfl) rfl rfl
theorem r_200_233 (l0 l1 l2 l3 l4 l5 l6 l7 l8 l9 l11 l12 l13 l14 l15 l16 l17 l18 l19 l20 l21 : Value) (a : Int32) (st : List Value) (ws : ai_W) : ai_Run 200 233 [l0, l1, l2, l3, l4, l5, l6, l7, l8, l9, .int a, l11, l12, l13, l14, l15, l16, l17, l18, l19, l20, l21] st ws = ai_Run 200 235 [l0, l1, l2, l3, l4, l5, l6, l7, l8, l9, .int a, l11, l12, l13, l14, l15, l16, l17, l18, l19, l20, l21] (.int a :: st) ws := R_iload hc_200 dL_isWell_233 rfl rfl
theorem r_200_235 (l1 l2 l3 l4 l5 l6 l7 l8 l9 l10 l11 l12 l13 l14 l15 l16 l17 l18 l19 l20 l21 : Value) (a : Nat) (st : List Value) (ws : ai_W) : ai_Run 200 235 [.ref a, l1, l2, l3, l4, l5, l6, l7, l8, l9, l10, l11, l12, l13, l14, l15, l16, l17, l18, l19, l20, l21] st ws = ai_Run 200 236 [.ref a, l1, l2, l3, l4, l5, l6, l7, l8, l9, l10, l11, l12, l13, l14, l15, l16, l17, l18, l19, l20, l21] (.ref a :: st) ws := R_aload_n hc_200 dL_isWell_235 rfl rfl
theorem rx_200_235 (l1 l2 l3 l4 l5 l6 l7 l8 l9 l10 l11 l12 l13 l14 l15 l16 l17 l18 l19 l20 l21 : Value) {a : Nat} (hq : ¬ a = 23) (st : List Value) (ws : ai_W) : ai_Run 200 235 [.retAddr a, l1, l2, l3, l4, l5, l6, l7, l8, l9, l10, l11, l12, l13, l14, l15, l16, l17, l18, l19, l20, l21] st ws = ai_Run 200 236 [.retAddr a, l1, l2, l3, l4, l5, l6, l7, l8, l9, l10, l11, l12, l13, l14, l15, l16, l17, l18, l19, l20, l21] (.retAddr a :: st) ws := R_aload_nX hq hc_200 dL_isWell_235 rfl rfl
theorem r_200_236 (l0 l1 l2 l3 l4 l5 l6 l7 l9 l10 l11 l12 l13 l14 l15 l16 l17 l18 l19 l20 l21 : Value) (a : Int32) (st : List Value) (ws : ai_W) : ai_Run 200 236 [l0, l1, l2, l3, l4, l5, l6, l7, .int a, l9, l10, l11, l12, l13, l14, l15, l16, l17, l18, l19, l20, l21] st ws = ai_Run 200 238 [l0, l1, l2, l3, l4, l5, l6, l7, .int a, l9, l10, l11, l12, l13, l14, l15, l16, l17, l18, l19, l20, l21] (.int a :: st) ws := R_iload hc_200 dL_isWell_236 rfl rfl
theorem r_200_238 (l0 l1 l2 l3 l4 l5 l6 l7 l8 l9 l10 l11 l12 l13 l14 l16 l17 l18 l19 l20 l21 : Value) (a : Int32) (st : List Value) (ws : ai_W) : ai_Run 200 238 [l0, l1, l2, l3, l4, l5, l6, l7, l8, l9, l10, l11, l12, l13, l14, .int a, l16, l17, l18, l19, l20, l21] st ws = ai_Run 200 240 [l0, l1, l2, l3, l4, l5, l6, l7, l8, l9, l10, l11, l12, l13, l14, .int a, l16, l17, l18, l19, l20, l21] (.int a :: st) ws := R_iload hc_200 dL_isWell_238 rfl rfl
theorem r_200_240 (ls st : List Value) (ws : ai_W) : ai_Run 200 240 ls st ws = ai_Run 200 241 ls (.int 1 :: st) ws := R_iconst hc_200 dL_isWell_240 (by decide) rfl
theorem r_200_241 (ls : List Value) (r : Value) (b0 : Int32) (b1 : Int32) (b2 : Int32) (s0 : Value) (ws : ai_W) : ai_Run 200 241 ls [.int b2, .int b1, .int b0, r, s0] ws = (ai_Call 108 [r, .int b0, .int b1, .int b2] ws).bind fun q => ai_Run 200 244 ls (q.1.toList ++ [s0]) q.2 := R_callV hc_200 dL_isWell_241 hv_200 (w := 1125) rfl (ai_lt3 hf_108 hf_200 hL_108 ho_108 ho_200 rfl) hk_108 (by rw [hn_108]; rfl) rfl (Nat.le_of_ble_eq_true rfl) rfl
theorem r_200_244 (ls st : List Value) (ws : ai_W) : ai_Run 200 244 ls st ws = ai_Run 200 246 ls (.int (-4) :: st) ws := R_bipush hc_200 dL_isWell_244 (by decide) rfl
theorem r_200_246 (ls st : List Value) (a b : Int32) (ws : ai_W) : ai_Run 200 246 ls (.int b :: .int a :: st) ws = if a = b then ai_Run 200 249 ls st ws else ai_Run 200 253 ls st ws := R_cmp_ne hc_200 dL_isWell_246 rfl rfl
theorem r_200_249 (ls st : List Value) (ws : ai_W) : ai_Run 200 249 ls st ws = ai_Run 200 250 ls (.int 0 :: st) ws := R_iconst hc_200 dL_isWell_249 (by decide) rfl
theorem r_200_250 (ls st : List Value) (ws : ai_W) : ai_Run 200 250 ls st ws = ai_Run 200 254 ls st ws := R_goto hc_200 dL_isWell_250 rfl
theorem r_200_253 (ls st : List Value) (ws : ai_W) : ai_Run 200 253 ls st ws = ai_Run 200 254 ls (.int 1 :: st) ws := R_iconst hc_200 dL_isWell_253 (by decide) rfl
theorem r_200_254 (ls st : List Value) (a b : Int32) (ws : ai_W) : ai_Run 200 254 ls (.int b :: .int a :: st) ws = ai_Run 200 255 ls (.int (a + b) :: st) ws := R_iadd hc_200 dL_isWell_254 rfl
theorem r_200_255 (l0 l1 l2 l3 l4 l5 l6 l7 l8 l9 l10 l11 l12 l13 l14 l15 l16 l17 l18 l19 l20 l21 : Value) (a : Int32) (st : List Value) (ws : ai_W) : ai_Run 200 255 [l0, l1, l2, l3, l4, l5, l6, l7, l8, l9, l10, l11, l12, l13, l14, l15, l16, l17, l18, l19, l20, l21] (.int a :: st) ws = ai_Run 200 257 [l0, l1, l2, l3, l4, l5, l6, l7, l8, l9, .int a, l11, l12, l13, l14, l15, l16, l17, l18, l19, l20, l21] st ws := R_istore hc_200 dL_isWell_255 (Nat.le_of_ble_eq_true rfl) rfl rfl
theorem r_200_257 (ls st : List Value) (ws : ai_W) : ai_Run 200 257 ls st ws = ai_Run 200 259 ls (.int (-4) :: st) ws := R_bipush hc_200 dL_isWell_257 (by decide) rfl
theorem r_200_259 (l0 l1 l2 l3 l4 l5 l6 l7 l8 l9 l10 l11 l12 l13 l14 l15 l16 l17 l18 l19 l20 l21 : Value) (a : Int32) (st : List Value) (ws : ai_W) : ai_Run 200 259 [l0, l1, l2, l3, l4, l5, l6, l7, l8, l9, l10, l11, l12, l13, l14, l15, l16, l17, l18, l19, l20, l21] (.int a :: st) ws = ai_Run 200 261 [l0, l1, l2, l3, l4, l5, l6, l7, l8, l9, l10, l11, l12, l13, l14, l15, l16, l17, .int a, l19, l20, l21] st ws := R_istore hc_200 dL_isWell_259 (Nat.le_of_ble_eq_true rfl) rfl rfl
theorem r_200_261 (ls st : List Value) (ws : ai_W) : ai_Run 200 261 ls st ws = ai_Run 200 262 ls (.int 0 :: st) ws := R_iconst hc_200 dL_isWell_261 (by decide) rfl
theorem r_200_262 (l0 l1 l2 l3 l4 l5 l6 l7 l8 l9 l10 l11 l12 l13 l14 l15 l16 l17 l18 l19 l20 l21 : Value) (a : Int32) (st : List Value) (ws : ai_W) : ai_Run 200 262 [l0, l1, l2, l3, l4, l5, l6, l7, l8, l9, l10, l11, l12, l13, l14, l15, l16, l17, l18, l19, l20, l21] (.int a :: st) ws = ai_Run 200 264 [l0, l1, l2, l3, l4, l5, l6, l7, l8, l9, l10, l11, l12, l13, l14, l15, l16, l17, l18, .int a, l20, l21] st ws := R_istore hc_200 dL_isWell_262 (Nat.le_of_ble_eq_true rfl) rfl rfl
theorem r_200_264 (ls st : List Value) (ws : ai_W) : ai_Run 200 264 ls st ws = ai_Run 200 265 ls (.int 0 :: st) ws := R_iconst hc_200 dL_isWell_264 (by decide) rfl
theorem r_200_265 (l0 l1 l2 l3 l4 l5 l6 l7 l8 l9 l10 l11 l12 l13 l14 l15 l16 l17 l18 l19 l20 l21 : Value) (a : Int32) (st : List Value) (ws : ai_W) : ai_Run 200 265 [l0, l1, l2, l3, l4, l5, l6, l7, l8, l9, l10, l11, l12, l13, l14, l15, l16, l17, l18, l19, l20, l21] (.int a :: st) ws = ai_Run 200 267 [l0, l1, l2, l3, l4, l5, l6, l7, l8, l9, l10, l11, l12, l13, l14, l15, l16, l17, l18, l19, .int a, l21] st ws := R_istore hc_200 dL_isWell_265 (Nat.le_of_ble_eq_true rfl) rfl rfl
theorem r_200_267 (l0 l1 l2 l3 l4 l5 l6 l7 l8 l9 l10 l11 l12 l13 l14 l15 l16 l17 l18 l19 l21 : Value) (a : Int32) (st : List Value) (ws : ai_W) : ai_Run 200 267 [l0, l1, l2, l3, l4, l5, l6, l7, l8, l9, l10, l11, l12, l13, l14, l15, l16, l17, l18, l19, .int a, l21] st ws = ai_Run 200 269 [l0, l1, l2, l3, l4, l5, l6, l7, l8, l9, l10, l11, l12, l13, l14, l15, l16, l17, l18, l19, .int a, l21] (.int a :: st) ws := R_iload hc_200 dL_isWell_267 rfl rfl
theorem r_200_269 (l0 l2 l3 l4 l5 l6 l7 l8 l9 l10 l11 l12 l13 l14 l15 l16 l17 l18 l19 l20 l21 : Value) (a : Int32) (st : List Value) (ws : ai_W) : ai_Run 200 269 [l0, .int a, l2, l3, l4, l5, l6, l7, l8, l9, l10, l11, l12, l13, l14, l15, l16, l17, l18, l19, l20, l21] st ws = ai_Run 200 270 [l0, .int a, l2, l3, l4, l5, l6, l7, l8, l9, l10, l11, l12, l13, l14, l15, l16, l17, l18, l19, l20, l21] (.int a :: st) ws := R_iload_n hc_200 dL_isWell_269 rfl rfl
theorem r_200_270 (ls st : List Value) (a b : Int32) (ws : ai_W) : ai_Run 200 270 ls (.int b :: .int a :: st) ws = if a < b then ai_Run 200 273 ls st ws else ai_Run 200 344 ls st ws := R_cmp_ge hc_200 dL_isWell_270 rfl rfl
theorem r_200_273 (l1 l2 l3 l4 l5 l6 l7 l8 l9 l10 l11 l12 l13 l14 l15 l16 l17 l18 l19 l20 l21 : Value) (a : Nat) (st : List Value) (ws : ai_W) : ai_Run 200 273 [.ref a, l1, l2, l3, l4, l5, l6, l7, l8, l9, l10, l11, l12, l13, l14, l15, l16, l17, l18, l19, l20, l21] st ws = ai_Run 200 274 [.ref a, l1, l2, l3, l4, l5, l6, l7, l8, l9, l10, l11, l12, l13, l14, l15, l16, l17, l18, l19, l20, l21] (.ref a :: st) ws := R_aload_n hc_200 dL_isWell_273 rfl rfl
theorem rx_200_273 (l1 l2 l3 l4 l5 l6 l7 l8 l9 l10 l11 l12 l13 l14 l15 l16 l17 l18 l19 l20 l21 : Value) {a : Nat} (hq : ¬ a = 23) (st : List Value) (ws : ai_W) : ai_Run 200 273 [.retAddr a, l1, l2, l3, l4, l5, l6, l7, l8, l9, l10, l11, l12, l13, l14, l15, l16, l17, l18, l19, l20, l21] st ws = ai_Run 200 274 [.retAddr a, l1, l2, l3, l4, l5, l6, l7, l8, l9, l10, l11, l12, l13, l14, l15, l16, l17, l18, l19, l20, l21] (.retAddr a :: st) ws := R_aload_nX hq hc_200 dL_isWell_273 rfl rfl
theorem r_200_274 (l0 l1 l2 l3 l4 l5 l6 l7 l8 l9 l10 l11 l12 l13 l14 l15 l16 l17 l18 l19 l21 : Value) (a : Int32) (st : List Value) (ws : ai_W) : ai_Run 200 274 [l0, l1, l2, l3, l4, l5, l6, l7, l8, l9, l10, l11, l12, l13, l14, l15, l16, l17, l18, l19, .int a, l21] st ws = ai_Run 200 276 [l0, l1, l2, l3, l4, l5, l6, l7, l8, l9, l10, l11, l12, l13, l14, l15, l16, l17, l18, l19, .int a, l21] (.int a :: st) ws := R_iload hc_200 dL_isWell_274 rfl rfl
theorem r_200_276 (l0 l1 l2 l3 l4 l5 l6 l7 l9 l10 l11 l12 l13 l14 l15 l16 l17 l18 l19 l20 l21 : Value) (a : Int32) (st : List Value) (ws : ai_W) : ai_Run 200 276 [l0, l1, l2, l3, l4, l5, l6, l7, .int a, l9, l10, l11, l12, l13, l14, l15, l16, l17, l18, l19, l20, l21] st ws = ai_Run 200 278 [l0, l1, l2, l3, l4, l5, l6, l7, .int a, l9, l10, l11, l12, l13, l14, l15, l16, l17, l18, l19, l20, l21] (.int a :: st) ws := R_iload hc_200 dL_isWell_276 rfl rfl
theorem r_200_278 (l0 l1 l2 l3 l4 l5 l6 l7 l8 l9 l10 l11 l12 l13 l14 l16 l17 l18 l19 l20 l21 : Value) (a : Int32) (st : List Value) (ws : ai_W) : ai_Run 200 278 [l0, l1, l2, l3, l4, l5, l6, l7, l8, l9, l10, l11, l12, l13, l14, .int a, l16, l17, l18, l19, l20, l21] st ws = ai_Run 200 280 [l0, l1, l2, l3, l4, l5, l6, l7, l8, l9, l10, l11, l12, l13, l14, .int a, l16, l17, l18, l19, l20, l21] (.int a :: st) ws := R_iload hc_200 dL_isWell_278 rfl rfl
theorem r_200_280 (ls : List Value) (b0 : Value) (b1 : Int32) (b2 : Int32) (b3 : Int32) (ws : ai_W) : ai_Run 200 280 ls [.int b3, .int b2, .int b1, b0] ws = (ai_Call 167 [b0, .int b1, .int b2, .int b3] ws).bind fun q => ai_Run 200 283 ls (q.1.toList ++ []) q.2 := R_callS hc_200 dL_isWell_280 hv_200 (w := 1211) rfl (ai_lt3 hf_167 hf_200 hL_167 ho_167 ho_200 rfl) hk_167 (by rw [hn_167]; rfl) rfl (Nat.le_of_ble_eq_true rfl) rfl
theorem r_200_283 (l0 l1 l2 l3 l4 l5 l6 l7 l8 l9 l10 l11 l12 l13 l14 l15 l16 l17 l18 l19 l20 l21 : Value) (a : Int32) (st : List Value) (ws : ai_W) : ai_Run 200 283 [l0, l1, l2, l3, l4, l5, l6, l7, l8, l9, l10, l11, l12, l13, l14, l15, l16, l17, l18, l19, l20, l21] (.int a :: st) ws = ai_Run 200 285 [l0, l1, l2, l3, l4, l5, l6, l7, l8, l9, l10, l11, l12, l13, l14, l15, l16, l17, l18, l19, l20, .int a] st ws := R_istore hc_200 dL_isWell_283 (Nat.le_of_ble_eq_true rfl) rfl rfl
theorem r_200_285 (l0 l1 l2 l3 l4 l5 l6 l7 l8 l9 l10 l11 l12 l13 l14 l15 l16 l17 l18 l20 l21 : Value) (a : Int32) (st : List Value) (ws : ai_W) : ai_Run 200 285 [l0, l1, l2, l3, l4, l5, l6, l7, l8, l9, l10, l11, l12, l13, l14, l15, l16, l17, l18, .int a, l20, l21] st ws = ai_Run 200 287 [l0, l1, l2, l3, l4, l5, l6, l7, l8, l9, l10, l11, l12, l13, l14, l15, l16, l17, l18, .int a, l20, l21] (.int a :: st) ws := R_iload hc_200 dL_isWell_285 rfl rfl
theorem r_200_287 (l0 l1 l2 l3 l4 l5 l6 l7 l8 l9 l10 l11 l12 l13 l14 l15 l16 l17 l18 l19 l20 : Value) (a : Int32) (st : List Value) (ws : ai_W) : ai_Run 200 287 [l0, l1, l2, l3, l4, l5, l6, l7, l8, l9, l10, l11, l12, l13, l14, l15, l16, l17, l18, l19, l20, .int a] st ws = ai_Run 200 289 [l0, l1, l2, l3, l4, l5, l6, l7, l8, l9, l10, l11, l12, l13, l14, l15, l16, l17, l18, l19, l20, .int a] (.int a :: st) ws := R_iload hc_200 dL_isWell_287 rfl rfl
theorem r_200_289 (ls st : List Value) (a : Int32) (ws : ai_W) : ai_Run 200 289 ls (.int a :: st) ws = if a = 0 then ai_Run 200 296 ls st ws else ai_Run 200 292 ls st ws := R_if_eq hc_200 dL_isWell_289 rfl rfl
theorem r_200_292 (ls st : List Value) (ws : ai_W) : ai_Run 200 292 ls st ws = ai_Run 200 293 ls (.int 1 :: st) ws := R_iconst hc_200 dL_isWell_292 (by decide) rfl
theorem r_200_293 (ls st : List Value) (ws : ai_W) : ai_Run 200 293 ls st ws = ai_Run 200 297 ls st ws := R_goto hc_200 dL_isWell_293 rfl
theorem r_200_296 (ls st : List Value) (ws : ai_W) : ai_Run 200 296 ls st ws = ai_Run 200 297 ls (.int 0 :: st) ws := R_iconst hc_200 dL_isWell_296 (by decide) rfl
theorem r_200_297 (ls st : List Value) (a b : Int32) (ws : ai_W) : ai_Run 200 297 ls (.int b :: .int a :: st) ws = ai_Run 200 298 ls (.int (a + b) :: st) ws := R_iadd hc_200 dL_isWell_297 rfl
theorem r_200_298 (l0 l1 l2 l3 l4 l5 l6 l7 l8 l9 l10 l11 l12 l13 l14 l15 l16 l17 l18 l19 l20 l21 : Value) (a : Int32) (st : List Value) (ws : ai_W) : ai_Run 200 298 [l0, l1, l2, l3, l4, l5, l6, l7, l8, l9, l10, l11, l12, l13, l14, l15, l16, l17, l18, l19, l20, l21] (.int a :: st) ws = ai_Run 200 300 [l0, l1, l2, l3, l4, l5, l6, l7, l8, l9, l10, l11, l12, l13, l14, l15, l16, l17, l18, .int a, l20, l21] st ws := R_istore hc_200 dL_isWell_298 (Nat.le_of_ble_eq_true rfl) rfl rfl
theorem r_200_300 (l0 l1 l2 l3 l4 l5 l6 l7 l8 l9 l10 l11 l12 l13 l14 l15 l16 l17 l18 l19 l20 : Value) (a : Int32) (st : List Value) (ws : ai_W) : ai_Run 200 300 [l0, l1, l2, l3, l4, l5, l6, l7, l8, l9, l10, l11, l12, l13, l14, l15, l16, l17, l18, l19, l20, .int a] st ws = ai_Run 200 302 [l0, l1, l2, l3, l4, l5, l6, l7, l8, l9, l10, l11, l12, l13, l14, l15, l16, l17, l18, l19, l20, .int a] (.int a :: st) ws := R_iload hc_200 dL_isWell_300 rfl rfl
theorem r_200_302 (ls st : List Value) (a : Int32) (ws : ai_W) : ai_Run 200 302 ls (.int a :: st) ws = if a = 0 then ai_Run 200 334 ls st ws else ai_Run 200 305 ls st ws := R_if_eq hc_200 dL_isWell_302 rfl rfl
theorem r_200_305 (l0 l1 l2 l3 l4 l5 l6 l7 l8 l9 l10 l11 l12 l13 l14 l15 l16 l17 l19 l20 l21 : Value) (a : Int32) (st : List Value) (ws : ai_W) : ai_Run 200 305 [l0, l1, l2, l3, l4, l5, l6, l7, l8, l9, l10, l11, l12, l13, l14, l15, l16, l17, .int a, l19, l20, l21] st ws = ai_Run 200 307 [l0, l1, l2, l3, l4, l5, l6, l7, l8, l9, l10, l11, l12, l13, l14, l15, l16, l17, .int a, l19, l20, l21] (.int a :: st) ws := R_iload hc_200 dL_isWell_305 rfl rfl
theorem r_200_307 (ls st : List Value) (a : Int32) (ws : ai_W) : ai_Run 200 307 ls (.int a :: st) ws = if a < 0 then ai_Run 200 329 ls st ws else ai_Run 200 310 ls st ws := R_if_lt hc_200 dL_isWell_307 rfl rfl
theorem r_200_310 (l1 l2 l3 l4 l5 l6 l7 l8 l9 l10 l11 l12 l13 l14 l15 l16 l17 l18 l19 l20 l21 : Value) (a : Nat) (st : List Value) (ws : ai_W) : ai_Run 200 310 [.ref a, l1, l2, l3, l4, l5, l6, l7, l8, l9, l10, l11, l12, l13, l14, l15, l16, l17, l18, l19, l20, l21] st ws = ai_Run 200 311 [.ref a, l1, l2, l3, l4, l5, l6, l7, l8, l9, l10, l11, l12, l13, l14, l15, l16, l17, l18, l19, l20, l21] (.ref a :: st) ws := R_aload_n hc_200 dL_isWell_310 rfl rfl
theorem rx_200_310 (l1 l2 l3 l4 l5 l6 l7 l8 l9 l10 l11 l12 l13 l14 l15 l16 l17 l18 l19 l20 l21 : Value) {a : Nat} (hq : ¬ a = 23) (st : List Value) (ws : ai_W) : ai_Run 200 310 [.retAddr a, l1, l2, l3, l4, l5, l6, l7, l8, l9, l10, l11, l12, l13, l14, l15, l16, l17, l18, l19, l20, l21] st ws = ai_Run 200 311 [.retAddr a, l1, l2, l3, l4, l5, l6, l7, l8, l9, l10, l11, l12, l13, l14, l15, l16, l17, l18, l19, l20, l21] (.retAddr a :: st) ws := R_aload_nX hq hc_200 dL_isWell_310 rfl rfl
theorem r_200_311 (l0 l1 l2 l3 l4 l5 l6 l7 l8 l9 l10 l11 l12 l13 l14 l15 l16 l17 l18 l19 l21 : Value) (a : Int32) (st : List Value) (ws : ai_W) : ai_Run 200 311 [l0, l1, l2, l3, l4, l5, l6, l7, l8, l9, l10, l11, l12, l13, l14, l15, l16, l17, l18, l19, .int a, l21] st ws = ai_Run 200 313 [l0, l1, l2, l3, l4, l5, l6, l7, l8, l9, l10, l11, l12, l13, l14, l15, l16, l17, l18, l19, .int a, l21] (.int a :: st) ws := R_iload hc_200 dL_isWell_311 rfl rfl
theorem r_200_313 (l0 l1 l2 l3 l4 l5 l6 l7 l9 l10 l11 l12 l13 l14 l15 l16 l17 l18 l19 l20 l21 : Value) (a : Int32) (st : List Value) (ws : ai_W) : ai_Run 200 313 [l0, l1, l2, l3, l4, l5, l6, l7, .int a, l9, l10, l11, l12, l13, l14, l15, l16, l17, l18, l19, l20, l21] st ws = ai_Run 200 315 [l0, l1, l2, l3, l4, l5, l6, l7, .int a, l9, l10, l11, l12, l13, l14, l15, l16, l17, l18, l19, l20, l21] (.int a :: st) ws := R_iload hc_200 dL_isWell_313 rfl rfl
theorem r_200_315 (ls : List Value) (r : Value) (b0 : Int32) (b1 : Int32) (ws : ai_W) : ai_Run 200 315 ls [.int b1, .int b0, r] ws = (ai_Call 119 [r, .int b0, .int b1] ws).bind fun q => ai_Run 200 318 ls (q.1.toList ++ []) q.2 := R_callV hc_200 dL_isWell_315 hv_200 (w := 1136) rfl (ai_lt3 hf_119 hf_200 hL_119 ho_119 ho_200 rfl) hk_119 (by rw [hn_119]; rfl) rfl (Nat.le_of_ble_eq_true rfl) rfl
theorem r_200_318 (l1 l2 l3 l4 l5 l6 l7 l8 l9 l10 l11 l12 l13 l14 l15 l16 l17 l18 l19 l20 l21 : Value) (a : Nat) (st : List Value) (ws : ai_W) : ai_Run 200 318 [.ref a, l1, l2, l3, l4, l5, l6, l7, l8, l9, l10, l11, l12, l13, l14, l15, l16, l17, l18, l19, l20, l21] st ws = ai_Run 200 319 [.ref a, l1, l2, l3, l4, l5, l6, l7, l8, l9, l10, l11, l12, l13, l14, l15, l16, l17, l18, l19, l20, l21] (.ref a :: st) ws := R_aload_n hc_200 dL_isWell_318 rfl rfl
theorem rx_200_318 (l1 l2 l3 l4 l5 l6 l7 l8 l9 l10 l11 l12 l13 l14 l15 l16 l17 l18 l19 l20 l21 : Value) {a : Nat} (hq : ¬ a = 23) (st : List Value) (ws : ai_W) : ai_Run 200 318 [.retAddr a, l1, l2, l3, l4, l5, l6, l7, l8, l9, l10, l11, l12, l13, l14, l15, l16, l17, l18, l19, l20, l21] st ws = ai_Run 200 319 [.retAddr a, l1, l2, l3, l4, l5, l6, l7, l8, l9, l10, l11, l12, l13, l14, l15, l16, l17, l18, l19, l20, l21] (.retAddr a :: st) ws := R_aload_nX hq hc_200 dL_isWell_318 rfl rfl
theorem r_200_319 (l0 l1 l2 l3 l4 l5 l6 l7 l8 l9 l10 l11 l12 l13 l14 l15 l16 l17 l19 l20 l21 : Value) (a : Int32) (st : List Value) (ws : ai_W) : ai_Run 200 319 [l0, l1, l2, l3, l4, l5, l6, l7, l8, l9, l10, l11, l12, l13, l14, l15, l16, l17, .int a, l19, l20, l21] st ws = ai_Run 200 321 [l0, l1, l2, l3, l4, l5, l6, l7, l8, l9, l10, l11, l12, l13, l14, l15, l16, l17, .int a, l19, l20, l21] (.int a :: st) ws := R_iload hc_200 dL_isWell_319 rfl rfl
theorem r_200_321 (l0 l1 l2 l3 l4 l5 l6 l7 l9 l10 l11 l12 l13 l14 l15 l16 l17 l18 l19 l20 l21 : Value) (a : Int32) (st : List Value) (ws : ai_W) : ai_Run 200 321 [l0, l1, l2, l3, l4, l5, l6, l7, .int a, l9, l10, l11, l12, l13, l14, l15, l16, l17, l18, l19, l20, l21] st ws = ai_Run 200 323 [l0, l1, l2, l3, l4, l5, l6, l7, .int a, l9, l10, l11, l12, l13, l14, l15, l16, l17, l18, l19, l20, l21] (.int a :: st) ws := R_iload hc_200 dL_isWell_321 rfl rfl
theorem r_200_323 (ls : List Value) (r : Value) (b0 : Int32) (b1 : Int32) (s0 : Value) (ws : ai_W) : ai_Run 200 323 ls [.int b1, .int b0, r, s0] ws = (ai_Call 119 [r, .int b0, .int b1] ws).bind fun q => ai_Run 200 326 ls (q.1.toList ++ [s0]) q.2 := R_callV hc_200 dL_isWell_323 hv_200 (w := 1136) rfl (ai_lt3 hf_119 hf_200 hL_119 ho_119 ho_200 rfl) hk_119 (by rw [hn_119]; rfl) rfl (Nat.le_of_ble_eq_true rfl) rfl
theorem r_200_326 (ls st : List Value) (a b : Int32) (ws : ai_W) : ai_Run 200 326 ls (.int b :: .int a :: st) ws = if b < a then ai_Run 200 329 ls st ws else ai_Run 200 334 ls st ws := R_cmp_le hc_200 dL_isWell_326 rfl rfl
theorem r_200_329 (l0 l1 l2 l3 l4 l5 l6 l7 l8 l9 l10 l11 l12 l13 l14 l15 l16 l17 l18 l19 l21 : Value) (a : Int32) (st : List Value) (ws : ai_W) : ai_Run 200 329 [l0, l1, l2, l3, l4, l5, l6, l7, l8, l9, l10, l11, l12, l13, l14, l15, l16, l17, l18, l19, .int a, l21] st ws = ai_Run 200 331 [l0, l1, l2, l3, l4, l5, l6, l7, l8, l9, l10, l11, l12, l13, l14, l15, l16, l17, l18, l19, .int a, l21] (.int a :: st) ws := R_iload hc_200 dL_isWell_329 rfl rfl
theorem r_200_331 (ls st : List Value) (ws : ai_W) : ai_Run 200 331 ls st ws = ai_Run 200 336 ls st ws := R_goto hc_200 dL_isWell_331 rfl
theorem r_200_334 (l0 l1 l2 l3 l4 l5 l6 l7 l8 l9 l10 l11 l12 l13 l14 l15 l16 l17 l19 l20 l21 : Value) (a : Int32) (st : List Value) (ws : ai_W) : ai_Run 200 334 [l0, l1, l2, l3, l4, l5, l6, l7, l8, l9, l10, l11, l12, l13, l14, l15, l16, l17, .int a, l19, l20, l21] st ws = ai_Run 200 336 [l0, l1, l2, l3, l4, l5, l6, l7, l8, l9, l10, l11, l12, l13, l14, l15, l16, l17, .int a, l19, l20, l21] (.int a :: st) ws := R_iload hc_200 dL_isWell_334 rfl rfl
theorem r_200_336 (l0 l1 l2 l3 l4 l5 l6 l7 l8 l9 l10 l11 l12 l13 l14 l15 l16 l17 l18 l19 l20 l21 : Value) (a : Int32) (st : List Value) (ws : ai_W) : ai_Run 200 336 [l0, l1, l2, l3, l4, l5, l6, l7, l8, l9, l10, l11, l12, l13, l14, l15, l16, l17, l18, l19, l20, l21] (.int a :: st) ws = ai_Run 200 338 [l0, l1, l2, l3, l4, l5, l6, l7, l8, l9, l10, l11, l12, l13, l14, l15, l16, l17, .int a, l19, l20, l21] st ws := R_istore hc_200 dL_isWell_336 (Nat.le_of_ble_eq_true rfl) rfl rfl
theorem r_200_338 (l0 l1 l2 l3 l4 l5 l6 l7 l8 l9 l10 l11 l12 l13 l14 l15 l16 l17 l18 l19 l21 : Value) (a : Int32) (st : List Value) (ws : ai_W) : ai_Run 200 338 [l0, l1, l2, l3, l4, l5, l6, l7, l8, l9, l10, l11, l12, l13, l14, l15, l16, l17, l18, l19, .int a, l21] st ws = ai_Run 200 341 [l0, l1, l2, l3, l4, l5, l6, l7, l8, l9, l10, l11, l12, l13, l14, l15, l16, l17, l18, l19, .int (a + 1), l21] st ws := R_iinc hc_200 dL_isWell_338 rfl (by decide) rfl rfl
theorem r_200_341 (ls st : List Value) (ws : ai_W) : ai_Run 200 341 ls st ws = ai_Run 200 267 ls st ws := R_goto hc_200 dL_isWell_341 rfl
theorem r_200_344 (l1 l2 l3 l4 l5 l6 l7 l8 l9 l10 l11 l12 l13 l14 l15 l16 l17 l18 l19 l20 l21 : Value) (a : Nat) (st : List Value) (ws : ai_W) : ai_Run 200 344 [.ref a, l1, l2, l3, l4, l5, l6, l7, l8, l9, l10, l11, l12, l13, l14, l15, l16, l17, l18, l19, l20, l21] st ws = ai_Run 200 345 [.ref a, l1, l2, l3, l4, l5, l6, l7, l8, l9, l10, l11, l12, l13, l14, l15, l16, l17, l18, l19, l20, l21] (.ref a :: st) ws := R_aload_n hc_200 dL_isWell_344 rfl rfl
theorem rx_200_344 (l1 l2 l3 l4 l5 l6 l7 l8 l9 l10 l11 l12 l13 l14 l15 l16 l17 l18 l19 l20 l21 : Value) {a : Nat} (hq : ¬ a = 23) (st : List Value) (ws : ai_W) : ai_Run 200 344 [.retAddr a, l1, l2, l3, l4, l5, l6, l7, l8, l9, l10, l11, l12, l13, l14, l15, l16, l17, l18, l19, l20, l21] st ws = ai_Run 200 345 [.retAddr a, l1, l2, l3, l4, l5, l6, l7, l8, l9, l10, l11, l12, l13, l14, l15, l16, l17, l18, l19, l20, l21] (.retAddr a :: st) ws := R_aload_nX hq hc_200 dL_isWell_344 rfl rfl
theorem r_200_345 (l0 l1 l2 l3 l4 l5 l6 l7 l9 l10 l11 l12 l13 l14 l15 l16 l17 l18 l19 l20 l21 : Value) (a : Int32) (st : List Value) (ws : ai_W) : ai_Run 200 345 [l0, l1, l2, l3, l4, l5, l6, l7, .int a, l9, l10, l11, l12, l13, l14, l15, l16, l17, l18, l19, l20, l21] st ws = ai_Run 200 347 [l0, l1, l2, l3, l4, l5, l6, l7, .int a, l9, l10, l11, l12, l13, l14, l15, l16, l17, l18, l19, l20, l21] (.int a :: st) ws := R_iload hc_200 dL_isWell_345 rfl rfl
theorem r_200_347 (l0 l1 l2 l3 l4 l5 l6 l7 l8 l9 l10 l11 l12 l13 l14 l16 l17 l18 l19 l20 l21 : Value) (a : Int32) (st : List Value) (ws : ai_W) : ai_Run 200 347 [l0, l1, l2, l3, l4, l5, l6, l7, l8, l9, l10, l11, l12, l13, l14, .int a, l16, l17, l18, l19, l20, l21] st ws = ai_Run 200 349 [l0, l1, l2, l3, l4, l5, l6, l7, l8, l9, l10, l11, l12, l13, l14, .int a, l16, l17, l18, l19, l20, l21] (.int a :: st) ws := R_iload hc_200 dL_isWell_347 rfl rfl
theorem r_200_349 (ls st : List Value) (ws : ai_W) : ai_Run 200 349 ls st ws = ai_Run 200 350 ls (.int 3 :: st) ws := R_iconst hc_200 dL_isWell_349 (by decide) rfl
theorem r_200_350 (ls : List Value) (r : Value) (b0 : Int32) (b1 : Int32) (b2 : Int32) (ws : ai_W) : ai_Run 200 350 ls [.int b2, .int b1, .int b0, r] ws = (ai_Call 108 [r, .int b0, .int b1, .int b2] ws).bind fun q => ai_Run 200 353 ls (q.1.toList ++ []) q.2 := R_callV hc_200 dL_isWell_350 hv_200 (w := 1125) rfl (ai_lt3 hf_108 hf_200 hL_108 ho_108 ho_200 rfl) hk_108 (by rw [hn_108]; rfl) rfl (Nat.le_of_ble_eq_true rfl) rfl
theorem r_200_353 (l0 l1 l2 l3 l4 l5 l6 l7 l8 l9 l10 l11 l12 l13 l14 l15 l16 l17 l18 l20 l21 : Value) (a : Int32) (st : List Value) (ws : ai_W) : ai_Run 200 353 [l0, l1, l2, l3, l4, l5, l6, l7, l8, l9, l10, l11, l12, l13, l14, l15, l16, l17, l18, .int a, l20, l21] st ws = ai_Run 200 355 [l0, l1, l2, l3, l4, l5, l6, l7, l8, l9, l10, l11, l12, l13, l14, l15, l16, l17, l18, .int a, l20, l21] (.int a :: st) ws := R_iload hc_200 dL_isWell_353 rfl rfl
theorem r_200_355 (ls st : List Value) (a b : Int32) (ws : ai_W) : ai_Run 200 355 ls (.int b :: .int a :: st) ws = if a = b then ai_Run 200 358 ls st ws else ai_Run 200 384 ls st ws := R_cmp_ne hc_200 dL_isWell_355 rfl rfl
theorem r_200_358 (l1 l2 l3 l4 l5 l6 l7 l8 l9 l10 l11 l12 l13 l14 l15 l16 l17 l18 l19 l20 l21 : Value) (a : Nat) (st : List Value) (ws : ai_W) : ai_Run 200 358 [.ref a, l1, l2, l3, l4, l5, l6, l7, l8, l9, l10, l11, l12, l13, l14, l15, l16, l17, l18, l19, l20, l21] st ws = ai_Run 200 359 [.ref a, l1, l2, l3, l4, l5, l6, l7, l8, l9, l10, l11, l12, l13, l14, l15, l16, l17, l18, l19, l20, l21] (.ref a :: st) ws := R_aload_n hc_200 dL_isWell_358 rfl rfl
theorem rx_200_358 (l1 l2 l3 l4 l5 l6 l7 l8 l9 l10 l11 l12 l13 l14 l15 l16 l17 l18 l19 l20 l21 : Value) {a : Nat} (hq : ¬ a = 23) (st : List Value) (ws : ai_W) : ai_Run 200 358 [.retAddr a, l1, l2, l3, l4, l5, l6, l7, l8, l9, l10, l11, l12, l13, l14, l15, l16, l17, l18, l19, l20, l21] st ws = ai_Run 200 359 [.retAddr a, l1, l2, l3, l4, l5, l6, l7, l8, l9, l10, l11, l12, l13, l14, l15, l16, l17, l18, l19, l20, l21] (.retAddr a :: st) ws := R_aload_nX hq hc_200 dL_isWell_358 rfl rfl
theorem r_200_359 (l0 l1 l2 l3 l4 l5 l6 l7 l9 l10 l11 l12 l13 l14 l15 l16 l17 l18 l19 l20 l21 : Value) (a : Int32) (st : List Value) (ws : ai_W) : ai_Run 200 359 [l0, l1, l2, l3, l4, l5, l6, l7, .int a, l9, l10, l11, l12, l13, l14, l15, l16, l17, l18, l19, l20, l21] st ws = ai_Run 200 361 [l0, l1, l2, l3, l4, l5, l6, l7, .int a, l9, l10, l11, l12, l13, l14, l15, l16, l17, l18, l19, l20, l21] (.int a :: st) ws := R_iload hc_200 dL_isWell_359 rfl rfl
theorem r_200_361 (l0 l1 l2 l3 l4 l5 l6 l7 l8 l9 l10 l11 l12 l13 l14 l16 l17 l18 l19 l20 l21 : Value) (a : Int32) (st : List Value) (ws : ai_W) : ai_Run 200 361 [l0, l1, l2, l3, l4, l5, l6, l7, l8, l9, l10, l11, l12, l13, l14, .int a, l16, l17, l18, l19, l20, l21] st ws = ai_Run 200 363 [l0, l1, l2, l3, l4, l5, l6, l7, l8, l9, l10, l11, l12, l13, l14, .int a, l16, l17, l18, l19, l20, l21] (.int a :: st) ws := R_iload hc_200 dL_isWell_361 rfl rfl
theorem r_200_363 (ls : List Value) (r : Value) (b0 : Int32) (b1 : Int32) (ws : ai_W) : ai_Run 200 363 ls [.int b1, .int b0, r] ws = (ai_Call 148 [r, .int b0, .int b1] ws).bind fun q => ai_Run 200 366 ls (q.1.toList ++ []) q.2 := R_callV hc_200 dL_isWell_363 hv_200 (w := 1214) rfl (ai_lt3 hf_148 hf_200 hL_148 ho_148 ho_200 rfl) hk_148 (by rw [hn_148]; rfl) rfl (Nat.le_of_ble_eq_true rfl) rfl
theorem r_200_366 (l0 l1 l2 l3 l4 l5 l6 l7 l8 l9 l10 l11 l12 l13 l14 l15 l16 l17 l19 l20 l21 : Value) (a : Int32) (st : List Value) (ws : ai_W) : ai_Run 200 366 [l0, l1, l2, l3, l4, l5, l6, l7, l8, l9, l10, l11, l12, l13, l14, l15, l16, l17, .int a, l19, l20, l21] st ws = ai_Run 200 368 [l0, l1, l2, l3, l4, l5, l6, l7, l8, l9, l10, l11, l12, l13, l14, l15, l16, l17, .int a, l19, l20, l21] (.int a :: st) ws := R_iload hc_200 dL_isWell_366 rfl rfl
theorem r_200_368 (ls st : List Value) (a b : Int32) (ws : ai_W) : ai_Run 200 368 ls (.int b :: .int a :: st) ws = if a = b then ai_Run 200 371 ls st ws else ai_Run 200 384 ls st ws := R_cmp_ne hc_200 dL_isWell_368 rfl rfl
theorem r_200_371 (l1 l2 l3 l4 l5 l6 l7 l8 l9 l10 l11 l12 l13 l14 l15 l16 l17 l18 l19 l20 l21 : Value) (a : Nat) (st : List Value) (ws : ai_W) : ai_Run 200 371 [.ref a, l1, l2, l3, l4, l5, l6, l7, l8, l9, l10, l11, l12, l13, l14, l15, l16, l17, l18, l19, l20, l21] st ws = ai_Run 200 372 [.ref a, l1, l2, l3, l4, l5, l6, l7, l8, l9, l10, l11, l12, l13, l14, l15, l16, l17, l18, l19, l20, l21] (.ref a :: st) ws := R_aload_n hc_200 dL_isWell_371 rfl rfl
theorem rx_200_371 (l1 l2 l3 l4 l5 l6 l7 l8 l9 l10 l11 l12 l13 l14 l15 l16 l17 l18 l19 l20 l21 : Value) {a : Nat} (hq : ¬ a = 23) (st : List Value) (ws : ai_W) : ai_Run 200 371 [.retAddr a, l1, l2, l3, l4, l5, l6, l7, l8, l9, l10, l11, l12, l13, l14, l15, l16, l17, l18, l19, l20, l21] st ws = ai_Run 200 372 [.retAddr a, l1, l2, l3, l4, l5, l6, l7, l8, l9, l10, l11, l12, l13, l14, l15, l16, l17, l18, l19, l20, l21] (.retAddr a :: st) ws := R_aload_nX hq hc_200 dL_isWell_371 rfl rfl
theorem r_200_372 (l0 l1 l2 l3 l4 l5 l6 l7 l9 l10 l11 l12 l13 l14 l15 l16 l17 l18 l19 l20 l21 : Value) (a : Int32) (st : List Value) (ws : ai_W) : ai_Run 200 372 [l0, l1, l2, l3, l4, l5, l6, l7, .int a, l9, l10, l11, l12, l13, l14, l15, l16, l17, l18, l19, l20, l21] st ws = ai_Run 200 374 [l0, l1, l2, l3, l4, l5, l6, l7, .int a, l9, l10, l11, l12, l13, l14, l15, l16, l17, l18, l19, l20, l21] (.int a :: st) ws := R_iload hc_200 dL_isWell_372 rfl rfl
theorem r_200_374 (l0 l1 l2 l3 l4 l5 l6 l7 l8 l9 l10 l11 l12 l13 l14 l16 l17 l18 l19 l20 l21 : Value) (a : Int32) (st : List Value) (ws : ai_W) : ai_Run 200 374 [l0, l1, l2, l3, l4, l5, l6, l7, l8, l9, l10, l11, l12, l13, l14, .int a, l16, l17, l18, l19, l20, l21] st ws = ai_Run 200 376 [l0, l1, l2, l3, l4, l5, l6, l7, l8, l9, l10, l11, l12, l13, l14, .int a, l16, l17, l18, l19, l20, l21] (.int a :: st) ws := R_iload hc_200 dL_isWell_374 rfl rfl
theorem r_200_376 (ls : List Value) (r : Value) (b0 : Int32) (b1 : Int32) (ws : ai_W) : ai_Run 200 376 ls [.int b1, .int b0, r] ws = (ai_Call 149 [r, .int b0, .int b1] ws).bind fun q => ai_Run 200 379 ls (q.1.toList ++ []) q.2 := R_callV hc_200 dL_isWell_376 hv_200 (w := 1222) rfl (ai_lt3 hf_149 hf_200 hL_149 ho_149 ho_200 rfl) hk_149 (by rw [hn_149]; rfl) rfl (Nat.le_of_ble_eq_true rfl) rfl
theorem r_200_379 (l0 l1 l2 l3 l4 l5 l6 l7 l8 l9 l10 l11 l12 l13 l14 l15 l16 l17 l19 l20 l21 : Value) (a : Int32) (st : List Value) (ws : ai_W) : ai_Run 200 379 [l0, l1, l2, l3, l4, l5, l6, l7, l8, l9, l10, l11, l12, l13, l14, l15, l16, l17, .int a, l19, l20, l21] st ws = ai_Run 200 381 [l0, l1, l2, l3, l4, l5, l6, l7, l8, l9, l10, l11, l12, l13, l14, l15, l16, l17, .int a, l19, l20, l21] (.int a :: st) ws := R_iload hc_200 dL_isWell_379 rfl rfl
theorem r_200_381 (ls st : List Value) (a b : Int32) (ws : ai_W) : ai_Run 200 381 ls (.int b :: .int a :: st) ws = if a = b then ai_Run 200 386 ls st ws else ai_Run 200 384 ls st ws := R_cmp_eq hc_200 dL_isWell_381 rfl rfl
theorem r_200_384 (ls st : List Value) (ws : ai_W) : ai_Run 200 384 ls st ws = ai_Run 200 385 ls (.int 0 :: st) ws := R_iconst hc_200 dL_isWell_384 (by decide) rfl
theorem r_200_385 (ls : List Value) (x : Int32) (ws : ai_W) : ai_Run 200 385 ls [.int x] ws = if ai_pb x = true then some (some (.int x), ws) else none := R_zret hc_200 dL_isWell_385 ht_200
theorem r_200_386 (l0 l1 l2 l3 l4 l5 l6 l7 l8 l9 l10 l11 l12 l13 l14 l16 l17 l18 l19 l20 l21 : Value) (a : Int32) (st : List Value) (ws : ai_W) : ai_Run 200 386 [l0, l1, l2, l3, l4, l5, l6, l7, l8, l9, l10, l11, l12, l13, l14, .int a, l16, l17, l18, l19, l20, l21] st ws = ai_Run 200 389 [l0, l1, l2, l3, l4, l5, l6, l7, l8, l9, l10, l11, l12, l13, l14, .int (a + 1), l16, l17, l18, l19, l20, l21] st ws := R_iinc hc_200 dL_isWell_386 rfl (by decide) rfl rfl
theorem r_200_389 (ls st : List Value) (ws : ai_W) : ai_Run 200 389 ls st ws = ai_Run 200 161 ls st ws := R_goto hc_200 dL_isWell_389 rfl
theorem r_200_392 (ls st : List Value) (ws : ai_W) : ai_Run 200 392 ls st ws = ai_Run 200 393 ls (.int 1 :: st) ws := R_iconst hc_200 dL_isWell_392 (by decide) rfl
theorem r_200_393 (l0 l1 l2 l3 l4 l5 l6 l7 l8 l9 l10 l11 l12 l13 l14 l15 l16 l17 l18 l19 l20 l21 : Value) (a : Int32) (st : List Value) (ws : ai_W) : ai_Run 200 393 [l0, l1, l2, l3, l4, l5, l6, l7, l8, l9, l10, l11, l12, l13, l14, l15, l16, l17, l18, l19, l20, l21] (.int a :: st) ws = ai_Run 200 395 [l0, l1, l2, l3, l4, l5, l6, l7, l8, l9, l10, l11, l12, l13, l14, .int a, l16, l17, l18, l19, l20, l21] st ws := R_istore hc_200 dL_isWell_393 (Nat.le_of_ble_eq_true rfl) rfl rfl
theorem r_200_395 (l0 l1 l2 l3 l4 l5 l6 l7 l8 l9 l10 l11 l12 l13 l14 l16 l17 l18 l19 l20 l21 : Value) (a : Int32) (st : List Value) (ws : ai_W) : ai_Run 200 395 [l0, l1, l2, l3, l4, l5, l6, l7, l8, l9, l10, l11, l12, l13, l14, .int a, l16, l17, l18, l19, l20, l21] st ws = ai_Run 200 397 [l0, l1, l2, l3, l4, l5, l6, l7, l8, l9, l10, l11, l12, l13, l14, .int a, l16, l17, l18, l19, l20, l21] (.int a :: st) ws := R_iload hc_200 dL_isWell_395 rfl rfl
theorem r_200_397 (ls st : List Value) (ws : ai_W) : ai_Run 200 397 ls st ws = ai_Run 200 399 ls (.int 30 :: st) ws := R_bipush hc_200 dL_isWell_397 (by decide) rfl
theorem r_200_399 (ls st : List Value) (a b : Int32) (ws : ai_W) : ai_Run 200 399 ls (.int b :: .int a :: st) ws = if b < a then ai_Run 200 429 ls st ws else ai_Run 200 402 ls st ws := R_cmp_gt hc_200 dL_isWell_399 rfl rfl
theorem r_200_402 (l0 l1 l2 l3 l4 l5 l6 l7 l8 l9 l10 l12 l13 l14 l15 l16 l17 l18 l19 l20 l21 : Value) (a : Int32) (st : List Value) (ws : ai_W) : ai_Run 200 402 [l0, l1, l2, l3, l4, l5, l6, l7, l8, l9, l10, .int a, l12, l13, l14, l15, l16, l17, l18, l19, l20, l21] st ws = ai_Run 200 404 [l0, l1, l2, l3, l4, l5, l6, l7, l8, l9, l10, .int a, l12, l13, l14, l15, l16, l17, l18, l19, l20, l21] (.int a :: st) ws := R_iload hc_200 dL_isWell_402 rfl rfl
theorem r_200_404 (l1 l2 l3 l4 l5 l6 l7 l8 l9 l10 l11 l12 l13 l14 l15 l16 l17 l18 l19 l20 l21 : Value) (a : Nat) (st : List Value) (ws : ai_W) : ai_Run 200 404 [.ref a, l1, l2, l3, l4, l5, l6, l7, l8, l9, l10, l11, l12, l13, l14, l15, l16, l17, l18, l19, l20, l21] st ws = ai_Run 200 405 [.ref a, l1, l2, l3, l4, l5, l6, l7, l8, l9, l10, l11, l12, l13, l14, l15, l16, l17, l18, l19, l20, l21] (.ref a :: st) ws := R_aload_n hc_200 dL_isWell_404 rfl rfl
theorem rx_200_404 (l1 l2 l3 l4 l5 l6 l7 l8 l9 l10 l11 l12 l13 l14 l15 l16 l17 l18 l19 l20 l21 : Value) {a : Nat} (hq : ¬ a = 23) (st : List Value) (ws : ai_W) : ai_Run 200 404 [.retAddr a, l1, l2, l3, l4, l5, l6, l7, l8, l9, l10, l11, l12, l13, l14, l15, l16, l17, l18, l19, l20, l21] st ws = ai_Run 200 405 [.retAddr a, l1, l2, l3, l4, l5, l6, l7, l8, l9, l10, l11, l12, l13, l14, l15, l16, l17, l18, l19, l20, l21] (.retAddr a :: st) ws := R_aload_nX hq hc_200 dL_isWell_404 rfl rfl
theorem r_200_405 (l0 l1 l2 l3 l4 l5 l6 l7 l9 l10 l11 l12 l13 l14 l15 l16 l17 l18 l19 l20 l21 : Value) (a : Int32) (st : List Value) (ws : ai_W) : ai_Run 200 405 [l0, l1, l2, l3, l4, l5, l6, l7, .int a, l9, l10, l11, l12, l13, l14, l15, l16, l17, l18, l19, l20, l21] st ws = ai_Run 200 407 [l0, l1, l2, l3, l4, l5, l6, l7, .int a, l9, l10, l11, l12, l13, l14, l15, l16, l17, l18, l19, l20, l21] (.int a :: st) ws := R_iload hc_200 dL_isWell_405 rfl rfl
theorem r_200_407 (l0 l1 l2 l3 l4 l5 l6 l7 l8 l9 l10 l11 l12 l13 l14 l16 l17 l18 l19 l20 l21 : Value) (a : Int32) (st : List Value) (ws : ai_W) : ai_Run 200 407 [l0, l1, l2, l3, l4, l5, l6, l7, l8, l9, l10, l11, l12, l13, l14, .int a, l16, l17, l18, l19, l20, l21] st ws = ai_Run 200 409 [l0, l1, l2, l3, l4, l5, l6, l7, l8, l9, l10, l11, l12, l13, l14, .int a, l16, l17, l18, l19, l20, l21] (.int a :: st) ws := R_iload hc_200 dL_isWell_407 rfl rfl
theorem r_200_409 (ls : List Value) (b0 : Value) (b1 : Int32) (b2 : Int32) (s0 : Value) (ws : ai_W) : ai_Run 200 409 ls [.int b2, .int b1, b0, s0] ws = (ai_Call 166 [b0, .int b1, .int b2] ws).bind fun q => ai_Run 200 412 ls (q.1.toList ++ [s0]) q.2 := R_callS hc_200 dL_isWell_409 hv_200 (w := 1171) rfl (ai_lt3 hf_166 hf_200 hL_166 ho_166 ho_200 rfl) hk_166 (by rw [hn_166]; rfl) rfl (Nat.le_of_ble_eq_true rfl) rfl
theorem r_200_412 (ls st : List Value) (a : Int32) (ws : ai_W) : ai_Run 200 412 ls (.int a :: st) ws = if a = 0 then ai_Run 200 419 ls st ws else ai_Run 200 415 ls st ws := R_if_eq hc_200 dL_isWell_412 rfl rfl
theorem r_200_415 (ls st : List Value) (ws : ai_W) : ai_Run 200 415 ls st ws = ai_Run 200 416 ls (.int 0 :: st) ws := R_iconst hc_200 dL_isWell_415 (by decide) rfl
theorem r_200_416 (ls st : List Value) (ws : ai_W) : ai_Run 200 416 ls st ws = ai_Run 200 420 ls st ws := R_goto hc_200 dL_isWell_416 rfl
theorem r_200_419 (ls st : List Value) (ws : ai_W) : ai_Run 200 419 ls st ws = ai_Run 200 420 ls (.int 1 :: st) ws := R_iconst hc_200 dL_isWell_419 (by decide) rfl
theorem r_200_420 (ls st : List Value) (a b : Int32) (ws : ai_W) : ai_Run 200 420 ls (.int b :: .int a :: st) ws = ai_Run 200 421 ls (.int (a + b) :: st) ws := R_iadd hc_200 dL_isWell_420 rfl
theorem r_200_421 (l0 l1 l2 l3 l4 l5 l6 l7 l8 l9 l10 l11 l12 l13 l14 l15 l16 l17 l18 l19 l20 l21 : Value) (a : Int32) (st : List Value) (ws : ai_W) : ai_Run 200 421 [l0, l1, l2, l3, l4, l5, l6, l7, l8, l9, l10, l11, l12, l13, l14, l15, l16, l17, l18, l19, l20, l21] (.int a :: st) ws = ai_Run 200 423 [l0, l1, l2, l3, l4, l5, l6, l7, l8, l9, l10, .int a, l12, l13, l14, l15, l16, l17, l18, l19, l20, l21] st ws := R_istore hc_200 dL_isWell_421 (Nat.le_of_ble_eq_true rfl) rfl rfl
theorem r_200_423 (l0 l1 l2 l3 l4 l5 l6 l7 l8 l9 l10 l11 l12 l13 l14 l16 l17 l18 l19 l20 l21 : Value) (a : Int32) (st : List Value) (ws : ai_W) : ai_Run 200 423 [l0, l1, l2, l3, l4, l5, l6, l7, l8, l9, l10, l11, l12, l13, l14, .int a, l16, l17, l18, l19, l20, l21] st ws = ai_Run 200 426 [l0, l1, l2, l3, l4, l5, l6, l7, l8, l9, l10, l11, l12, l13, l14, .int (a + 1), l16, l17, l18, l19, l20, l21] st ws := R_iinc hc_200 dL_isWell_423 rfl (by decide) rfl rfl
theorem r_200_426 (ls st : List Value) (ws : ai_W) : ai_Run 200 426 ls st ws = ai_Run 200 395 ls st ws := R_goto hc_200 dL_isWell_426 rfl
theorem r_200_429 (ls st : List Value) (ws : ai_W) : ai_Run 200 429 ls st ws = ai_Run 200 430 ls (.int 0 :: st) ws := R_iconst hc_200 dL_isWell_429 (by decide) rfl
theorem r_200_430 (l0 l1 l2 l3 l4 l5 l6 l7 l8 l9 l10 l11 l12 l13 l14 l15 l16 l17 l18 l19 l20 l21 : Value) (a : Int32) (st : List Value) (ws : ai_W) : ai_Run 200 430 [l0, l1, l2, l3, l4, l5, l6, l7, l8, l9, l10, l11, l12, l13, l14, l15, l16, l17, l18, l19, l20, l21] (.int a :: st) ws = ai_Run 200 432 [l0, l1, l2, l3, l4, l5, l6, l7, l8, l9, l10, l11, l12, l13, l14, .int a, l16, l17, l18, l19, l20, l21] st ws := R_istore hc_200 dL_isWell_430 (Nat.le_of_ble_eq_true rfl) rfl rfl
theorem r_200_432 (l0 l1 l2 l3 l4 l5 l6 l7 l8 l9 l10 l11 l12 l13 l14 l16 l17 l18 l19 l20 l21 : Value) (a : Int32) (st : List Value) (ws : ai_W) : ai_Run 200 432 [l0, l1, l2, l3, l4, l5, l6, l7, l8, l9, l10, l11, l12, l13, l14, .int a, l16, l17, l18, l19, l20, l21] st ws = ai_Run 200 434 [l0, l1, l2, l3, l4, l5, l6, l7, l8, l9, l10, l11, l12, l13, l14, .int a, l16, l17, l18, l19, l20, l21] (.int a :: st) ws := R_iload hc_200 dL_isWell_432 rfl rfl
theorem r_200_434 (l0 l2 l3 l4 l5 l6 l7 l8 l9 l10 l11 l12 l13 l14 l15 l16 l17 l18 l19 l20 l21 : Value) (a : Int32) (st : List Value) (ws : ai_W) : ai_Run 200 434 [l0, .int a, l2, l3, l4, l5, l6, l7, l8, l9, l10, l11, l12, l13, l14, l15, l16, l17, l18, l19, l20, l21] st ws = ai_Run 200 435 [l0, .int a, l2, l3, l4, l5, l6, l7, l8, l9, l10, l11, l12, l13, l14, l15, l16, l17, l18, l19, l20, l21] (.int a :: st) ws := R_iload_n hc_200 dL_isWell_434 rfl rfl
theorem r_200_435 (ls st : List Value) (a b : Int32) (ws : ai_W) : ai_Run 200 435 ls (.int b :: .int a :: st) ws = if a < b then ai_Run 200 438 ls st ws else ai_Run 200 470 ls st ws := R_cmp_ge hc_200 dL_isWell_435 rfl rfl
theorem r_200_438 (l0 l1 l2 l3 l4 l5 l6 l7 l8 l9 l10 l11 l13 l14 l15 l16 l17 l18 l19 l20 l21 : Value) (a : Int32) (st : List Value) (ws : ai_W) : ai_Run 200 438 [l0, l1, l2, l3, l4, l5, l6, l7, l8, l9, l10, l11, .int a, l13, l14, l15, l16, l17, l18, l19, l20, l21] st ws = ai_Run 200 440 [l0, l1, l2, l3, l4, l5, l6, l7, l8, l9, l10, l11, .int a, l13, l14, l15, l16, l17, l18, l19, l20, l21] (.int a :: st) ws := R_iload hc_200 dL_isWell_438 rfl rfl
theorem r_200_440 (l1 l2 l3 l4 l5 l6 l7 l8 l9 l10 l11 l12 l13 l14 l15 l16 l17 l18 l19 l20 l21 : Value) (a : Nat) (st : List Value) (ws : ai_W) : ai_Run 200 440 [.ref a, l1, l2, l3, l4, l5, l6, l7, l8, l9, l10, l11, l12, l13, l14, l15, l16, l17, l18, l19, l20, l21] st ws = ai_Run 200 441 [.ref a, l1, l2, l3, l4, l5, l6, l7, l8, l9, l10, l11, l12, l13, l14, l15, l16, l17, l18, l19, l20, l21] (.ref a :: st) ws := R_aload_n hc_200 dL_isWell_440 rfl rfl
theorem rx_200_440 (l1 l2 l3 l4 l5 l6 l7 l8 l9 l10 l11 l12 l13 l14 l15 l16 l17 l18 l19 l20 l21 : Value) {a : Nat} (hq : ¬ a = 23) (st : List Value) (ws : ai_W) : ai_Run 200 440 [.retAddr a, l1, l2, l3, l4, l5, l6, l7, l8, l9, l10, l11, l12, l13, l14, l15, l16, l17, l18, l19, l20, l21] st ws = ai_Run 200 441 [.retAddr a, l1, l2, l3, l4, l5, l6, l7, l8, l9, l10, l11, l12, l13, l14, l15, l16, l17, l18, l19, l20, l21] (.retAddr a :: st) ws := R_aload_nX hq hc_200 dL_isWell_440 rfl rfl
theorem r_200_441 (l0 l1 l2 l3 l4 l5 l6 l7 l9 l10 l11 l12 l13 l14 l15 l16 l17 l18 l19 l20 l21 : Value) (a : Int32) (st : List Value) (ws : ai_W) : ai_Run 200 441 [l0, l1, l2, l3, l4, l5, l6, l7, .int a, l9, l10, l11, l12, l13, l14, l15, l16, l17, l18, l19, l20, l21] st ws = ai_Run 200 443 [l0, l1, l2, l3, l4, l5, l6, l7, .int a, l9, l10, l11, l12, l13, l14, l15, l16, l17, l18, l19, l20, l21] (.int a :: st) ws := R_iload hc_200 dL_isWell_441 rfl rfl
theorem r_200_443 (l0 l1 l2 l3 l4 l5 l6 l7 l8 l9 l10 l11 l12 l13 l14 l16 l17 l18 l19 l20 l21 : Value) (a : Int32) (st : List Value) (ws : ai_W) : ai_Run 200 443 [l0, l1, l2, l3, l4, l5, l6, l7, l8, l9, l10, l11, l12, l13, l14, .int a, l16, l17, l18, l19, l20, l21] st ws = ai_Run 200 445 [l0, l1, l2, l3, l4, l5, l6, l7, l8, l9, l10, l11, l12, l13, l14, .int a, l16, l17, l18, l19, l20, l21] (.int a :: st) ws := R_iload hc_200 dL_isWell_443 rfl rfl
theorem r_200_445 (ls : List Value) (r : Value) (b0 : Int32) (b1 : Int32) (s0 : Value) (ws : ai_W) : ai_Run 200 445 ls [.int b1, .int b0, r, s0] ws = (ai_Call 119 [r, .int b0, .int b1] ws).bind fun q => ai_Run 200 448 ls (q.1.toList ++ [s0]) q.2 := R_callV hc_200 dL_isWell_445 hv_200 (w := 1136) rfl (ai_lt3 hf_119 hf_200 hL_119 ho_119 ho_200 rfl) hk_119 (by rw [hn_119]; rfl) rfl (Nat.le_of_ble_eq_true rfl) rfl
theorem r_200_448 (ls st : List Value) (a b : Int32) (ws : ai_W) : ai_Run 200 448 ls (.int b :: .int a :: st) ws = ai_Run 200 449 ls (.int (a + b) :: st) ws := R_iadd hc_200 dL_isWell_448 rfl
theorem r_200_449 (l0 l1 l2 l3 l4 l5 l6 l7 l8 l9 l10 l11 l12 l13 l14 l15 l16 l17 l18 l19 l20 l21 : Value) (a : Int32) (st : List Value) (ws : ai_W) : ai_Run 200 449 [l0, l1, l2, l3, l4, l5, l6, l7, l8, l9, l10, l11, l12, l13, l14, l15, l16, l17, l18, l19, l20, l21] (.int a :: st) ws = ai_Run 200 451 [l0, l1, l2, l3, l4, l5, l6, l7, l8, l9, l10, l11, .int a, l13, l14, l15, l16, l17, l18, l19, l20, l21] st ws := R_istore hc_200 dL_isWell_449 (Nat.le_of_ble_eq_true rfl) rfl rfl
theorem r_200_451 (l0 l1 l2 l3 l4 l5 l6 l7 l8 l9 l10 l11 l12 l14 l15 l16 l17 l18 l19 l20 l21 : Value) (a : Int32) (st : List Value) (ws : ai_W) : ai_Run 200 451 [l0, l1, l2, l3, l4, l5, l6, l7, l8, l9, l10, l11, l12, .int a, l14, l15, l16, l17, l18, l19, l20, l21] st ws = ai_Run 200 453 [l0, l1, l2, l3, l4, l5, l6, l7, l8, l9, l10, l11, l12, .int a, l14, l15, l16, l17, l18, l19, l20, l21] (.int a :: st) ws := R_iload hc_200 dL_isWell_451 rfl rfl
theorem r_200_453 (l1 l2 l3 l4 l5 l6 l7 l8 l9 l10 l11 l12 l13 l14 l15 l16 l17 l18 l19 l20 l21 : Value) (a : Nat) (st : List Value) (ws : ai_W) : ai_Run 200 453 [.ref a, l1, l2, l3, l4, l5, l6, l7, l8, l9, l10, l11, l12, l13, l14, l15, l16, l17, l18, l19, l20, l21] st ws = ai_Run 200 454 [.ref a, l1, l2, l3, l4, l5, l6, l7, l8, l9, l10, l11, l12, l13, l14, l15, l16, l17, l18, l19, l20, l21] (.ref a :: st) ws := R_aload_n hc_200 dL_isWell_453 rfl rfl
theorem rx_200_453 (l1 l2 l3 l4 l5 l6 l7 l8 l9 l10 l11 l12 l13 l14 l15 l16 l17 l18 l19 l20 l21 : Value) {a : Nat} (hq : ¬ a = 23) (st : List Value) (ws : ai_W) : ai_Run 200 453 [.retAddr a, l1, l2, l3, l4, l5, l6, l7, l8, l9, l10, l11, l12, l13, l14, l15, l16, l17, l18, l19, l20, l21] st ws = ai_Run 200 454 [.retAddr a, l1, l2, l3, l4, l5, l6, l7, l8, l9, l10, l11, l12, l13, l14, l15, l16, l17, l18, l19, l20, l21] (.retAddr a :: st) ws := R_aload_nX hq hc_200 dL_isWell_453 rfl rfl
theorem r_200_454 (l0 l1 l2 l3 l4 l5 l6 l7 l8 l9 l10 l11 l12 l13 l14 l16 l17 l18 l19 l20 l21 : Value) (a : Int32) (st : List Value) (ws : ai_W) : ai_Run 200 454 [l0, l1, l2, l3, l4, l5, l6, l7, l8, l9, l10, l11, l12, l13, l14, .int a, l16, l17, l18, l19, l20, l21] st ws = ai_Run 200 456 [l0, l1, l2, l3, l4, l5, l6, l7, l8, l9, l10, l11, l12, l13, l14, .int a, l16, l17, l18, l19, l20, l21] (.int a :: st) ws := R_iload hc_200 dL_isWell_454 rfl rfl
theorem r_200_456 (l0 l1 l2 l3 l4 l5 l6 l7 l9 l10 l11 l12 l13 l14 l15 l16 l17 l18 l19 l20 l21 : Value) (a : Int32) (st : List Value) (ws : ai_W) : ai_Run 200 456 [l0, l1, l2, l3, l4, l5, l6, l7, .int a, l9, l10, l11, l12, l13, l14, l15, l16, l17, l18, l19, l20, l21] st ws = ai_Run 200 458 [l0, l1, l2, l3, l4, l5, l6, l7, .int a, l9, l10, l11, l12, l13, l14, l15, l16, l17, l18, l19, l20, l21] (.int a :: st) ws := R_iload hc_200 dL_isWell_456 rfl rfl
theorem r_200_458 (ls : List Value) (r : Value) (b0 : Int32) (b1 : Int32) (s0 : Value) (ws : ai_W) : ai_Run 200 458 ls [.int b1, .int b0, r, s0] ws = (ai_Call 119 [r, .int b0, .int b1] ws).bind fun q => ai_Run 200 461 ls (q.1.toList ++ [s0]) q.2 := R_callV hc_200 dL_isWell_458 hv_200 (w := 1136) rfl (ai_lt3 hf_119 hf_200 hL_119 ho_119 ho_200 rfl) hk_119 (by rw [hn_119]; rfl) rfl (Nat.le_of_ble_eq_true rfl) rfl
theorem r_200_461 (ls st : List Value) (a b : Int32) (ws : ai_W) : ai_Run 200 461 ls (.int b :: .int a :: st) ws = ai_Run 200 462 ls (.int (a + b) :: st) ws := R_iadd hc_200 dL_isWell_461 rfl
theorem r_200_462 (l0 l1 l2 l3 l4 l5 l6 l7 l8 l9 l10 l11 l12 l13 l14 l15 l16 l17 l18 l19 l20 l21 : Value) (a : Int32) (st : List Value) (ws : ai_W) : ai_Run 200 462 [l0, l1, l2, l3, l4, l5, l6, l7, l8, l9, l10, l11, l12, l13, l14, l15, l16, l17, l18, l19, l20, l21] (.int a :: st) ws = ai_Run 200 464 [l0, l1, l2, l3, l4, l5, l6, l7, l8, l9, l10, l11, l12, .int a, l14, l15, l16, l17, l18, l19, l20, l21] st ws := R_istore hc_200 dL_isWell_462 (Nat.le_of_ble_eq_true rfl) rfl rfl
theorem r_200_464 (l0 l1 l2 l3 l4 l5 l6 l7 l8 l9 l10 l11 l12 l13 l14 l16 l17 l18 l19 l20 l21 : Value) (a : Int32) (st : List Value) (ws : ai_W) : ai_Run 200 464 [l0, l1, l2, l3, l4, l5, l6, l7, l8, l9, l10, l11, l12, l13, l14, .int a, l16, l17, l18, l19, l20, l21] st ws = ai_Run 200 467 [l0, l1, l2, l3, l4, l5, l6, l7, l8, l9, l10, l11, l12, l13, l14, .int (a + 1), l16, l17, l18, l19, l20, l21] st ws := R_iinc hc_200 dL_isWell_464 rfl (by decide) rfl rfl
theorem r_200_467 (ls st : List Value) (ws : ai_W) : ai_Run 200 467 ls st ws = ai_Run 200 432 ls st ws := R_goto hc_200 dL_isWell_467 rfl
theorem r_200_470 (l1 l2 l3 l4 l5 l6 l7 l8 l9 l10 l11 l12 l13 l14 l15 l16 l17 l18 l19 l20 l21 : Value) (a : Nat) (st : List Value) (ws : ai_W) : ai_Run 200 470 [.ref a, l1, l2, l3, l4, l5, l6, l7, l8, l9, l10, l11, l12, l13, l14, l15, l16, l17, l18, l19, l20, l21] st ws = ai_Run 200 471 [.ref a, l1, l2, l3, l4, l5, l6, l7, l8, l9, l10, l11, l12, l13, l14, l15, l16, l17, l18, l19, l20, l21] (.ref a :: st) ws := R_aload_n hc_200 dL_isWell_470 rfl rfl
theorem rx_200_470 (l1 l2 l3 l4 l5 l6 l7 l8 l9 l10 l11 l12 l13 l14 l15 l16 l17 l18 l19 l20 l21 : Value) {a : Nat} (hq : ¬ a = 23) (st : List Value) (ws : ai_W) : ai_Run 200 470 [.retAddr a, l1, l2, l3, l4, l5, l6, l7, l8, l9, l10, l11, l12, l13, l14, l15, l16, l17, l18, l19, l20, l21] st ws = ai_Run 200 471 [.retAddr a, l1, l2, l3, l4, l5, l6, l7, l8, l9, l10, l11, l12, l13, l14, l15, l16, l17, l18, l19, l20, l21] (.retAddr a :: st) ws := R_aload_nX hq hc_200 dL_isWell_470 rfl rfl
theorem r_200_471 (l0 l1 l2 l3 l4 l5 l6 l7 l9 l10 l11 l12 l13 l14 l15 l16 l17 l18 l19 l20 l21 : Value) (a : Int32) (st : List Value) (ws : ai_W) : ai_Run 200 471 [l0, l1, l2, l3, l4, l5, l6, l7, .int a, l9, l10, l11, l12, l13, l14, l15, l16, l17, l18, l19, l20, l21] st ws = ai_Run 200 473 [l0, l1, l2, l3, l4, l5, l6, l7, .int a, l9, l10, l11, l12, l13, l14, l15, l16, l17, l18, l19, l20, l21] (.int a :: st) ws := R_iload hc_200 dL_isWell_471 rfl rfl
theorem r_200_473 (ls st : List Value) (ws : ai_W) : ai_Run 200 473 ls st ws = ai_Run 200 474 ls (.int 2 :: st) ws := R_iconst hc_200 dL_isWell_473 (by decide) rfl
theorem r_200_474 (ls : List Value) (r : Value) (b0 : Int32) (b1 : Int32) (ws : ai_W) : ai_Run 200 474 ls [.int b1, .int b0, r] ws = (ai_Call 98 [r, .int b0, .int b1] ws).bind fun q => ai_Run 200 477 ls (q.1.toList ++ []) q.2 := R_callV hc_200 dL_isWell_474 hv_200 (w := 1174) rfl (ai_lt3 hf_98 hf_200 hL_98 ho_98 ho_200 rfl) hk_98 (by rw [hn_98]; rfl) rfl (Nat.le_of_ble_eq_true rfl) rfl
theorem r_200_477 (l0 l1 l2 l3 l4 l5 l6 l7 l8 l9 l10 l12 l13 l14 l15 l16 l17 l18 l19 l20 l21 : Value) (a : Int32) (st : List Value) (ws : ai_W) : ai_Run 200 477 [l0, l1, l2, l3, l4, l5, l6, l7, l8, l9, l10, .int a, l12, l13, l14, l15, l16, l17, l18, l19, l20, l21] st ws = ai_Run 200 479 [l0, l1, l2, l3, l4, l5, l6, l7, l8, l9, l10, .int a, l12, l13, l14, l15, l16, l17, l18, l19, l20, l21] (.int a :: st) ws := R_iload hc_200 dL_isWell_477 rfl rfl
theorem r_200_479 (ls st : List Value) (a b : Int32) (ws : ai_W) : ai_Run 200 479 ls (.int b :: .int a :: st) ws = if a = b then ai_Run 200 482 ls st ws else ai_Run 200 530 ls st ws := R_cmp_ne hc_200 dL_isWell_479 rfl rfl
theorem r_200_482 (l1 l2 l3 l4 l5 l6 l7 l8 l9 l10 l11 l12 l13 l14 l15 l16 l17 l18 l19 l20 l21 : Value) (a : Nat) (st : List Value) (ws : ai_W) : ai_Run 200 482 [.ref a, l1, l2, l3, l4, l5, l6, l7, l8, l9, l10, l11, l12, l13, l14, l15, l16, l17, l18, l19, l20, l21] st ws = ai_Run 200 483 [.ref a, l1, l2, l3, l4, l5, l6, l7, l8, l9, l10, l11, l12, l13, l14, l15, l16, l17, l18, l19, l20, l21] (.ref a :: st) ws := R_aload_n hc_200 dL_isWell_482 rfl rfl
theorem rx_200_482 (l1 l2 l3 l4 l5 l6 l7 l8 l9 l10 l11 l12 l13 l14 l15 l16 l17 l18 l19 l20 l21 : Value) {a : Nat} (hq : ¬ a = 23) (st : List Value) (ws : ai_W) : ai_Run 200 482 [.retAddr a, l1, l2, l3, l4, l5, l6, l7, l8, l9, l10, l11, l12, l13, l14, l15, l16, l17, l18, l19, l20, l21] st ws = ai_Run 200 483 [.retAddr a, l1, l2, l3, l4, l5, l6, l7, l8, l9, l10, l11, l12, l13, l14, l15, l16, l17, l18, l19, l20, l21] (.retAddr a :: st) ws := R_aload_nX hq hc_200 dL_isWell_482 rfl rfl
theorem r_200_483 (l0 l1 l2 l3 l4 l5 l6 l7 l9 l10 l11 l12 l13 l14 l15 l16 l17 l18 l19 l20 l21 : Value) (a : Int32) (st : List Value) (ws : ai_W) : ai_Run 200 483 [l0, l1, l2, l3, l4, l5, l6, l7, .int a, l9, l10, l11, l12, l13, l14, l15, l16, l17, l18, l19, l20, l21] st ws = ai_Run 200 485 [l0, l1, l2, l3, l4, l5, l6, l7, .int a, l9, l10, l11, l12, l13, l14, l15, l16, l17, l18, l19, l20, l21] (.int a :: st) ws := R_iload hc_200 dL_isWell_483 rfl rfl
theorem r_200_485 (ls st : List Value) (ws : ai_W) : ai_Run 200 485 ls st ws = ai_Run 200 486 ls (.int 3 :: st) ws := R_iconst hc_200 dL_isWell_485 (by decide) rfl
theorem r_200_486 (ls : List Value) (r : Value) (b0 : Int32) (b1 : Int32) (ws : ai_W) : ai_Run 200 486 ls [.int b1, .int b0, r] ws = (ai_Call 98 [r, .int b0, .int b1] ws).bind fun q => ai_Run 200 489 ls (q.1.toList ++ []) q.2 := R_callV hc_200 dL_isWell_486 hv_200 (w := 1174) rfl (ai_lt3 hf_98 hf_200 hL_98 ho_98 ho_200 rfl) hk_98 (by rw [hn_98]; rfl) rfl (Nat.le_of_ble_eq_true rfl) rfl
theorem r_200_489 (l0 l1 l2 l3 l4 l5 l6 l7 l8 l9 l11 l12 l13 l14 l15 l16 l17 l18 l19 l20 l21 : Value) (a : Int32) (st : List Value) (ws : ai_W) : ai_Run 200 489 [l0, l1, l2, l3, l4, l5, l6, l7, l8, l9, .int a, l11, l12, l13, l14, l15, l16, l17, l18, l19, l20, l21] st ws = ai_Run 200 491 [l0, l1, l2, l3, l4, l5, l6, l7, l8, l9, .int a, l11, l12, l13, l14, l15, l16, l17, l18, l19, l20, l21] (.int a :: st) ws := R_iload hc_200 dL_isWell_489 rfl rfl
theorem r_200_491 (ls st : List Value) (a b : Int32) (ws : ai_W) : ai_Run 200 491 ls (.int b :: .int a :: st) ws = if a = b then ai_Run 200 494 ls st ws else ai_Run 200 530 ls st ws := R_cmp_ne hc_200 dL_isWell_491 rfl rfl
theorem r_200_494 (l1 l2 l3 l4 l5 l6 l7 l8 l9 l10 l11 l12 l13 l14 l15 l16 l17 l18 l19 l20 l21 : Value) (a : Nat) (st : List Value) (ws : ai_W) : ai_Run 200 494 [.ref a, l1, l2, l3, l4, l5, l6, l7, l8, l9, l10, l11, l12, l13, l14, l15, l16, l17, l18, l19, l20, l21] st ws = ai_Run 200 495 [.ref a, l1, l2, l3, l4, l5, l6, l7, l8, l9, l10, l11, l12, l13, l14, l15, l16, l17, l18, l19, l20, l21] (.ref a :: st) ws := R_aload_n hc_200 dL_isWell_494 rfl rfl
theorem rx_200_494 (l1 l2 l3 l4 l5 l6 l7 l8 l9 l10 l11 l12 l13 l14 l15 l16 l17 l18 l19 l20 l21 : Value) {a : Nat} (hq : ¬ a = 23) (st : List Value) (ws : ai_W) : ai_Run 200 494 [.retAddr a, l1, l2, l3, l4, l5, l6, l7, l8, l9, l10, l11, l12, l13, l14, l15, l16, l17, l18, l19, l20, l21] st ws = ai_Run 200 495 [.retAddr a, l1, l2, l3, l4, l5, l6, l7, l8, l9, l10, l11, l12, l13, l14, l15, l16, l17, l18, l19, l20, l21] (.retAddr a :: st) ws := R_aload_nX hq hc_200 dL_isWell_494 rfl rfl
theorem r_200_495 (l0 l1 l2 l3 l4 l5 l6 l7 l9 l10 l11 l12 l13 l14 l15 l16 l17 l18 l19 l20 l21 : Value) (a : Int32) (st : List Value) (ws : ai_W) : ai_Run 200 495 [l0, l1, l2, l3, l4, l5, l6, l7, .int a, l9, l10, l11, l12, l13, l14, l15, l16, l17, l18, l19, l20, l21] st ws = ai_Run 200 497 [l0, l1, l2, l3, l4, l5, l6, l7, .int a, l9, l10, l11, l12, l13, l14, l15, l16, l17, l18, l19, l20, l21] (.int a :: st) ws := R_iload hc_200 dL_isWell_495 rfl rfl
theorem r_200_497 (ls st : List Value) (ws : ai_W) : ai_Run 200 497 ls st ws = ai_Run 200 498 ls (.int 5 :: st) ws := R_iconst hc_200 dL_isWell_497 (by decide) rfl
theorem r_200_498 (ls : List Value) (r : Value) (b0 : Int32) (b1 : Int32) (ws : ai_W) : ai_Run 200 498 ls [.int b1, .int b0, r] ws = (ai_Call 98 [r, .int b0, .int b1] ws).bind fun q => ai_Run 200 501 ls (q.1.toList ++ []) q.2 := R_callV hc_200 dL_isWell_498 hv_200 (w := 1174) rfl (ai_lt3 hf_98 hf_200 hL_98 ho_98 ho_200 rfl) hk_98 (by rw [hn_98]; rfl) rfl (Nat.le_of_ble_eq_true rfl) rfl
theorem r_200_501 (l0 l1 l2 l3 l4 l5 l6 l7 l8 l9 l10 l11 l13 l14 l15 l16 l17 l18 l19 l20 l21 : Value) (a : Int32) (st : List Value) (ws : ai_W) : ai_Run 200 501 [l0, l1, l2, l3, l4, l5, l6, l7, l8, l9, l10, l11, .int a, l13, l14, l15, l16, l17, l18, l19, l20, l21] st ws = ai_Run 200 503 [l0, l1, l2, l3, l4, l5, l6, l7, l8, l9, l10, l11, .int a, l13, l14, l15, l16, l17, l18, l19, l20, l21] (.int a :: st) ws := R_iload hc_200 dL_isWell_501 rfl rfl
theorem r_200_503 (ls st : List Value) (a b : Int32) (ws : ai_W) : ai_Run 200 503 ls (.int b :: .int a :: st) ws = if a = b then ai_Run 200 506 ls st ws else ai_Run 200 530 ls st ws := R_cmp_ne hc_200 dL_isWell_503 rfl rfl
theorem r_200_506 (l1 l2 l3 l4 l5 l6 l7 l8 l9 l10 l11 l12 l13 l14 l15 l16 l17 l18 l19 l20 l21 : Value) (a : Nat) (st : List Value) (ws : ai_W) : ai_Run 200 506 [.ref a, l1, l2, l3, l4, l5, l6, l7, l8, l9, l10, l11, l12, l13, l14, l15, l16, l17, l18, l19, l20, l21] st ws = ai_Run 200 507 [.ref a, l1, l2, l3, l4, l5, l6, l7, l8, l9, l10, l11, l12, l13, l14, l15, l16, l17, l18, l19, l20, l21] (.ref a :: st) ws := R_aload_n hc_200 dL_isWell_506 rfl rfl
theorem rx_200_506 (l1 l2 l3 l4 l5 l6 l7 l8 l9 l10 l11 l12 l13 l14 l15 l16 l17 l18 l19 l20 l21 : Value) {a : Nat} (hq : ¬ a = 23) (st : List Value) (ws : ai_W) : ai_Run 200 506 [.retAddr a, l1, l2, l3, l4, l5, l6, l7, l8, l9, l10, l11, l12, l13, l14, l15, l16, l17, l18, l19, l20, l21] st ws = ai_Run 200 507 [.retAddr a, l1, l2, l3, l4, l5, l6, l7, l8, l9, l10, l11, l12, l13, l14, l15, l16, l17, l18, l19, l20, l21] (.retAddr a :: st) ws := R_aload_nX hq hc_200 dL_isWell_506 rfl rfl
theorem r_200_507 (l0 l1 l2 l3 l4 l5 l6 l7 l9 l10 l11 l12 l13 l14 l15 l16 l17 l18 l19 l20 l21 : Value) (a : Int32) (st : List Value) (ws : ai_W) : ai_Run 200 507 [l0, l1, l2, l3, l4, l5, l6, l7, .int a, l9, l10, l11, l12, l13, l14, l15, l16, l17, l18, l19, l20, l21] st ws = ai_Run 200 509 [l0, l1, l2, l3, l4, l5, l6, l7, .int a, l9, l10, l11, l12, l13, l14, l15, l16, l17, l18, l19, l20, l21] (.int a :: st) ws := R_iload hc_200 dL_isWell_507 rfl rfl
theorem r_200_509 (ls st : List Value) (ws : ai_W) : ai_Run 200 509 ls st ws = ai_Run 200 511 ls (.int 6 :: st) ws := R_bipush hc_200 dL_isWell_509 (by decide) rfl
theorem r_200_511 (ls : List Value) (r : Value) (b0 : Int32) (b1 : Int32) (ws : ai_W) : ai_Run 200 511 ls [.int b1, .int b0, r] ws = (ai_Call 98 [r, .int b0, .int b1] ws).bind fun q => ai_Run 200 514 ls (q.1.toList ++ []) q.2 := R_callV hc_200 dL_isWell_511 hv_200 (w := 1174) rfl (ai_lt3 hf_98 hf_200 hL_98 ho_98 ho_200 rfl) hk_98 (by rw [hn_98]; rfl) rfl (Nat.le_of_ble_eq_true rfl) rfl
theorem r_200_514 (l0 l1 l2 l3 l4 l5 l6 l7 l8 l9 l10 l11 l12 l14 l15 l16 l17 l18 l19 l20 l21 : Value) (a : Int32) (st : List Value) (ws : ai_W) : ai_Run 200 514 [l0, l1, l2, l3, l4, l5, l6, l7, l8, l9, l10, l11, l12, .int a, l14, l15, l16, l17, l18, l19, l20, l21] st ws = ai_Run 200 516 [l0, l1, l2, l3, l4, l5, l6, l7, l8, l9, l10, l11, l12, .int a, l14, l15, l16, l17, l18, l19, l20, l21] (.int a :: st) ws := R_iload hc_200 dL_isWell_514 rfl rfl
theorem r_200_516 (ls st : List Value) (a b : Int32) (ws : ai_W) : ai_Run 200 516 ls (.int b :: .int a :: st) ws = if a = b then ai_Run 200 519 ls st ws else ai_Run 200 530 ls st ws := R_cmp_ne hc_200 dL_isWell_516 rfl rfl
theorem r_200_519 (l1 l2 l3 l4 l5 l6 l7 l8 l9 l10 l11 l12 l13 l14 l15 l16 l17 l18 l19 l20 l21 : Value) (a : Nat) (st : List Value) (ws : ai_W) : ai_Run 200 519 [.ref a, l1, l2, l3, l4, l5, l6, l7, l8, l9, l10, l11, l12, l13, l14, l15, l16, l17, l18, l19, l20, l21] st ws = ai_Run 200 520 [.ref a, l1, l2, l3, l4, l5, l6, l7, l8, l9, l10, l11, l12, l13, l14, l15, l16, l17, l18, l19, l20, l21] (.ref a :: st) ws := R_aload_n hc_200 dL_isWell_519 rfl rfl
theorem rx_200_519 (l1 l2 l3 l4 l5 l6 l7 l8 l9 l10 l11 l12 l13 l14 l15 l16 l17 l18 l19 l20 l21 : Value) {a : Nat} (hq : ¬ a = 23) (st : List Value) (ws : ai_W) : ai_Run 200 519 [.retAddr a, l1, l2, l3, l4, l5, l6, l7, l8, l9, l10, l11, l12, l13, l14, l15, l16, l17, l18, l19, l20, l21] st ws = ai_Run 200 520 [.retAddr a, l1, l2, l3, l4, l5, l6, l7, l8, l9, l10, l11, l12, l13, l14, l15, l16, l17, l18, l19, l20, l21] (.retAddr a :: st) ws := R_aload_nX hq hc_200 dL_isWell_519 rfl rfl
theorem r_200_520 (l0 l1 l2 l3 l4 l5 l6 l7 l9 l10 l11 l12 l13 l14 l15 l16 l17 l18 l19 l20 l21 : Value) (a : Int32) (st : List Value) (ws : ai_W) : ai_Run 200 520 [l0, l1, l2, l3, l4, l5, l6, l7, .int a, l9, l10, l11, l12, l13, l14, l15, l16, l17, l18, l19, l20, l21] st ws = ai_Run 200 522 [l0, l1, l2, l3, l4, l5, l6, l7, .int a, l9, l10, l11, l12, l13, l14, l15, l16, l17, l18, l19, l20, l21] (.int a :: st) ws := R_iload hc_200 dL_isWell_520 rfl rfl
theorem r_200_522 (l0 l1 l2 l3 l4 l5 l6 l7 l9 l10 l11 l12 l13 l14 l15 l16 l17 l18 l19 l20 l21 : Value) (a : Int32) (st : List Value) (ws : ai_W) : ai_Run 200 522 [l0, l1, l2, l3, l4, l5, l6, l7, .int a, l9, l10, l11, l12, l13, l14, l15, l16, l17, l18, l19, l20, l21] st ws = ai_Run 200 524 [l0, l1, l2, l3, l4, l5, l6, l7, .int a, l9, l10, l11, l12, l13, l14, l15, l16, l17, l18, l19, l20, l21] (.int a :: st) ws := R_iload hc_200 dL_isWell_522 rfl rfl
theorem r_200_524 (ls : List Value) (r : Value) (b0 : Int32) (b1 : Int32) (ws : ai_W) : ai_Run 200 524 ls [.int b1, .int b0, r] ws = (ai_Call 119 [r, .int b0, .int b1] ws).bind fun q => ai_Run 200 527 ls (q.1.toList ++ []) q.2 := R_callV hc_200 dL_isWell_524 hv_200 (w := 1136) rfl (ai_lt3 hf_119 hf_200 hL_119 ho_119 ho_200 rfl) hk_119 (by rw [hn_119]; rfl) rfl (Nat.le_of_ble_eq_true rfl) rfl
theorem r_200_527 (ls st : List Value) (a : Int32) (ws : ai_W) : ai_Run 200 527 ls (.int a :: st) ws = if a = 0 then ai_Run 200 532 ls st ws else ai_Run 200 530 ls st ws := R_if_eq hc_200 dL_isWell_527 rfl rfl
theorem r_200_530 (ls st : List Value) (ws : ai_W) : ai_Run 200 530 ls st ws = ai_Run 200 531 ls (.int 0 :: st) ws := R_iconst hc_200 dL_isWell_530 (by decide) rfl
theorem r_200_531 (ls : List Value) (x : Int32) (ws : ai_W) : ai_Run 200 531 ls [.int x] ws = if ai_pb x = true then some (some (.int x), ws) else none := R_zret hc_200 dL_isWell_531 ht_200
theorem r_200_532 (l0 l1 l3 l4 l5 l6 l7 l8 l9 l10 l11 l12 l13 l14 l15 l16 l17 l18 l19 l20 l21 : Value) (a : Int32) (st : List Value) (ws : ai_W) : ai_Run 200 532 [l0, l1, .int a, l3, l4, l5, l6, l7, l8, l9, l10, l11, l12, l13, l14, l15, l16, l17, l18, l19, l20, l21] st ws = ai_Run 200 533 [l0, l1, .int a, l3, l4, l5, l6, l7, l8, l9, l10, l11, l12, l13, l14, l15, l16, l17, l18, l19, l20, l21] (.int a :: st) ws := R_iload_n hc_200 dL_isWell_532 rfl rfl
theorem r_200_533 (l0 l1 l2 l3 l4 l5 l6 l7 l8 l10 l11 l12 l13 l14 l15 l16 l17 l18 l19 l20 l21 : Value) (a : Int32) (st : List Value) (ws : ai_W) : ai_Run 200 533 [l0, l1, l2, l3, l4, l5, l6, l7, l8, .int a, l10, l11, l12, l13, l14, l15, l16, l17, l18, l19, l20, l21] st ws = ai_Run 200 535 [l0, l1, l2, l3, l4, l5, l6, l7, l8, .int a, l10, l11, l12, l13, l14, l15, l16, l17, l18, l19, l20, l21] (.int a :: st) ws := R_iload hc_200 dL_isWell_533 rfl rfl
theorem r_200_535 (ls st : List Value) (a b : Int32) (ws : ai_W) : ai_Run 200 535 ls (.int b :: .int a :: st) ws = ai_Run 200 536 ls (.int (a + b) :: st) ws := R_iadd hc_200 dL_isWell_535 rfl
theorem r_200_536 (l0 l1 l2 l3 l4 l5 l6 l7 l8 l9 l10 l11 l12 l13 l14 l15 l16 l17 l18 l19 l20 l21 : Value) (a : Int32) (st : List Value) (ws : ai_W) : ai_Run 200 536 [l0, l1, l2, l3, l4, l5, l6, l7, l8, l9, l10, l11, l12, l13, l14, l15, l16, l17, l18, l19, l20, l21] (.int a :: st) ws = ai_Run 200 537 [l0, l1, .int a, l3, l4, l5, l6, l7, l8, l9, l10, l11, l12, l13, l14, l15, l16, l17, l18, l19, l20, l21] st ws := R_istore_n hc_200 dL_isWell_536 (Nat.le_of_ble_eq_true rfl) rfl rfl
theorem r_200_537 (l0 l1 l2 l4 l5 l6 l7 l8 l9 l10 l11 l12 l13 l14 l15 l16 l17 l18 l19 l20 l21 : Value) (a : Int32) (st : List Value) (ws : ai_W) : ai_Run 200 537 [l0, l1, l2, .int a, l4, l5, l6, l7, l8, l9, l10, l11, l12, l13, l14, l15, l16, l17, l18, l19, l20, l21] st ws = ai_Run 200 538 [l0, l1, l2, .int a, l4, l5, l6, l7, l8, l9, l10, l11, l12, l13, l14, l15, l16, l17, l18, l19, l20, l21] (.int a :: st) ws := R_iload_n hc_200 dL_isWell_537 rfl rfl
theorem r_200_538 (l1 l2 l3 l4 l5 l6 l7 l8 l9 l10 l11 l12 l13 l14 l15 l16 l17 l18 l19 l20 l21 : Value) (a : Nat) (st : List Value) (ws : ai_W) : ai_Run 200 538 [.ref a, l1, l2, l3, l4, l5, l6, l7, l8, l9, l10, l11, l12, l13, l14, l15, l16, l17, l18, l19, l20, l21] st ws = ai_Run 200 539 [.ref a, l1, l2, l3, l4, l5, l6, l7, l8, l9, l10, l11, l12, l13, l14, l15, l16, l17, l18, l19, l20, l21] (.ref a :: st) ws := R_aload_n hc_200 dL_isWell_538 rfl rfl
theorem rx_200_538 (l1 l2 l3 l4 l5 l6 l7 l8 l9 l10 l11 l12 l13 l14 l15 l16 l17 l18 l19 l20 l21 : Value) {a : Nat} (hq : ¬ a = 23) (st : List Value) (ws : ai_W) : ai_Run 200 538 [.retAddr a, l1, l2, l3, l4, l5, l6, l7, l8, l9, l10, l11, l12, l13, l14, l15, l16, l17, l18, l19, l20, l21] st ws = ai_Run 200 539 [.retAddr a, l1, l2, l3, l4, l5, l6, l7, l8, l9, l10, l11, l12, l13, l14, l15, l16, l17, l18, l19, l20, l21] (.retAddr a :: st) ws := R_aload_nX hq hc_200 dL_isWell_538 rfl rfl
theorem r_200_539 (l0 l1 l2 l3 l4 l5 l6 l7 l9 l10 l11 l12 l13 l14 l15 l16 l17 l18 l19 l20 l21 : Value) (a : Int32) (st : List Value) (ws : ai_W) : ai_Run 200 539 [l0, l1, l2, l3, l4, l5, l6, l7, .int a, l9, l10, l11, l12, l13, l14, l15, l16, l17, l18, l19, l20, l21] st ws = ai_Run 200 541 [l0, l1, l2, l3, l4, l5, l6, l7, .int a, l9, l10, l11, l12, l13, l14, l15, l16, l17, l18, l19, l20, l21] (.int a :: st) ws := R_iload hc_200 dL_isWell_539 rfl rfl
theorem r_200_541 (ls st : List Value) (ws : ai_W) : ai_Run 200 541 ls st ws = ai_Run 200 542 ls (.int 1 :: st) ws := R_iconst hc_200 dL_isWell_541 (by decide) rfl
theorem r_200_542 (ls : List Value) (r : Value) (b0 : Int32) (b1 : Int32) (s0 : Value) (ws : ai_W) : ai_Run 200 542 ls [.int b1, .int b0, r, s0] ws = (ai_Call 98 [r, .int b0, .int b1] ws).bind fun q => ai_Run 200 545 ls (q.1.toList ++ [s0]) q.2 := R_callV hc_200 dL_isWell_542 hv_200 (w := 1174) rfl (ai_lt3 hf_98 hf_200 hL_98 ho_98 ho_200 rfl) hk_98 (by rw [hn_98]; rfl) rfl (Nat.le_of_ble_eq_true rfl) rfl
theorem r_200_545 (ls st : List Value) (a b : Int32) (ws : ai_W) : ai_Run 200 545 ls (.int b :: .int a :: st) ws = ai_Run 200 546 ls (.int (a + b) :: st) ws := R_iadd hc_200 dL_isWell_545 rfl
theorem r_200_546 (l0 l1 l2 l3 l4 l5 l6 l7 l8 l9 l10 l11 l12 l13 l14 l15 l16 l17 l18 l19 l20 l21 : Value) (a : Int32) (st : List Value) (ws : ai_W) : ai_Run 200 546 [l0, l1, l2, l3, l4, l5, l6, l7, l8, l9, l10, l11, l12, l13, l14, l15, l16, l17, l18, l19, l20, l21] (.int a :: st) ws = ai_Run 200 547 [l0, l1, l2, .int a, l4, l5, l6, l7, l8, l9, l10, l11, l12, l13, l14, l15, l16, l17, l18, l19, l20, l21] st ws := R_istore_n hc_200 dL_isWell_546 (Nat.le_of_ble_eq_true rfl) rfl rfl
theorem r_200_547 (l0 l1 l2 l3 l5 l6 l7 l8 l9 l10 l11 l12 l13 l14 l15 l16 l17 l18 l19 l20 l21 : Value) (a : Int32) (st : List Value) (ws : ai_W) : ai_Run 200 547 [l0, l1, l2, l3, .int a, l5, l6, l7, l8, l9, l10, l11, l12, l13, l14, l15, l16, l17, l18, l19, l20, l21] st ws = ai_Run 200 549 [l0, l1, l2, l3, .int a, l5, l6, l7, l8, l9, l10, l11, l12, l13, l14, l15, l16, l17, l18, l19, l20, l21] (.int a :: st) ws := R_iload hc_200 dL_isWell_547 rfl rfl
theorem r_200_549 (l0 l1 l2 l3 l4 l5 l6 l7 l8 l9 l11 l12 l13 l14 l15 l16 l17 l18 l19 l20 l21 : Value) (a : Int32) (st : List Value) (ws : ai_W) : ai_Run 200 549 [l0, l1, l2, l3, l4, l5, l6, l7, l8, l9, .int a, l11, l12, l13, l14, l15, l16, l17, l18, l19, l20, l21] st ws = ai_Run 200 551 [l0, l1, l2, l3, l4, l5, l6, l7, l8, l9, .int a, l11, l12, l13, l14, l15, l16, l17, l18, l19, l20, l21] (.int a :: st) ws := R_iload hc_200 dL_isWell_549 rfl rfl
theorem r_200_551 (ls st : List Value) (a b : Int32) (ws : ai_W) : ai_Run 200 551 ls (.int b :: .int a :: st) ws = ai_Run 200 552 ls (.int (a + b) :: st) ws := R_iadd hc_200 dL_isWell_551 rfl
theorem r_200_552 (l0 l1 l2 l3 l4 l5 l6 l7 l8 l9 l10 l11 l12 l13 l14 l15 l16 l17 l18 l19 l20 l21 : Value) (a : Int32) (st : List Value) (ws : ai_W) : ai_Run 200 552 [l0, l1, l2, l3, l4, l5, l6, l7, l8, l9, l10, l11, l12, l13, l14, l15, l16, l17, l18, l19, l20, l21] (.int a :: st) ws = ai_Run 200 554 [l0, l1, l2, l3, .int a, l5, l6, l7, l8, l9, l10, l11, l12, l13, l14, l15, l16, l17, l18, l19, l20, l21] st ws := R_istore hc_200 dL_isWell_552 (Nat.le_of_ble_eq_true rfl) rfl rfl
theorem r_200_554 (l0 l1 l2 l3 l4 l6 l7 l8 l9 l10 l11 l12 l13 l14 l15 l16 l17 l18 l19 l20 l21 : Value) (a : Int32) (st : List Value) (ws : ai_W) : ai_Run 200 554 [l0, l1, l2, l3, l4, .int a, l6, l7, l8, l9, l10, l11, l12, l13, l14, l15, l16, l17, l18, l19, l20, l21] st ws = ai_Run 200 556 [l0, l1, l2, l3, l4, .int a, l6, l7, l8, l9, l10, l11, l12, l13, l14, l15, l16, l17, l18, l19, l20, l21] (.int a :: st) ws := R_iload hc_200 dL_isWell_554 rfl rfl
theorem r_200_556 (l1 l2 l3 l4 l5 l6 l7 l8 l9 l10 l11 l12 l13 l14 l15 l16 l17 l18 l19 l20 l21 : Value) (a : Nat) (st : List Value) (ws : ai_W) : ai_Run 200 556 [.ref a, l1, l2, l3, l4, l5, l6, l7, l8, l9, l10, l11, l12, l13, l14, l15, l16, l17, l18, l19, l20, l21] st ws = ai_Run 200 557 [.ref a, l1, l2, l3, l4, l5, l6, l7, l8, l9, l10, l11, l12, l13, l14, l15, l16, l17, l18, l19, l20, l21] (.ref a :: st) ws := R_aload_n hc_200 dL_isWell_556 rfl rfl
theorem rx_200_556 (l1 l2 l3 l4 l5 l6 l7 l8 l9 l10 l11 l12 l13 l14 l15 l16 l17 l18 l19 l20 l21 : Value) {a : Nat} (hq : ¬ a = 23) (st : List Value) (ws : ai_W) : ai_Run 200 556 [.retAddr a, l1, l2, l3, l4, l5, l6, l7, l8, l9, l10, l11, l12, l13, l14, l15, l16, l17, l18, l19, l20, l21] st ws = ai_Run 200 557 [.retAddr a, l1, l2, l3, l4, l5, l6, l7, l8, l9, l10, l11, l12, l13, l14, l15, l16, l17, l18, l19, l20, l21] (.retAddr a :: st) ws := R_aload_nX hq hc_200 dL_isWell_556 rfl rfl
theorem r_200_557 (l0 l1 l2 l3 l4 l5 l6 l7 l9 l10 l11 l12 l13 l14 l15 l16 l17 l18 l19 l20 l21 : Value) (a : Int32) (st : List Value) (ws : ai_W) : ai_Run 200 557 [l0, l1, l2, l3, l4, l5, l6, l7, .int a, l9, l10, l11, l12, l13, l14, l15, l16, l17, l18, l19, l20, l21] st ws = ai_Run 200 559 [l0, l1, l2, l3, l4, l5, l6, l7, .int a, l9, l10, l11, l12, l13, l14, l15, l16, l17, l18, l19, l20, l21] (.int a :: st) ws := R_iload hc_200 dL_isWell_557 rfl rfl
theorem r_200_559 (ls st : List Value) (ws : ai_W) : ai_Run 200 559 ls st ws = ai_Run 200 560 ls (.int 4 :: st) ws := R_iconst hc_200 dL_isWell_559 (by decide) rfl
theorem r_200_560 (ls : List Value) (r : Value) (b0 : Int32) (b1 : Int32) (s0 : Value) (ws : ai_W) : ai_Run 200 560 ls [.int b1, .int b0, r, s0] ws = (ai_Call 98 [r, .int b0, .int b1] ws).bind fun q => ai_Run 200 563 ls (q.1.toList ++ [s0]) q.2 := R_callV hc_200 dL_isWell_560 hv_200 (w := 1174) rfl (ai_lt3 hf_98 hf_200 hL_98 ho_98 ho_200 rfl) hk_98 (by rw [hn_98]; rfl) rfl (Nat.le_of_ble_eq_true rfl) rfl
theorem r_200_563 (ls st : List Value) (a b : Int32) (ws : ai_W) : ai_Run 200 563 ls (.int b :: .int a :: st) ws = ai_Run 200 564 ls (.int (a + b) :: st) ws := R_iadd hc_200 dL_isWell_563 rfl
theorem r_200_564 (l0 l1 l2 l3 l4 l5 l6 l7 l8 l9 l10 l11 l12 l13 l14 l15 l16 l17 l18 l19 l20 l21 : Value) (a : Int32) (st : List Value) (ws : ai_W) : ai_Run 200 564 [l0, l1, l2, l3, l4, l5, l6, l7, l8, l9, l10, l11, l12, l13, l14, l15, l16, l17, l18, l19, l20, l21] (.int a :: st) ws = ai_Run 200 566 [l0, l1, l2, l3, l4, .int a, l6, l7, l8, l9, l10, l11, l12, l13, l14, l15, l16, l17, l18, l19, l20, l21] st ws := R_istore hc_200 dL_isWell_564 (Nat.le_of_ble_eq_true rfl) rfl rfl
theorem r_200_566 (l0 l1 l2 l3 l4 l5 l6 l7 l9 l10 l11 l12 l13 l14 l15 l16 l17 l18 l19 l20 l21 : Value) (a : Int32) (st : List Value) (ws : ai_W) : ai_Run 200 566 [l0, l1, l2, l3, l4, l5, l6, l7, .int a, l9, l10, l11, l12, l13, l14, l15, l16, l17, l18, l19, l20, l21] st ws = ai_Run 200 569 [l0, l1, l2, l3, l4, l5, l6, l7, .int (a + 1), l9, l10, l11, l12, l13, l14, l15, l16, l17, l18, l19, l20, l21] st ws := R_iinc hc_200 dL_isWell_566 rfl (by decide) rfl rfl
theorem r_200_569 (ls st : List Value) (ws : ai_W) : ai_Run 200 569 ls st ws = ai_Run 200 128 ls st ws := R_goto hc_200 dL_isWell_569 rfl
theorem r_200_572 (l0 l1 l3 l4 l5 l6 l7 l8 l9 l10 l11 l12 l13 l14 l15 l16 l17 l18 l19 l20 l21 : Value) (a : Int32) (st : List Value) (ws : ai_W) : ai_Run 200 572 [l0, l1, .int a, l3, l4, l5, l6, l7, l8, l9, l10, l11, l12, l13, l14, l15, l16, l17, l18, l19, l20, l21] st ws = ai_Run 200 573 [l0, l1, .int a, l3, l4, l5, l6, l7, l8, l9, l10, l11, l12, l13, l14, l15, l16, l17, l18, l19, l20, l21] (.int a :: st) ws := R_iload_n hc_200 dL_isWell_572 rfl rfl
theorem r_200_573 (l1 l2 l3 l4 l5 l6 l7 l8 l9 l10 l11 l12 l13 l14 l15 l16 l17 l18 l19 l20 l21 : Value) (a : Nat) (st : List Value) (ws : ai_W) : ai_Run 200 573 [.ref a, l1, l2, l3, l4, l5, l6, l7, l8, l9, l10, l11, l12, l13, l14, l15, l16, l17, l18, l19, l20, l21] st ws = ai_Run 200 574 [.ref a, l1, l2, l3, l4, l5, l6, l7, l8, l9, l10, l11, l12, l13, l14, l15, l16, l17, l18, l19, l20, l21] (.ref a :: st) ws := R_aload_n hc_200 dL_isWell_573 rfl rfl
theorem rx_200_573 (l1 l2 l3 l4 l5 l6 l7 l8 l9 l10 l11 l12 l13 l14 l15 l16 l17 l18 l19 l20 l21 : Value) {a : Nat} (hq : ¬ a = 23) (st : List Value) (ws : ai_W) : ai_Run 200 573 [.retAddr a, l1, l2, l3, l4, l5, l6, l7, l8, l9, l10, l11, l12, l13, l14, l15, l16, l17, l18, l19, l20, l21] st ws = ai_Run 200 574 [.retAddr a, l1, l2, l3, l4, l5, l6, l7, l8, l9, l10, l11, l12, l13, l14, l15, l16, l17, l18, l19, l20, l21] (.retAddr a :: st) ws := R_aload_nX hq hc_200 dL_isWell_573 rfl rfl
theorem r_200_574 (ls st : List Value) (ws : ai_W) : ai_Run 200 574 ls st ws = ai_Run 200 575 ls (.int 2 :: st) ws := R_iconst hc_200 dL_isWell_574 (by decide) rfl
theorem r_200_575 (ls : List Value) (r : Value) (b0 : Int32) (s0 : Value) (ws : ai_W) : ai_Run 200 575 ls [.int b0, r, s0] ws = (ai_Call 28 [r, .int b0] ws).bind fun q => ai_Run 200 578 ls (q.1.toList ++ [s0]) q.2 := R_callV hc_200 dL_isWell_575 hv_200 (w := 342) rfl (ai_lt3 hf_28 hf_200 hL_28 ho_28 ho_200 rfl) hk_28 (by rw [hn_28]; rfl) rfl (Nat.le_of_ble_eq_true rfl) rfl
theorem r_200_578 (ls st : List Value) (a b : Int32) (ws : ai_W) : ai_Run 200 578 ls (.int b :: .int a :: st) ws = if a = b then ai_Run 200 581 ls st ws else ai_Run 200 639 ls st ws := R_cmp_ne hc_200 dL_isWell_578 rfl rfl
theorem r_200_581 (l0 l1 l2 l4 l5 l6 l7 l8 l9 l10 l11 l12 l13 l14 l15 l16 l17 l18 l19 l20 l21 : Value) (a : Int32) (st : List Value) (ws : ai_W) : ai_Run 200 581 [l0, l1, l2, .int a, l4, l5, l6, l7, l8, l9, l10, l11, l12, l13, l14, l15, l16, l17, l18, l19, l20, l21] st ws = ai_Run 200 582 [l0, l1, l2, .int a, l4, l5, l6, l7, l8, l9, l10, l11, l12, l13, l14, l15, l16, l17, l18, l19, l20, l21] (.int a :: st) ws := R_iload_n hc_200 dL_isWell_581 rfl rfl
theorem r_200_582 (l1 l2 l3 l4 l5 l6 l7 l8 l9 l10 l11 l12 l13 l14 l15 l16 l17 l18 l19 l20 l21 : Value) (a : Nat) (st : List Value) (ws : ai_W) : ai_Run 200 582 [.ref a, l1, l2, l3, l4, l5, l6, l7, l8, l9, l10, l11, l12, l13, l14, l15, l16, l17, l18, l19, l20, l21] st ws = ai_Run 200 583 [.ref a, l1, l2, l3, l4, l5, l6, l7, l8, l9, l10, l11, l12, l13, l14, l15, l16, l17, l18, l19, l20, l21] (.ref a :: st) ws := R_aload_n hc_200 dL_isWell_582 rfl rfl
theorem rx_200_582 (l1 l2 l3 l4 l5 l6 l7 l8 l9 l10 l11 l12 l13 l14 l15 l16 l17 l18 l19 l20 l21 : Value) {a : Nat} (hq : ¬ a = 23) (st : List Value) (ws : ai_W) : ai_Run 200 582 [.retAddr a, l1, l2, l3, l4, l5, l6, l7, l8, l9, l10, l11, l12, l13, l14, l15, l16, l17, l18, l19, l20, l21] st ws = ai_Run 200 583 [.retAddr a, l1, l2, l3, l4, l5, l6, l7, l8, l9, l10, l11, l12, l13, l14, l15, l16, l17, l18, l19, l20, l21] (.retAddr a :: st) ws := R_aload_nX hq hc_200 dL_isWell_582 rfl rfl
theorem r_200_583 (ls st : List Value) (ws : ai_W) : ai_Run 200 583 ls st ws = ai_Run 200 584 ls (.int 3 :: st) ws := R_iconst hc_200 dL_isWell_583 (by decide) rfl
theorem r_200_584 (ls : List Value) (r : Value) (b0 : Int32) (s0 : Value) (ws : ai_W) : ai_Run 200 584 ls [.int b0, r, s0] ws = (ai_Call 28 [r, .int b0] ws).bind fun q => ai_Run 200 587 ls (q.1.toList ++ [s0]) q.2 := R_callV hc_200 dL_isWell_584 hv_200 (w := 342) rfl (ai_lt3 hf_28 hf_200 hL_28 ho_28 ho_200 rfl) hk_28 (by rw [hn_28]; rfl) rfl (Nat.le_of_ble_eq_true rfl) rfl
theorem r_200_587 (ls st : List Value) (a b : Int32) (ws : ai_W) : ai_Run 200 587 ls (.int b :: .int a :: st) ws = if a = b then ai_Run 200 590 ls st ws else ai_Run 200 639 ls st ws := R_cmp_ne hc_200 dL_isWell_587 rfl rfl
theorem r_200_590 (l0 l1 l2 l3 l5 l6 l7 l8 l9 l10 l11 l12 l13 l14 l15 l16 l17 l18 l19 l20 l21 : Value) (a : Int32) (st : List Value) (ws : ai_W) : ai_Run 200 590 [l0, l1, l2, l3, .int a, l5, l6, l7, l8, l9, l10, l11, l12, l13, l14, l15, l16, l17, l18, l19, l20, l21] st ws = ai_Run 200 592 [l0, l1, l2, l3, .int a, l5, l6, l7, l8, l9, l10, l11, l12, l13, l14, l15, l16, l17, l18, l19, l20, l21] (.int a :: st) ws := R_iload hc_200 dL_isWell_590 rfl rfl
theorem r_200_592 (l1 l2 l3 l4 l5 l6 l7 l8 l9 l10 l11 l12 l13 l14 l15 l16 l17 l18 l19 l20 l21 : Value) (a : Nat) (st : List Value) (ws : ai_W) : ai_Run 200 592 [.ref a, l1, l2, l3, l4, l5, l6, l7, l8, l9, l10, l11, l12, l13, l14, l15, l16, l17, l18, l19, l20, l21] st ws = ai_Run 200 593 [.ref a, l1, l2, l3, l4, l5, l6, l7, l8, l9, l10, l11, l12, l13, l14, l15, l16, l17, l18, l19, l20, l21] (.ref a :: st) ws := R_aload_n hc_200 dL_isWell_592 rfl rfl
theorem rx_200_592 (l1 l2 l3 l4 l5 l6 l7 l8 l9 l10 l11 l12 l13 l14 l15 l16 l17 l18 l19 l20 l21 : Value) {a : Nat} (hq : ¬ a = 23) (st : List Value) (ws : ai_W) : ai_Run 200 592 [.retAddr a, l1, l2, l3, l4, l5, l6, l7, l8, l9, l10, l11, l12, l13, l14, l15, l16, l17, l18, l19, l20, l21] st ws = ai_Run 200 593 [.retAddr a, l1, l2, l3, l4, l5, l6, l7, l8, l9, l10, l11, l12, l13, l14, l15, l16, l17, l18, l19, l20, l21] (.retAddr a :: st) ws := R_aload_nX hq hc_200 dL_isWell_592 rfl rfl
theorem r_200_593 (ls st : List Value) (ws : ai_W) : ai_Run 200 593 ls st ws = ai_Run 200 594 ls (.int 4 :: st) ws := R_iconst hc_200 dL_isWell_593 (by decide) rfl
theorem r_200_594 (ls : List Value) (r : Value) (b0 : Int32) (s0 : Value) (ws : ai_W) : ai_Run 200 594 ls [.int b0, r, s0] ws = (ai_Call 28 [r, .int b0] ws).bind fun q => ai_Run 200 597 ls (q.1.toList ++ [s0]) q.2 := R_callV hc_200 dL_isWell_594 hv_200 (w := 342) rfl (ai_lt3 hf_28 hf_200 hL_28 ho_28 ho_200 rfl) hk_28 (by rw [hn_28]; rfl) rfl (Nat.le_of_ble_eq_true rfl) rfl
theorem r_200_597 (ls st : List Value) (a b : Int32) (ws : ai_W) : ai_Run 200 597 ls (.int b :: .int a :: st) ws = if a = b then ai_Run 200 600 ls st ws else ai_Run 200 639 ls st ws := R_cmp_ne hc_200 dL_isWell_597 rfl rfl
theorem r_200_600 (l0 l1 l2 l3 l4 l6 l7 l8 l9 l10 l11 l12 l13 l14 l15 l16 l17 l18 l19 l20 l21 : Value) (a : Int32) (st : List Value) (ws : ai_W) : ai_Run 200 600 [l0, l1, l2, l3, l4, .int a, l6, l7, l8, l9, l10, l11, l12, l13, l14, l15, l16, l17, l18, l19, l20, l21] st ws = ai_Run 200 602 [l0, l1, l2, l3, l4, .int a, l6, l7, l8, l9, l10, l11, l12, l13, l14, l15, l16, l17, l18, l19, l20, l21] (.int a :: st) ws := R_iload hc_200 dL_isWell_600 rfl rfl
theorem r_200_602 (l0 l1 l2 l3 l5 l6 l7 l8 l9 l10 l11 l12 l13 l14 l15 l16 l17 l18 l19 l20 l21 : Value) (a : Int32) (st : List Value) (ws : ai_W) : ai_Run 200 602 [l0, l1, l2, l3, .int a, l5, l6, l7, l8, l9, l10, l11, l12, l13, l14, l15, l16, l17, l18, l19, l20, l21] st ws = ai_Run 200 604 [l0, l1, l2, l3, .int a, l5, l6, l7, l8, l9, l10, l11, l12, l13, l14, l15, l16, l17, l18, l19, l20, l21] (.int a :: st) ws := R_iload hc_200 dL_isWell_602 rfl rfl
theorem r_200_604 (ls st : List Value) (a b : Int32) (ws : ai_W) : ai_Run 200 604 ls (.int b :: .int a :: st) ws = if a = b then ai_Run 200 607 ls st ws else ai_Run 200 639 ls st ws := R_cmp_ne hc_200 dL_isWell_604 rfl rfl
theorem r_200_607 (l1 l2 l3 l4 l5 l6 l7 l8 l9 l10 l11 l12 l13 l14 l15 l16 l17 l18 l19 l20 l21 : Value) (a : Nat) (st : List Value) (ws : ai_W) : ai_Run 200 607 [.ref a, l1, l2, l3, l4, l5, l6, l7, l8, l9, l10, l11, l12, l13, l14, l15, l16, l17, l18, l19, l20, l21] st ws = ai_Run 200 608 [.ref a, l1, l2, l3, l4, l5, l6, l7, l8, l9, l10, l11, l12, l13, l14, l15, l16, l17, l18, l19, l20, l21] (.ref a :: st) ws := R_aload_n hc_200 dL_isWell_607 rfl rfl
theorem rx_200_607 (l1 l2 l3 l4 l5 l6 l7 l8 l9 l10 l11 l12 l13 l14 l15 l16 l17 l18 l19 l20 l21 : Value) {a : Nat} (hq : ¬ a = 23) (st : List Value) (ws : ai_W) : ai_Run 200 607 [.retAddr a, l1, l2, l3, l4, l5, l6, l7, l8, l9, l10, l11, l12, l13, l14, l15, l16, l17, l18, l19, l20, l21] st ws = ai_Run 200 608 [.retAddr a, l1, l2, l3, l4, l5, l6, l7, l8, l9, l10, l11, l12, l13, l14, l15, l16, l17, l18, l19, l20, l21] (.retAddr a :: st) ws := R_aload_nX hq hc_200 dL_isWell_607 rfl rfl
theorem r_200_608 (ls st : List Value) (ws : ai_W) : ai_Run 200 608 ls st ws = ai_Run 200 609 ls (.int 0 :: st) ws := R_iconst hc_200 dL_isWell_608 (by decide) rfl
theorem r_200_609 (ls : List Value) (r : Value) (b0 : Int32) (ws : ai_W) : ai_Run 200 609 ls [.int b0, r] ws = (ai_Call 102 [r, .int b0] ws).bind fun q => ai_Run 200 612 ls (q.1.toList ++ []) q.2 := R_callV hc_200 dL_isWell_609 hv_200 (w := 1230) rfl (ai_lt3 hf_102 hf_200 hL_102 ho_102 ho_200 rfl) hk_102 (by rw [hn_102]; rfl) rfl (Nat.le_of_ble_eq_true rfl) rfl
theorem r_200_612 (l0 l1 l2 l3 l4 l5 l7 l8 l9 l10 l11 l12 l13 l14 l15 l16 l17 l18 l19 l20 l21 : Value) (a : Int32) (st : List Value) (ws : ai_W) : ai_Run 200 612 [l0, l1, l2, l3, l4, l5, .int a, l7, l8, l9, l10, l11, l12, l13, l14, l15, l16, l17, l18, l19, l20, l21] st ws = ai_Run 200 614 [l0, l1, l2, l3, l4, l5, .int a, l7, l8, l9, l10, l11, l12, l13, l14, l15, l16, l17, l18, l19, l20, l21] (.int a :: st) ws := R_iload hc_200 dL_isWell_612 rfl rfl
theorem r_200_614 (ls st : List Value) (a b : Int32) (ws : ai_W) : ai_Run 200 614 ls (.int b :: .int a :: st) ws = if a = b then ai_Run 200 617 ls st ws else ai_Run 200 639 ls st ws := R_cmp_ne hc_200 dL_isWell_614 rfl rfl
theorem r_200_617 (l1 l2 l3 l4 l5 l6 l7 l8 l9 l10 l11 l12 l13 l14 l15 l16 l17 l18 l19 l20 l21 : Value) (a : Nat) (st : List Value) (ws : ai_W) : ai_Run 200 617 [.ref a, l1, l2, l3, l4, l5, l6, l7, l8, l9, l10, l11, l12, l13, l14, l15, l16, l17, l18, l19, l20, l21] st ws = ai_Run 200 618 [.ref a, l1, l2, l3, l4, l5, l6, l7, l8, l9, l10, l11, l12, l13, l14, l15, l16, l17, l18, l19, l20, l21] (.ref a :: st) ws := R_aload_n hc_200 dL_isWell_617 rfl rfl
theorem rx_200_617 (l1 l2 l3 l4 l5 l6 l7 l8 l9 l10 l11 l12 l13 l14 l15 l16 l17 l18 l19 l20 l21 : Value) {a : Nat} (hq : ¬ a = 23) (st : List Value) (ws : ai_W) : ai_Run 200 617 [.retAddr a, l1, l2, l3, l4, l5, l6, l7, l8, l9, l10, l11, l12, l13, l14, l15, l16, l17, l18, l19, l20, l21] st ws = ai_Run 200 618 [.retAddr a, l1, l2, l3, l4, l5, l6, l7, l8, l9, l10, l11, l12, l13, l14, l15, l16, l17, l18, l19, l20, l21] (.retAddr a :: st) ws := R_aload_nX hq hc_200 dL_isWell_617 rfl rfl
theorem r_200_618 (ls st : List Value) (ws : ai_W) : ai_Run 200 618 ls st ws = ai_Run 200 619 ls (.int 1 :: st) ws := R_iconst hc_200 dL_isWell_618 (by decide) rfl
theorem r_200_619 (ls : List Value) (r : Value) (b0 : Int32) (ws : ai_W) : ai_Run 200 619 ls [.int b0, r] ws = (ai_Call 102 [r, .int b0] ws).bind fun q => ai_Run 200 622 ls (q.1.toList ++ []) q.2 := R_callV hc_200 dL_isWell_619 hv_200 (w := 1230) rfl (ai_lt3 hf_102 hf_200 hL_102 ho_102 ho_200 rfl) hk_102 (by rw [hn_102]; rfl) rfl (Nat.le_of_ble_eq_true rfl) rfl
theorem r_200_622 (l0 l1 l2 l3 l4 l5 l6 l8 l9 l10 l11 l12 l13 l14 l15 l16 l17 l18 l19 l20 l21 : Value) (a : Int32) (st : List Value) (ws : ai_W) : ai_Run 200 622 [l0, l1, l2, l3, l4, l5, l6, .int a, l8, l9, l10, l11, l12, l13, l14, l15, l16, l17, l18, l19, l20, l21] st ws = ai_Run 200 624 [l0, l1, l2, l3, l4, l5, l6, .int a, l8, l9, l10, l11, l12, l13, l14, l15, l16, l17, l18, l19, l20, l21] (.int a :: st) ws := R_iload hc_200 dL_isWell_622 rfl rfl
theorem r_200_624 (ls st : List Value) (a b : Int32) (ws : ai_W) : ai_Run 200 624 ls (.int b :: .int a :: st) ws = if a = b then ai_Run 200 627 ls st ws else ai_Run 200 639 ls st ws := R_cmp_ne hc_200 dL_isWell_624 rfl rfl
theorem r_200_627 (l1 l2 l3 l4 l5 l6 l7 l8 l9 l10 l11 l12 l13 l14 l15 l16 l17 l18 l19 l20 l21 : Value) (a : Nat) (st : List Value) (ws : ai_W) : ai_Run 200 627 [.ref a, l1, l2, l3, l4, l5, l6, l7, l8, l9, l10, l11, l12, l13, l14, l15, l16, l17, l18, l19, l20, l21] st ws = ai_Run 200 628 [.ref a, l1, l2, l3, l4, l5, l6, l7, l8, l9, l10, l11, l12, l13, l14, l15, l16, l17, l18, l19, l20, l21] (.ref a :: st) ws := R_aload_n hc_200 dL_isWell_627 rfl rfl
theorem rx_200_627 (l1 l2 l3 l4 l5 l6 l7 l8 l9 l10 l11 l12 l13 l14 l15 l16 l17 l18 l19 l20 l21 : Value) {a : Nat} (hq : ¬ a = 23) (st : List Value) (ws : ai_W) : ai_Run 200 627 [.retAddr a, l1, l2, l3, l4, l5, l6, l7, l8, l9, l10, l11, l12, l13, l14, l15, l16, l17, l18, l19, l20, l21] st ws = ai_Run 200 628 [.retAddr a, l1, l2, l3, l4, l5, l6, l7, l8, l9, l10, l11, l12, l13, l14, l15, l16, l17, l18, l19, l20, l21] (.retAddr a :: st) ws := R_aload_nX hq hc_200 dL_isWell_627 rfl rfl
theorem r_200_628 (ls : List Value) (r : Value) (ws : ai_W) : ai_Run 200 628 ls [r] ws = (ai_Call 116 [r] ws).bind fun q => ai_Run 200 631 ls (q.1.toList ++ []) q.2 := R_callV hc_200 dL_isWell_628 hv_200 (w := 1242) rfl (ai_lt3 hf_116 hf_200 hL_116 ho_116 ho_200 rfl) hk_116 (by rw [hn_116]; rfl) rfl (Nat.le_of_ble_eq_true rfl) rfl
theorem r_200_631 (ls st : List Value) (ws : ai_W) : ai_Run 200 631 ls st ws = ai_Run 200 632 ls (.int 1 :: st) ws := R_iconst hc_200 dL_isWell_631 (by decide) rfl
theorem r_200_632 (ls st : List Value) (a b : Int32) (ws : ai_W) : ai_Run 200 632 ls (.int b :: .int a :: st) ws = if a = b then ai_Run 200 635 ls st ws else ai_Run 200 639 ls st ws := R_cmp_ne hc_200 dL_isWell_632 rfl rfl
theorem r_200_635 (ls st : List Value) (ws : ai_W) : ai_Run 200 635 ls st ws = ai_Run 200 636 ls (.int 1 :: st) ws := R_iconst hc_200 dL_isWell_635 (by decide) rfl
theorem r_200_636 (ls st : List Value) (ws : ai_W) : ai_Run 200 636 ls st ws = ai_Run 200 640 ls st ws := R_goto hc_200 dL_isWell_636 rfl
theorem r_200_639 (ls st : List Value) (ws : ai_W) : ai_Run 200 639 ls st ws = ai_Run 200 640 ls (.int 0 :: st) ws := R_iconst hc_200 dL_isWell_639 (by decide) rfl
theorem r_200_640 (ls : List Value) (x : Int32) (ws : ai_W) : ai_Run 200 640 ls [.int x] ws = if ai_pb x = true then some (some (.int x), ws) else none := R_zret hc_200 dL_isWell_640 ht_200
theorem dL_seen_0 : decode cL_seen 0 = .ok (.sipush 260, 3) := by decide +kernel
theorem dL_seen_3 : decode cL_seen 3 = .ok (.newarray .int, 2) := by decide +kernel
theorem dL_seen_5 : decode cL_seen 5 = .ok (.astore_n 1, 1) := by decide +kernel
theorem dL_seen_6 : decode cL_seen 6 = .ok (.aload_n 0, 1) := by decide +kernel
theorem dL_seen_7 : decode cL_seen 7 = .ok (.iconst 0, 1) := by decide +kernel
theorem dL_seen_8 : decode cL_seen 8 = .ok (.invokevirtual 114, 3) := by decide +kernel
theorem dL_seen_11 : decode cL_seen 11 = .ok (.istore_n 2, 1) := by decide +kernel
theorem dL_seen_12 : decode cL_seen 12 = .ok (.iconst 0, 1) := by decide +kernel
theorem dL_seen_13 : decode cL_seen 13 = .ok (.istore_n 3, 1) := by decide +kernel
theorem dL_seen_14 : decode cL_seen 14 = .ok (.iload_n 3, 1) := by decide +kernel
theorem dL_seen_15 : decode cL_seen 15 = .ok (.bipush 9, 2) := by decide +kernel
theorem dL_seen_17 : decode cL_seen 17 = .ok (.if_icmp .ge 17, 3) := by decide +kernel
theorem dL_seen_20 : decode cL_seen 20 = .ok (.aload_n 1, 1) := by decide +kernel
theorem dL_seen_21 : decode cL_seen 21 = .ok (.iload_n 3, 1) := by decide +kernel
theorem dL_seen_22 : decode cL_seen 22 = .ok (.aload_n 0, 1) := by decide +kernel
theorem dL_seen_23 : decode cL_seen 23 = .ok (.iload_n 3, 1) := by decide +kernel
theorem dL_seen_24 : decode cL_seen 24 = .ok (.invokevirtual 114, 3) := by decide +kernel
theorem dL_seen_27 : decode cL_seen 27 = .ok (.iastore, 1) := by decide +kernel
theorem dL_seen_28 : decode cL_seen 28 = .ok (.iinc 3 1, 3) := by decide +kernel
theorem dL_seen_31 : decode cL_seen 31 = .ok (.goto (-17), 3) := by decide +kernel
theorem dL_seen_34 : decode cL_seen 34 = .ok (.iconst 1, 1) := by decide +kernel
theorem dL_seen_35 : decode cL_seen 35 = .ok (.istore_n 3, 1) := by decide +kernel
theorem dL_seen_36 : decode cL_seen 36 = .ok (.iload_n 3, 1) := by decide +kernel
theorem dL_seen_37 : decode cL_seen 37 = .ok (.bipush 30, 2) := by decide +kernel
theorem dL_seen_39 : decode cL_seen 39 = .ok (.if_icmp .gt 31, 3) := by decide +kernel
theorem dL_seen_42 : decode cL_seen 42 = .ok (.aload_n 1, 1) := by decide +kernel
theorem dL_seen_43 : decode cL_seen 43 = .ok (.bipush 9, 2) := by decide +kernel
theorem dL_seen_45 : decode cL_seen 45 = .ok (.iload_n 3, 1) := by decide +kernel
theorem dL_seen_46 : decode cL_seen 46 = .ok (.iadd, 1) := by decide +kernel
theorem dL_seen_47 : decode cL_seen 47 = .ok (.aload_n 0, 1) := by decide +kernel
theorem dL_seen_48 : decode cL_seen 48 = .ok (.iload_n 3, 1) := by decide +kernel
theorem dL_seen_49 : decode cL_seen 49 = .ok (.invokevirtual 117, 3) := by decide +kernel
theorem dL_seen_52 : decode cL_seen 52 = .ok (.iastore, 1) := by decide +kernel
theorem dL_seen_53 : decode cL_seen 53 = .ok (.aload_n 1, 1) := by decide +kernel
theorem dL_seen_54 : decode cL_seen 54 = .ok (.bipush 40, 2) := by decide +kernel
theorem dL_seen_56 : decode cL_seen 56 = .ok (.iload_n 3, 1) := by decide +kernel
theorem dL_seen_57 : decode cL_seen 57 = .ok (.iadd, 1) := by decide +kernel
theorem dL_seen_58 : decode cL_seen 58 = .ok (.aload_n 0, 1) := by decide +kernel
theorem dL_seen_59 : decode cL_seen 59 = .ok (.iload_n 3, 1) := by decide +kernel
theorem dL_seen_60 : decode cL_seen 60 = .ok (.invokevirtual 120, 3) := by decide +kernel
theorem dL_seen_63 : decode cL_seen 63 = .ok (.iastore, 1) := by decide +kernel
theorem dL_seen_64 : decode cL_seen 64 = .ok (.iinc 3 1, 3) := by decide +kernel
theorem dL_seen_67 : decode cL_seen 67 = .ok (.goto (-31), 3) := by decide +kernel
theorem dL_seen_70 : decode cL_seen 70 = .ok (.iconst 0, 1) := by decide +kernel
theorem dL_seen_71 : decode cL_seen 71 = .ok (.istore_n 3, 1) := by decide +kernel
theorem dL_seen_72 : decode cL_seen 72 = .ok (.iload_n 3, 1) := by decide +kernel
theorem dL_seen_73 : decode cL_seen 73 = .ok (.iload_n 2, 1) := by decide +kernel
theorem dL_seen_74 : decode cL_seen 74 = .ok (.if_icmp .ge 125, 3) := by decide +kernel
theorem dL_seen_77 : decode cL_seen 77 = .ok (.iconst 0, 1) := by decide +kernel
theorem dL_seen_78 : decode cL_seen 78 = .ok (.istore 4, 2) := by decide +kernel
theorem dL_seen_80 : decode cL_seen 80 = .ok (.iload 4, 2) := by decide +kernel
theorem dL_seen_82 : decode cL_seen 82 = .ok (.iconst 3, 1) := by decide +kernel
theorem dL_seen_83 : decode cL_seen 83 = .ok (.if_icmp .ge 75, 3) := by decide +kernel
theorem dL_seen_86 : decode cL_seen 86 = .ok (.aload_n 1, 1) := by decide +kernel
theorem dL_seen_87 : decode cL_seen 87 = .ok (.bipush 72, 2) := by decide +kernel
theorem dL_seen_89 : decode cL_seen 89 = .ok (.bipush 9, 2) := by decide +kernel
theorem dL_seen_91 : decode cL_seen 91 = .ok (.iload_n 3, 1) := by decide +kernel
theorem dL_seen_92 : decode cL_seen 92 = .ok (.imul, 1) := by decide +kernel
theorem dL_seen_93 : decode cL_seen 93 = .ok (.iadd, 1) := by decide +kernel
theorem dL_seen_94 : decode cL_seen 94 = .ok (.iconst 3, 1) := by decide +kernel
theorem dL_seen_95 : decode cL_seen 95 = .ok (.iload 4, 2) := by decide +kernel
theorem dL_seen_97 : decode cL_seen 97 = .ok (.imul, 1) := by decide +kernel
theorem dL_seen_98 : decode cL_seen 98 = .ok (.iadd, 1) := by decide +kernel
theorem dL_seen_99 : decode cL_seen 99 = .ok (.aload_n 0, 1) := by decide +kernel
theorem dL_seen_100 : decode cL_seen 100 = .ok (.iload_n 3, 1) := by decide +kernel
theorem dL_seen_101 : decode cL_seen 101 = .ok (.iload 4, 2) := by decide +kernel
theorem dL_seen_103 : decode cL_seen 103 = .ok (.iconst 0, 1) := by decide +kernel
theorem dL_seen_104 : decode cL_seen 104 = .ok (.invokevirtual 123, 3) := by decide +kernel
theorem dL_seen_107 : decode cL_seen 107 = .ok (.iastore, 1) := by decide +kernel
theorem dL_seen_108 : decode cL_seen 108 = .ok (.aload_n 1, 1) := by decide +kernel
theorem dL_seen_109 : decode cL_seen 109 = .ok (.bipush 73, 2) := by decide +kernel
theorem dL_seen_111 : decode cL_seen 111 = .ok (.bipush 9, 2) := by decide +kernel
theorem dL_seen_113 : decode cL_seen 113 = .ok (.iload_n 3, 1) := by decide +kernel
theorem dL_seen_114 : decode cL_seen 114 = .ok (.imul, 1) := by decide +kernel
theorem dL_seen_115 : decode cL_seen 115 = .ok (.iadd, 1) := by decide +kernel
theorem dL_seen_116 : decode cL_seen 116 = .ok (.iconst 3, 1) := by decide +kernel
theorem dL_seen_117 : decode cL_seen 117 = .ok (.iload 4, 2) := by decide +kernel
theorem dL_seen_119 : decode cL_seen 119 = .ok (.imul, 1) := by decide +kernel
theorem dL_seen_120 : decode cL_seen 120 = .ok (.iadd, 1) := by decide +kernel
theorem dL_seen_121 : decode cL_seen 121 = .ok (.aload_n 0, 1) := by decide +kernel
theorem dL_seen_122 : decode cL_seen 122 = .ok (.iload_n 3, 1) := by decide +kernel
theorem dL_seen_123 : decode cL_seen 123 = .ok (.iload 4, 2) := by decide +kernel
theorem dL_seen_125 : decode cL_seen 125 = .ok (.iconst 1, 1) := by decide +kernel
theorem dL_seen_126 : decode cL_seen 126 = .ok (.invokevirtual 123, 3) := by decide +kernel
theorem dL_seen_129 : decode cL_seen 129 = .ok (.iastore, 1) := by decide +kernel
theorem dL_seen_130 : decode cL_seen 130 = .ok (.aload_n 1, 1) := by decide +kernel
theorem dL_seen_131 : decode cL_seen 131 = .ok (.bipush 74, 2) := by decide +kernel
theorem dL_seen_133 : decode cL_seen 133 = .ok (.bipush 9, 2) := by decide +kernel
theorem dL_seen_135 : decode cL_seen 135 = .ok (.iload_n 3, 1) := by decide +kernel
theorem dL_seen_136 : decode cL_seen 136 = .ok (.imul, 1) := by decide +kernel
theorem dL_seen_137 : decode cL_seen 137 = .ok (.iadd, 1) := by decide +kernel
theorem dL_seen_138 : decode cL_seen 138 = .ok (.iconst 3, 1) := by decide +kernel
theorem dL_seen_139 : decode cL_seen 139 = .ok (.iload 4, 2) := by decide +kernel
theorem dL_seen_141 : decode cL_seen 141 = .ok (.imul, 1) := by decide +kernel
theorem dL_seen_142 : decode cL_seen 142 = .ok (.iadd, 1) := by decide +kernel
theorem dL_seen_143 : decode cL_seen 143 = .ok (.aload_n 0, 1) := by decide +kernel
theorem dL_seen_144 : decode cL_seen 144 = .ok (.iload_n 3, 1) := by decide +kernel
theorem dL_seen_145 : decode cL_seen 145 = .ok (.iload 4, 2) := by decide +kernel
theorem dL_seen_147 : decode cL_seen 147 = .ok (.iconst 4, 1) := by decide +kernel
theorem dL_seen_148 : decode cL_seen 148 = .ok (.invokevirtual 123, 3) := by decide +kernel
theorem dL_seen_151 : decode cL_seen 151 = .ok (.iastore, 1) := by decide +kernel
theorem dL_seen_152 : decode cL_seen 152 = .ok (.iinc 4 1, 3) := by decide +kernel
theorem dL_seen_155 : decode cL_seen 155 = .ok (.goto (-75), 3) := by decide +kernel
theorem dL_seen_158 : decode cL_seen 158 = .ok (.iconst 0, 1) := by decide +kernel
theorem dL_seen_159 : decode cL_seen 159 = .ok (.istore 4, 2) := by decide +kernel
theorem dL_seen_161 : decode cL_seen 161 = .ok (.iload 4, 2) := by decide +kernel
theorem dL_seen_163 : decode cL_seen 163 = .ok (.iload_n 2, 1) := by decide +kernel
theorem dL_seen_164 : decode cL_seen 164 = .ok (.if_icmp .ge 29, 3) := by decide +kernel
theorem dL_seen_167 : decode cL_seen 167 = .ok (.aload_n 1, 1) := by decide +kernel
theorem dL_seen_168 : decode cL_seen 168 = .ok (.sipush 145, 3) := by decide +kernel
theorem dL_seen_171 : decode cL_seen 171 = .ok (.bipush 8, 2) := by decide +kernel
theorem dL_seen_173 : decode cL_seen 173 = .ok (.iload_n 3, 1) := by decide +kernel
theorem dL_seen_174 : decode cL_seen 174 = .ok (.imul, 1) := by decide +kernel
theorem dL_seen_175 : decode cL_seen 175 = .ok (.iadd, 1) := by decide +kernel
theorem dL_seen_176 : decode cL_seen 176 = .ok (.iload 4, 2) := by decide +kernel
theorem dL_seen_178 : decode cL_seen 178 = .ok (.iadd, 1) := by decide +kernel
theorem dL_seen_179 : decode cL_seen 179 = .ok (.aload_n 0, 1) := by decide +kernel
theorem dL_seen_180 : decode cL_seen 180 = .ok (.iload_n 3, 1) := by decide +kernel
theorem dL_seen_181 : decode cL_seen 181 = .ok (.iload 4, 2) := by decide +kernel
theorem dL_seen_183 : decode cL_seen 183 = .ok (.invokevirtual 126, 3) := by decide +kernel
theorem dL_seen_186 : decode cL_seen 186 = .ok (.iastore, 1) := by decide +kernel
theorem dL_seen_187 : decode cL_seen 187 = .ok (.iinc 4 1, 3) := by decide +kernel
theorem dL_seen_190 : decode cL_seen 190 = .ok (.goto (-29), 3) := by decide +kernel
theorem dL_seen_193 : decode cL_seen 193 = .ok (.iinc 3 1, 3) := by decide +kernel
theorem dL_seen_196 : decode cL_seen 196 = .ok (.goto (-124), 3) := by decide +kernel
theorem dL_seen_199 : decode cL_seen 199 = .ok (.iconst 0, 1) := by decide +kernel
theorem dL_seen_200 : decode cL_seen 200 = .ok (.istore_n 3, 1) := by decide +kernel
theorem dL_seen_201 : decode cL_seen 201 = .ok (.iload_n 3, 1) := by decide +kernel
theorem dL_seen_202 : decode cL_seen 202 = .ok (.iconst 4, 1) := by decide +kernel
theorem dL_seen_203 : decode cL_seen 203 = .ok (.if_icmp .ge 35, 3) := by decide +kernel
theorem dL_seen_206 : decode cL_seen 206 = .ok (.aload_n 1, 1) := by decide +kernel
theorem dL_seen_207 : decode cL_seen 207 = .ok (.sipush 210, 3) := by decide +kernel
theorem dL_seen_210 : decode cL_seen 210 = .ok (.iload_n 3, 1) := by decide +kernel
theorem dL_seen_211 : decode cL_seen 211 = .ok (.iadd, 1) := by decide +kernel
theorem dL_seen_212 : decode cL_seen 212 = .ok (.aload_n 0, 1) := by decide +kernel
theorem dL_seen_213 : decode cL_seen 213 = .ok (.iload_n 3, 1) := by decide +kernel
theorem dL_seen_214 : decode cL_seen 214 = .ok (.iconst 0, 1) := by decide +kernel
theorem dL_seen_215 : decode cL_seen 215 = .ok (.invokevirtual 129, 3) := by decide +kernel
theorem dL_seen_218 : decode cL_seen 218 = .ok (.iastore, 1) := by decide +kernel
theorem dL_seen_219 : decode cL_seen 219 = .ok (.aload_n 1, 1) := by decide +kernel
theorem dL_seen_220 : decode cL_seen 220 = .ok (.sipush 215, 3) := by decide +kernel
theorem dL_seen_223 : decode cL_seen 223 = .ok (.iload_n 3, 1) := by decide +kernel
theorem dL_seen_224 : decode cL_seen 224 = .ok (.iadd, 1) := by decide +kernel
theorem dL_seen_225 : decode cL_seen 225 = .ok (.aload_n 0, 1) := by decide +kernel
theorem dL_seen_226 : decode cL_seen 226 = .ok (.iload_n 3, 1) := by decide +kernel
theorem dL_seen_227 : decode cL_seen 227 = .ok (.iconst 1, 1) := by decide +kernel
theorem dL_seen_228 : decode cL_seen 228 = .ok (.invokevirtual 129, 3) := by decide +kernel
theorem dL_seen_231 : decode cL_seen 231 = .ok (.iastore, 1) := by decide +kernel
theorem dL_seen_232 : decode cL_seen 232 = .ok (.iinc 3 1, 3) := by decide +kernel
theorem dL_seen_235 : decode cL_seen 235 = .ok (.goto (-34), 3) := by decide +kernel
theorem dL_seen_238 : decode cL_seen 238 = .ok (.aload_n 0, 1) := by decide +kernel
theorem dL_seen_239 : decode cL_seen 239 = .ok (.invokevirtual 132, 3) := by decide +kernel
theorem dL_seen_242 : decode cL_seen 242 = .ok (.istore_n 3, 1) := by decide +kernel
theorem dL_seen_243 : decode cL_seen 243 = .ok (.iconst 0, 1) := by decide +kernel
theorem dL_seen_244 : decode cL_seen 244 = .ok (.istore 4, 2) := by decide +kernel
theorem dL_seen_246 : decode cL_seen 246 = .ok (.iload 4, 2) := by decide +kernel
theorem dL_seen_248 : decode cL_seen 248 = .ok (.iload_n 3, 1) := by decide +kernel
theorem dL_seen_249 : decode cL_seen 249 = .ok (.if_icmp .ge 23, 3) := by decide +kernel
theorem dL_seen_252 : decode cL_seen 252 = .ok (.aload_n 1, 1) := by decide +kernel
theorem dL_seen_253 : decode cL_seen 253 = .ok (.sipush 220, 3) := by decide +kernel
theorem dL_seen_256 : decode cL_seen 256 = .ok (.iload 4, 2) := by decide +kernel
theorem dL_seen_258 : decode cL_seen 258 = .ok (.iadd, 1) := by decide +kernel
theorem dL_seen_259 : decode cL_seen 259 = .ok (.aload_n 0, 1) := by decide +kernel
theorem dL_seen_260 : decode cL_seen 260 = .ok (.iload 4, 2) := by decide +kernel
theorem dL_seen_262 : decode cL_seen 262 = .ok (.invokevirtual 135, 3) := by decide +kernel
theorem dL_seen_265 : decode cL_seen 265 = .ok (.iastore, 1) := by decide +kernel
theorem dL_seen_266 : decode cL_seen 266 = .ok (.iinc 4 1, 3) := by decide +kernel
theorem dL_seen_269 : decode cL_seen 269 = .ok (.goto (-23), 3) := by decide +kernel
theorem dL_seen_272 : decode cL_seen 272 = .ok (.aload_n 1, 1) := by decide +kernel
theorem dL_seen_273 : decode cL_seen 273 = .ok (.areturn, 1) := by decide +kernel
theorem e_201 (a0 : Nat) (ws : ai_W) : ai_Call 201 [.ref a0] ws = ai_Run 201 0 [.ref a0, .null, .null, .null, .null] [] ws := R_entS hk_201 ⟨⟨rfl, rfl⟩, Nat.le_of_ble_eq_true rfl⟩ rfl
theorem r_201_0 (ls st : List Value) (ws : ai_W) : ai_Run 201 0 ls st ws = ai_Run 201 3 ls (.int 260 :: st) ws := R_sipush hc_201 dL_seen_0 (by decide) rfl
theorem r_201_3 (ls st : List Value) (q : Int32) (ws : ai_W) : ai_Run 201 3 ls (.int q :: st) ws = if q < 0 ∨ 100000 < q.toNatClampNeg then none else ai_Run 201 5 ls (.ref ws.length :: st) (ws ++ [.inl (List.replicate q.toNatClampNeg 0)]) := R_newa hc_201 dL_seen_3 rfl
theorem r_201_5 (l0 l1 l2 l3 l4 : Value) (a : Nat) (st : List Value) (ws : ai_W) : ai_Run 201 5 [l0, l1, l2, l3, l4] (.ref a :: st) ws = ai_Run 201 6 [l0, .ref a, l2, l3, l4] st ws := R_astore_n hc_201 dL_seen_5 (Nat.le_of_ble_eq_true rfl) rfl rfl
theorem r_201_6 (l1 l2 l3 l4 : Value) (a : Nat) (st : List Value) (ws : ai_W) : ai_Run 201 6 [.ref a, l1, l2, l3, l4] st ws = ai_Run 201 7 [.ref a, l1, l2, l3, l4] (.ref a :: st) ws := R_aload_n hc_201 dL_seen_6 rfl rfl
theorem rx_201_6 (l1 l2 l3 l4 : Value) {a : Nat} (hq : ¬ a = 23) (st : List Value) (ws : ai_W) : ai_Run 201 6 [.retAddr a, l1, l2, l3, l4] st ws = ai_Run 201 7 [.retAddr a, l1, l2, l3, l4] (.retAddr a :: st) ws := R_aload_nX hq hc_201 dL_seen_6 rfl rfl
theorem r_201_7 (ls st : List Value) (ws : ai_W) : ai_Run 201 7 ls st ws = ai_Run 201 8 ls (.int 0 :: st) ws := R_iconst hc_201 dL_seen_7 (by decide) rfl
theorem r_201_8 (ls : List Value) (r : Value) (b0 : Int32) (ws : ai_W) : ai_Run 201 8 ls [.int b0, r] ws = (ai_Call 28 [r, .int b0] ws).bind fun q => ai_Run 201 11 ls (q.1.toList ++ []) q.2 := R_callV hc_201 dL_seen_8 hv_201 (w := 342) rfl (ai_lt3 hf_28 hf_201 hL_28 ho_28 ho_201 rfl) hk_28 (by rw [hn_28]; rfl) rfl (Nat.le_of_ble_eq_true rfl) rfl
theorem r_201_11 (l0 l1 l2 l3 l4 : Value) (a : Int32) (st : List Value) (ws : ai_W) : ai_Run 201 11 [l0, l1, l2, l3, l4] (.int a :: st) ws = ai_Run 201 12 [l0, l1, .int a, l3, l4] st ws := R_istore_n hc_201 dL_seen_11 (Nat.le_of_ble_eq_true rfl) rfl rfl
theorem r_201_12 (ls st : List Value) (ws : ai_W) : ai_Run 201 12 ls st ws = ai_Run 201 13 ls (.int 0 :: st) ws := R_iconst hc_201 dL_seen_12 (by decide) rfl
theorem r_201_13 (l0 l1 l2 l3 l4 : Value) (a : Int32) (st : List Value) (ws : ai_W) : ai_Run 201 13 [l0, l1, l2, l3, l4] (.int a :: st) ws = ai_Run 201 14 [l0, l1, l2, .int a, l4] st ws := R_istore_n hc_201 dL_seen_13 (Nat.le_of_ble_eq_true rfl) rfl rfl
theorem r_201_14 (l0 l1 l2 l4 : Value) (a : Int32) (st : List Value) (ws : ai_W) : ai_Run 201 14 [l0, l1, l2, .int a, l4] st ws = ai_Run 201 15 [l0, l1, l2, .int a, l4] (.int a :: st) ws := R_iload_n hc_201 dL_seen_14 rfl rfl
theorem r_201_15 (ls st : List Value) (ws : ai_W) : ai_Run 201 15 ls st ws = ai_Run 201 17 ls (.int 9 :: st) ws := R_bipush hc_201 dL_seen_15 (by decide) rfl
theorem r_201_17 (ls st : List Value) (a b : Int32) (ws : ai_W) : ai_Run 201 17 ls (.int b :: .int a :: st) ws = if a < b then ai_Run 201 20 ls st ws else ai_Run 201 34 ls st ws := R_cmp_ge hc_201 dL_seen_17 rfl rfl
theorem r_201_20 (l0 l2 l3 l4 : Value) (a : Nat) (st : List Value) (ws : ai_W) : ai_Run 201 20 [l0, .ref a, l2, l3, l4] st ws = ai_Run 201 21 [l0, .ref a, l2, l3, l4] (.ref a :: st) ws := R_aload_n hc_201 dL_seen_20 rfl rfl
theorem rx_201_20 (l0 l2 l3 l4 : Value) {a : Nat} (hq : ¬ a = 23) (st : List Value) (ws : ai_W) : ai_Run 201 20 [l0, .retAddr a, l2, l3, l4] st ws = ai_Run 201 21 [l0, .retAddr a, l2, l3, l4] (.retAddr a :: st) ws := R_aload_nX hq hc_201 dL_seen_20 rfl rfl
theorem r_201_21 (l0 l1 l2 l4 : Value) (a : Int32) (st : List Value) (ws : ai_W) : ai_Run 201 21 [l0, l1, l2, .int a, l4] st ws = ai_Run 201 22 [l0, l1, l2, .int a, l4] (.int a :: st) ws := R_iload_n hc_201 dL_seen_21 rfl rfl
theorem r_201_22 (l1 l2 l3 l4 : Value) (a : Nat) (st : List Value) (ws : ai_W) : ai_Run 201 22 [.ref a, l1, l2, l3, l4] st ws = ai_Run 201 23 [.ref a, l1, l2, l3, l4] (.ref a :: st) ws := R_aload_n hc_201 dL_seen_22 rfl rfl
theorem rx_201_22 (l1 l2 l3 l4 : Value) {a : Nat} (hq : ¬ a = 23) (st : List Value) (ws : ai_W) : ai_Run 201 22 [.retAddr a, l1, l2, l3, l4] st ws = ai_Run 201 23 [.retAddr a, l1, l2, l3, l4] (.retAddr a :: st) ws := R_aload_nX hq hc_201 dL_seen_22 rfl rfl
theorem r_201_23 (l0 l1 l2 l4 : Value) (a : Int32) (st : List Value) (ws : ai_W) : ai_Run 201 23 [l0, l1, l2, .int a, l4] st ws = ai_Run 201 24 [l0, l1, l2, .int a, l4] (.int a :: st) ws := R_iload_n hc_201 dL_seen_23 rfl rfl
theorem r_201_24 (ls : List Value) (r : Value) (b0 : Int32) (s0 s1 : Value) (ws : ai_W) : ai_Run 201 24 ls [.int b0, r, s0, s1] ws = (ai_Call 28 [r, .int b0] ws).bind fun q => ai_Run 201 27 ls (q.1.toList ++ [s0, s1]) q.2 := R_callV hc_201 dL_seen_24 hv_201 (w := 342) rfl (ai_lt3 hf_28 hf_201 hL_28 ho_28 ho_201 rfl) hk_28 (by rw [hn_28]; rfl) rfl (Nat.le_of_ble_eq_true rfl) rfl
theorem r_201_27 (ls st : List Value) (a : Nat) (i x : Int32) (ws : ai_W) : ai_Run 201 27 ls (.int x :: .int i :: .ref a :: st) ws = (ai_aset ws a i x).bind fun ws => ai_Run 201 28 ls st ws := R_iastore hc_201 dL_seen_27 rfl
theorem r_201_28 (l0 l1 l2 l4 : Value) (a : Int32) (st : List Value) (ws : ai_W) : ai_Run 201 28 [l0, l1, l2, .int a, l4] st ws = ai_Run 201 31 [l0, l1, l2, .int (a + 1), l4] st ws := R_iinc hc_201 dL_seen_28 rfl (by decide) rfl rfl
theorem r_201_31 (ls st : List Value) (ws : ai_W) : ai_Run 201 31 ls st ws = ai_Run 201 14 ls st ws := R_goto hc_201 dL_seen_31 rfl
theorem r_201_34 (ls st : List Value) (ws : ai_W) : ai_Run 201 34 ls st ws = ai_Run 201 35 ls (.int 1 :: st) ws := R_iconst hc_201 dL_seen_34 (by decide) rfl
theorem r_201_35 (l0 l1 l2 l3 l4 : Value) (a : Int32) (st : List Value) (ws : ai_W) : ai_Run 201 35 [l0, l1, l2, l3, l4] (.int a :: st) ws = ai_Run 201 36 [l0, l1, l2, .int a, l4] st ws := R_istore_n hc_201 dL_seen_35 (Nat.le_of_ble_eq_true rfl) rfl rfl
theorem r_201_36 (l0 l1 l2 l4 : Value) (a : Int32) (st : List Value) (ws : ai_W) : ai_Run 201 36 [l0, l1, l2, .int a, l4] st ws = ai_Run 201 37 [l0, l1, l2, .int a, l4] (.int a :: st) ws := R_iload_n hc_201 dL_seen_36 rfl rfl
theorem r_201_37 (ls st : List Value) (ws : ai_W) : ai_Run 201 37 ls st ws = ai_Run 201 39 ls (.int 30 :: st) ws := R_bipush hc_201 dL_seen_37 (by decide) rfl
theorem r_201_39 (ls st : List Value) (a b : Int32) (ws : ai_W) : ai_Run 201 39 ls (.int b :: .int a :: st) ws = if b < a then ai_Run 201 70 ls st ws else ai_Run 201 42 ls st ws := R_cmp_gt hc_201 dL_seen_39 rfl rfl
theorem r_201_42 (l0 l2 l3 l4 : Value) (a : Nat) (st : List Value) (ws : ai_W) : ai_Run 201 42 [l0, .ref a, l2, l3, l4] st ws = ai_Run 201 43 [l0, .ref a, l2, l3, l4] (.ref a :: st) ws := R_aload_n hc_201 dL_seen_42 rfl rfl
theorem rx_201_42 (l0 l2 l3 l4 : Value) {a : Nat} (hq : ¬ a = 23) (st : List Value) (ws : ai_W) : ai_Run 201 42 [l0, .retAddr a, l2, l3, l4] st ws = ai_Run 201 43 [l0, .retAddr a, l2, l3, l4] (.retAddr a :: st) ws := R_aload_nX hq hc_201 dL_seen_42 rfl rfl
theorem r_201_43 (ls st : List Value) (ws : ai_W) : ai_Run 201 43 ls st ws = ai_Run 201 45 ls (.int 9 :: st) ws := R_bipush hc_201 dL_seen_43 (by decide) rfl
theorem r_201_45 (l0 l1 l2 l4 : Value) (a : Int32) (st : List Value) (ws : ai_W) : ai_Run 201 45 [l0, l1, l2, .int a, l4] st ws = ai_Run 201 46 [l0, l1, l2, .int a, l4] (.int a :: st) ws := R_iload_n hc_201 dL_seen_45 rfl rfl
theorem r_201_46 (ls st : List Value) (a b : Int32) (ws : ai_W) : ai_Run 201 46 ls (.int b :: .int a :: st) ws = ai_Run 201 47 ls (.int (a + b) :: st) ws := R_iadd hc_201 dL_seen_46 rfl
theorem r_201_47 (l1 l2 l3 l4 : Value) (a : Nat) (st : List Value) (ws : ai_W) : ai_Run 201 47 [.ref a, l1, l2, l3, l4] st ws = ai_Run 201 48 [.ref a, l1, l2, l3, l4] (.ref a :: st) ws := R_aload_n hc_201 dL_seen_47 rfl rfl
theorem rx_201_47 (l1 l2 l3 l4 : Value) {a : Nat} (hq : ¬ a = 23) (st : List Value) (ws : ai_W) : ai_Run 201 47 [.retAddr a, l1, l2, l3, l4] st ws = ai_Run 201 48 [.retAddr a, l1, l2, l3, l4] (.retAddr a :: st) ws := R_aload_nX hq hc_201 dL_seen_47 rfl rfl
theorem r_201_48 (l0 l1 l2 l4 : Value) (a : Int32) (st : List Value) (ws : ai_W) : ai_Run 201 48 [l0, l1, l2, .int a, l4] st ws = ai_Run 201 49 [l0, l1, l2, .int a, l4] (.int a :: st) ws := R_iload_n hc_201 dL_seen_48 rfl rfl
theorem r_201_49 (ls : List Value) (r : Value) (b0 : Int32) (s0 s1 : Value) (ws : ai_W) : ai_Run 201 49 ls [.int b0, r, s0, s1] ws = (ai_Call 103 [r, .int b0] ws).bind fun q => ai_Run 201 52 ls (q.1.toList ++ [s0, s1]) q.2 := R_callV hc_201 dL_seen_49 hv_201 (w := 1102) rfl (ai_lt3 hf_103 hf_201 hL_103 ho_103 ho_201 rfl) hk_103 (by rw [hn_103]; rfl) rfl (Nat.le_of_ble_eq_true rfl) rfl
theorem r_201_52 (ls st : List Value) (a : Nat) (i x : Int32) (ws : ai_W) : ai_Run 201 52 ls (.int x :: .int i :: .ref a :: st) ws = (ai_aset ws a i x).bind fun ws => ai_Run 201 53 ls st ws := R_iastore hc_201 dL_seen_52 rfl
theorem r_201_53 (l0 l2 l3 l4 : Value) (a : Nat) (st : List Value) (ws : ai_W) : ai_Run 201 53 [l0, .ref a, l2, l3, l4] st ws = ai_Run 201 54 [l0, .ref a, l2, l3, l4] (.ref a :: st) ws := R_aload_n hc_201 dL_seen_53 rfl rfl
theorem rx_201_53 (l0 l2 l3 l4 : Value) {a : Nat} (hq : ¬ a = 23) (st : List Value) (ws : ai_W) : ai_Run 201 53 [l0, .retAddr a, l2, l3, l4] st ws = ai_Run 201 54 [l0, .retAddr a, l2, l3, l4] (.retAddr a :: st) ws := R_aload_nX hq hc_201 dL_seen_53 rfl rfl
theorem r_201_54 (ls st : List Value) (ws : ai_W) : ai_Run 201 54 ls st ws = ai_Run 201 56 ls (.int 40 :: st) ws := R_bipush hc_201 dL_seen_54 (by decide) rfl
theorem r_201_56 (l0 l1 l2 l4 : Value) (a : Int32) (st : List Value) (ws : ai_W) : ai_Run 201 56 [l0, l1, l2, .int a, l4] st ws = ai_Run 201 57 [l0, l1, l2, .int a, l4] (.int a :: st) ws := R_iload_n hc_201 dL_seen_56 rfl rfl
theorem r_201_57 (ls st : List Value) (a b : Int32) (ws : ai_W) : ai_Run 201 57 ls (.int b :: .int a :: st) ws = ai_Run 201 58 ls (.int (a + b) :: st) ws := R_iadd hc_201 dL_seen_57 rfl
theorem r_201_58 (l1 l2 l3 l4 : Value) (a : Nat) (st : List Value) (ws : ai_W) : ai_Run 201 58 [.ref a, l1, l2, l3, l4] st ws = ai_Run 201 59 [.ref a, l1, l2, l3, l4] (.ref a :: st) ws := R_aload_n hc_201 dL_seen_58 rfl rfl
theorem rx_201_58 (l1 l2 l3 l4 : Value) {a : Nat} (hq : ¬ a = 23) (st : List Value) (ws : ai_W) : ai_Run 201 58 [.retAddr a, l1, l2, l3, l4] st ws = ai_Run 201 59 [.retAddr a, l1, l2, l3, l4] (.retAddr a :: st) ws := R_aload_nX hq hc_201 dL_seen_58 rfl rfl
theorem r_201_59 (l0 l1 l2 l4 : Value) (a : Int32) (st : List Value) (ws : ai_W) : ai_Run 201 59 [l0, l1, l2, .int a, l4] st ws = ai_Run 201 60 [l0, l1, l2, .int a, l4] (.int a :: st) ws := R_iload_n hc_201 dL_seen_59 rfl rfl
theorem r_201_60 (ls : List Value) (r : Value) (b0 : Int32) (s0 s1 : Value) (ws : ai_W) : ai_Run 201 60 ls [.int b0, r, s0, s1] ws = (ai_Call 153 [r, .int b0] ws).bind fun q => ai_Run 201 63 ls (q.1.toList ++ [s0, s1]) q.2 := R_callV hc_201 dL_seen_60 hv_201 (w := 1111) rfl (ai_lt3 hf_153 hf_201 hL_153 ho_153 ho_201 rfl) hk_153 (by rw [hn_153]; rfl) rfl (Nat.le_of_ble_eq_true rfl) rfl
theorem r_201_63 (ls st : List Value) (a : Nat) (i x : Int32) (ws : ai_W) : ai_Run 201 63 ls (.int x :: .int i :: .ref a :: st) ws = (ai_aset ws a i x).bind fun ws => ai_Run 201 64 ls st ws := R_iastore hc_201 dL_seen_63 rfl
theorem r_201_64 (l0 l1 l2 l4 : Value) (a : Int32) (st : List Value) (ws : ai_W) : ai_Run 201 64 [l0, l1, l2, .int a, l4] st ws = ai_Run 201 67 [l0, l1, l2, .int (a + 1), l4] st ws := R_iinc hc_201 dL_seen_64 rfl (by decide) rfl rfl
theorem r_201_67 (ls st : List Value) (ws : ai_W) : ai_Run 201 67 ls st ws = ai_Run 201 36 ls st ws := R_goto hc_201 dL_seen_67 rfl
theorem r_201_70 (ls st : List Value) (ws : ai_W) : ai_Run 201 70 ls st ws = ai_Run 201 71 ls (.int 0 :: st) ws := R_iconst hc_201 dL_seen_70 (by decide) rfl
theorem r_201_71 (l0 l1 l2 l3 l4 : Value) (a : Int32) (st : List Value) (ws : ai_W) : ai_Run 201 71 [l0, l1, l2, l3, l4] (.int a :: st) ws = ai_Run 201 72 [l0, l1, l2, .int a, l4] st ws := R_istore_n hc_201 dL_seen_71 (Nat.le_of_ble_eq_true rfl) rfl rfl
theorem r_201_72 (l0 l1 l2 l4 : Value) (a : Int32) (st : List Value) (ws : ai_W) : ai_Run 201 72 [l0, l1, l2, .int a, l4] st ws = ai_Run 201 73 [l0, l1, l2, .int a, l4] (.int a :: st) ws := R_iload_n hc_201 dL_seen_72 rfl rfl
theorem r_201_73 (l0 l1 l3 l4 : Value) (a : Int32) (st : List Value) (ws : ai_W) : ai_Run 201 73 [l0, l1, .int a, l3, l4] st ws = ai_Run 201 74 [l0, l1, .int a, l3, l4] (.int a :: st) ws := R_iload_n hc_201 dL_seen_73 rfl rfl
theorem r_201_74 (ls st : List Value) (a b : Int32) (ws : ai_W) : ai_Run 201 74 ls (.int b :: .int a :: st) ws = if a < b then ai_Run 201 77 ls st ws else ai_Run 201 199 ls st ws := R_cmp_ge hc_201 dL_seen_74 rfl rfl
theorem r_201_77 (ls st : List Value) (ws : ai_W) : ai_Run 201 77 ls st ws = ai_Run 201 78 ls (.int 0 :: st) ws := R_iconst hc_201 dL_seen_77 (by decide) rfl
theorem r_201_78 (l0 l1 l2 l3 l4 : Value) (a : Int32) (st : List Value) (ws : ai_W) : ai_Run 201 78 [l0, l1, l2, l3, l4] (.int a :: st) ws = ai_Run 201 80 [l0, l1, l2, l3, .int a] st ws := R_istore hc_201 dL_seen_78 (Nat.le_of_ble_eq_true rfl) rfl rfl
theorem r_201_80 (l0 l1 l2 l3 : Value) (a : Int32) (st : List Value) (ws : ai_W) : ai_Run 201 80 [l0, l1, l2, l3, .int a] st ws = ai_Run 201 82 [l0, l1, l2, l3, .int a] (.int a :: st) ws := R_iload hc_201 dL_seen_80 rfl rfl
theorem r_201_82 (ls st : List Value) (ws : ai_W) : ai_Run 201 82 ls st ws = ai_Run 201 83 ls (.int 3 :: st) ws := R_iconst hc_201 dL_seen_82 (by decide) rfl
theorem r_201_83 (ls st : List Value) (a b : Int32) (ws : ai_W) : ai_Run 201 83 ls (.int b :: .int a :: st) ws = if a < b then ai_Run 201 86 ls st ws else ai_Run 201 158 ls st ws := R_cmp_ge hc_201 dL_seen_83 rfl rfl
theorem r_201_86 (l0 l2 l3 l4 : Value) (a : Nat) (st : List Value) (ws : ai_W) : ai_Run 201 86 [l0, .ref a, l2, l3, l4] st ws = ai_Run 201 87 [l0, .ref a, l2, l3, l4] (.ref a :: st) ws := R_aload_n hc_201 dL_seen_86 rfl rfl
theorem rx_201_86 (l0 l2 l3 l4 : Value) {a : Nat} (hq : ¬ a = 23) (st : List Value) (ws : ai_W) : ai_Run 201 86 [l0, .retAddr a, l2, l3, l4] st ws = ai_Run 201 87 [l0, .retAddr a, l2, l3, l4] (.retAddr a :: st) ws := R_aload_nX hq hc_201 dL_seen_86 rfl rfl
theorem r_201_87 (ls st : List Value) (ws : ai_W) : ai_Run 201 87 ls st ws = ai_Run 201 89 ls (.int 72 :: st) ws := R_bipush hc_201 dL_seen_87 (by decide) rfl
theorem r_201_89 (ls st : List Value) (ws : ai_W) : ai_Run 201 89 ls st ws = ai_Run 201 91 ls (.int 9 :: st) ws := R_bipush hc_201 dL_seen_89 (by decide) rfl
theorem r_201_91 (l0 l1 l2 l4 : Value) (a : Int32) (st : List Value) (ws : ai_W) : ai_Run 201 91 [l0, l1, l2, .int a, l4] st ws = ai_Run 201 92 [l0, l1, l2, .int a, l4] (.int a :: st) ws := R_iload_n hc_201 dL_seen_91 rfl rfl
theorem r_201_92 (ls st : List Value) (a b : Int32) (ws : ai_W) : ai_Run 201 92 ls (.int b :: .int a :: st) ws = ai_Run 201 93 ls (.int (a * b) :: st) ws := R_imul hc_201 dL_seen_92 rfl
theorem r_201_93 (ls st : List Value) (a b : Int32) (ws : ai_W) : ai_Run 201 93 ls (.int b :: .int a :: st) ws = ai_Run 201 94 ls (.int (a + b) :: st) ws := R_iadd hc_201 dL_seen_93 rfl
theorem r_201_94 (ls st : List Value) (ws : ai_W) : ai_Run 201 94 ls st ws = ai_Run 201 95 ls (.int 3 :: st) ws := R_iconst hc_201 dL_seen_94 (by decide) rfl
theorem r_201_95 (l0 l1 l2 l3 : Value) (a : Int32) (st : List Value) (ws : ai_W) : ai_Run 201 95 [l0, l1, l2, l3, .int a] st ws = ai_Run 201 97 [l0, l1, l2, l3, .int a] (.int a :: st) ws := R_iload hc_201 dL_seen_95 rfl rfl
theorem r_201_97 (ls st : List Value) (a b : Int32) (ws : ai_W) : ai_Run 201 97 ls (.int b :: .int a :: st) ws = ai_Run 201 98 ls (.int (a * b) :: st) ws := R_imul hc_201 dL_seen_97 rfl
theorem r_201_98 (ls st : List Value) (a b : Int32) (ws : ai_W) : ai_Run 201 98 ls (.int b :: .int a :: st) ws = ai_Run 201 99 ls (.int (a + b) :: st) ws := R_iadd hc_201 dL_seen_98 rfl
theorem r_201_99 (l1 l2 l3 l4 : Value) (a : Nat) (st : List Value) (ws : ai_W) : ai_Run 201 99 [.ref a, l1, l2, l3, l4] st ws = ai_Run 201 100 [.ref a, l1, l2, l3, l4] (.ref a :: st) ws := R_aload_n hc_201 dL_seen_99 rfl rfl
theorem rx_201_99 (l1 l2 l3 l4 : Value) {a : Nat} (hq : ¬ a = 23) (st : List Value) (ws : ai_W) : ai_Run 201 99 [.retAddr a, l1, l2, l3, l4] st ws = ai_Run 201 100 [.retAddr a, l1, l2, l3, l4] (.retAddr a :: st) ws := R_aload_nX hq hc_201 dL_seen_99 rfl rfl
theorem r_201_100 (l0 l1 l2 l4 : Value) (a : Int32) (st : List Value) (ws : ai_W) : ai_Run 201 100 [l0, l1, l2, .int a, l4] st ws = ai_Run 201 101 [l0, l1, l2, .int a, l4] (.int a :: st) ws := R_iload_n hc_201 dL_seen_100 rfl rfl
theorem r_201_101 (l0 l1 l2 l3 : Value) (a : Int32) (st : List Value) (ws : ai_W) : ai_Run 201 101 [l0, l1, l2, l3, .int a] st ws = ai_Run 201 103 [l0, l1, l2, l3, .int a] (.int a :: st) ws := R_iload hc_201 dL_seen_101 rfl rfl
theorem r_201_103 (ls st : List Value) (ws : ai_W) : ai_Run 201 103 ls st ws = ai_Run 201 104 ls (.int 0 :: st) ws := R_iconst hc_201 dL_seen_103 (by decide) rfl
theorem r_201_104 (ls : List Value) (r : Value) (b0 : Int32) (b1 : Int32) (b2 : Int32) (s0 s1 : Value) (ws : ai_W) : ai_Run 201 104 ls [.int b2, .int b1, .int b0, r, s0, s1] ws = (ai_Call 108 [r, .int b0, .int b1, .int b2] ws).bind fun q => ai_Run 201 107 ls (q.1.toList ++ [s0, s1]) q.2 := R_callV hc_201 dL_seen_104 hv_201 (w := 1125) rfl (ai_lt3 hf_108 hf_201 hL_108 ho_108 ho_201 rfl) hk_108 (by rw [hn_108]; rfl) rfl (Nat.le_of_ble_eq_true rfl) rfl
theorem r_201_107 (ls st : List Value) (a : Nat) (i x : Int32) (ws : ai_W) : ai_Run 201 107 ls (.int x :: .int i :: .ref a :: st) ws = (ai_aset ws a i x).bind fun ws => ai_Run 201 108 ls st ws := R_iastore hc_201 dL_seen_107 rfl
theorem r_201_108 (l0 l2 l3 l4 : Value) (a : Nat) (st : List Value) (ws : ai_W) : ai_Run 201 108 [l0, .ref a, l2, l3, l4] st ws = ai_Run 201 109 [l0, .ref a, l2, l3, l4] (.ref a :: st) ws := R_aload_n hc_201 dL_seen_108 rfl rfl
theorem rx_201_108 (l0 l2 l3 l4 : Value) {a : Nat} (hq : ¬ a = 23) (st : List Value) (ws : ai_W) : ai_Run 201 108 [l0, .retAddr a, l2, l3, l4] st ws = ai_Run 201 109 [l0, .retAddr a, l2, l3, l4] (.retAddr a :: st) ws := R_aload_nX hq hc_201 dL_seen_108 rfl rfl
theorem r_201_109 (ls st : List Value) (ws : ai_W) : ai_Run 201 109 ls st ws = ai_Run 201 111 ls (.int 73 :: st) ws := R_bipush hc_201 dL_seen_109 (by decide) rfl
theorem r_201_111 (ls st : List Value) (ws : ai_W) : ai_Run 201 111 ls st ws = ai_Run 201 113 ls (.int 9 :: st) ws := R_bipush hc_201 dL_seen_111 (by decide) rfl
theorem r_201_113 (l0 l1 l2 l4 : Value) (a : Int32) (st : List Value) (ws : ai_W) : ai_Run 201 113 [l0, l1, l2, .int a, l4] st ws = ai_Run 201 114 [l0, l1, l2, .int a, l4] (.int a :: st) ws := R_iload_n hc_201 dL_seen_113 rfl rfl
theorem r_201_114 (ls st : List Value) (a b : Int32) (ws : ai_W) : ai_Run 201 114 ls (.int b :: .int a :: st) ws = ai_Run 201 115 ls (.int (a * b) :: st) ws := R_imul hc_201 dL_seen_114 rfl
theorem r_201_115 (ls st : List Value) (a b : Int32) (ws : ai_W) : ai_Run 201 115 ls (.int b :: .int a :: st) ws = ai_Run 201 116 ls (.int (a + b) :: st) ws := R_iadd hc_201 dL_seen_115 rfl
theorem r_201_116 (ls st : List Value) (ws : ai_W) : ai_Run 201 116 ls st ws = ai_Run 201 117 ls (.int 3 :: st) ws := R_iconst hc_201 dL_seen_116 (by decide) rfl
theorem r_201_117 (l0 l1 l2 l3 : Value) (a : Int32) (st : List Value) (ws : ai_W) : ai_Run 201 117 [l0, l1, l2, l3, .int a] st ws = ai_Run 201 119 [l0, l1, l2, l3, .int a] (.int a :: st) ws := R_iload hc_201 dL_seen_117 rfl rfl
theorem r_201_119 (ls st : List Value) (a b : Int32) (ws : ai_W) : ai_Run 201 119 ls (.int b :: .int a :: st) ws = ai_Run 201 120 ls (.int (a * b) :: st) ws := R_imul hc_201 dL_seen_119 rfl
theorem r_201_120 (ls st : List Value) (a b : Int32) (ws : ai_W) : ai_Run 201 120 ls (.int b :: .int a :: st) ws = ai_Run 201 121 ls (.int (a + b) :: st) ws := R_iadd hc_201 dL_seen_120 rfl
theorem r_201_121 (l1 l2 l3 l4 : Value) (a : Nat) (st : List Value) (ws : ai_W) : ai_Run 201 121 [.ref a, l1, l2, l3, l4] st ws = ai_Run 201 122 [.ref a, l1, l2, l3, l4] (.ref a :: st) ws := R_aload_n hc_201 dL_seen_121 rfl rfl
theorem rx_201_121 (l1 l2 l3 l4 : Value) {a : Nat} (hq : ¬ a = 23) (st : List Value) (ws : ai_W) : ai_Run 201 121 [.retAddr a, l1, l2, l3, l4] st ws = ai_Run 201 122 [.retAddr a, l1, l2, l3, l4] (.retAddr a :: st) ws := R_aload_nX hq hc_201 dL_seen_121 rfl rfl
theorem r_201_122 (l0 l1 l2 l4 : Value) (a : Int32) (st : List Value) (ws : ai_W) : ai_Run 201 122 [l0, l1, l2, .int a, l4] st ws = ai_Run 201 123 [l0, l1, l2, .int a, l4] (.int a :: st) ws := R_iload_n hc_201 dL_seen_122 rfl rfl
theorem r_201_123 (l0 l1 l2 l3 : Value) (a : Int32) (st : List Value) (ws : ai_W) : ai_Run 201 123 [l0, l1, l2, l3, .int a] st ws = ai_Run 201 125 [l0, l1, l2, l3, .int a] (.int a :: st) ws := R_iload hc_201 dL_seen_123 rfl rfl
theorem r_201_125 (ls st : List Value) (ws : ai_W) : ai_Run 201 125 ls st ws = ai_Run 201 126 ls (.int 1 :: st) ws := R_iconst hc_201 dL_seen_125 (by decide) rfl
theorem r_201_126 (ls : List Value) (r : Value) (b0 : Int32) (b1 : Int32) (b2 : Int32) (s0 s1 : Value) (ws : ai_W) : ai_Run 201 126 ls [.int b2, .int b1, .int b0, r, s0, s1] ws = (ai_Call 108 [r, .int b0, .int b1, .int b2] ws).bind fun q => ai_Run 201 129 ls (q.1.toList ++ [s0, s1]) q.2 := R_callV hc_201 dL_seen_126 hv_201 (w := 1125) rfl (ai_lt3 hf_108 hf_201 hL_108 ho_108 ho_201 rfl) hk_108 (by rw [hn_108]; rfl) rfl (Nat.le_of_ble_eq_true rfl) rfl
theorem r_201_129 (ls st : List Value) (a : Nat) (i x : Int32) (ws : ai_W) : ai_Run 201 129 ls (.int x :: .int i :: .ref a :: st) ws = (ai_aset ws a i x).bind fun ws => ai_Run 201 130 ls st ws := R_iastore hc_201 dL_seen_129 rfl
theorem r_201_130 (l0 l2 l3 l4 : Value) (a : Nat) (st : List Value) (ws : ai_W) : ai_Run 201 130 [l0, .ref a, l2, l3, l4] st ws = ai_Run 201 131 [l0, .ref a, l2, l3, l4] (.ref a :: st) ws := R_aload_n hc_201 dL_seen_130 rfl rfl
theorem rx_201_130 (l0 l2 l3 l4 : Value) {a : Nat} (hq : ¬ a = 23) (st : List Value) (ws : ai_W) : ai_Run 201 130 [l0, .retAddr a, l2, l3, l4] st ws = ai_Run 201 131 [l0, .retAddr a, l2, l3, l4] (.retAddr a :: st) ws := R_aload_nX hq hc_201 dL_seen_130 rfl rfl
theorem r_201_131 (ls st : List Value) (ws : ai_W) : ai_Run 201 131 ls st ws = ai_Run 201 133 ls (.int 74 :: st) ws := R_bipush hc_201 dL_seen_131 (by decide) rfl
theorem r_201_133 (ls st : List Value) (ws : ai_W) : ai_Run 201 133 ls st ws = ai_Run 201 135 ls (.int 9 :: st) ws := R_bipush hc_201 dL_seen_133 (by decide) rfl
theorem r_201_135 (l0 l1 l2 l4 : Value) (a : Int32) (st : List Value) (ws : ai_W) : ai_Run 201 135 [l0, l1, l2, .int a, l4] st ws = ai_Run 201 136 [l0, l1, l2, .int a, l4] (.int a :: st) ws := R_iload_n hc_201 dL_seen_135 rfl rfl
theorem r_201_136 (ls st : List Value) (a b : Int32) (ws : ai_W) : ai_Run 201 136 ls (.int b :: .int a :: st) ws = ai_Run 201 137 ls (.int (a * b) :: st) ws := R_imul hc_201 dL_seen_136 rfl
theorem r_201_137 (ls st : List Value) (a b : Int32) (ws : ai_W) : ai_Run 201 137 ls (.int b :: .int a :: st) ws = ai_Run 201 138 ls (.int (a + b) :: st) ws := R_iadd hc_201 dL_seen_137 rfl
theorem r_201_138 (ls st : List Value) (ws : ai_W) : ai_Run 201 138 ls st ws = ai_Run 201 139 ls (.int 3 :: st) ws := R_iconst hc_201 dL_seen_138 (by decide) rfl
theorem r_201_139 (l0 l1 l2 l3 : Value) (a : Int32) (st : List Value) (ws : ai_W) : ai_Run 201 139 [l0, l1, l2, l3, .int a] st ws = ai_Run 201 141 [l0, l1, l2, l3, .int a] (.int a :: st) ws := R_iload hc_201 dL_seen_139 rfl rfl
theorem r_201_141 (ls st : List Value) (a b : Int32) (ws : ai_W) : ai_Run 201 141 ls (.int b :: .int a :: st) ws = ai_Run 201 142 ls (.int (a * b) :: st) ws := R_imul hc_201 dL_seen_141 rfl
theorem r_201_142 (ls st : List Value) (a b : Int32) (ws : ai_W) : ai_Run 201 142 ls (.int b :: .int a :: st) ws = ai_Run 201 143 ls (.int (a + b) :: st) ws := R_iadd hc_201 dL_seen_142 rfl
theorem r_201_143 (l1 l2 l3 l4 : Value) (a : Nat) (st : List Value) (ws : ai_W) : ai_Run 201 143 [.ref a, l1, l2, l3, l4] st ws = ai_Run 201 144 [.ref a, l1, l2, l3, l4] (.ref a :: st) ws := R_aload_n hc_201 dL_seen_143 rfl rfl
theorem rx_201_143 (l1 l2 l3 l4 : Value) {a : Nat} (hq : ¬ a = 23) (st : List Value) (ws : ai_W) : ai_Run 201 143 [.retAddr a, l1, l2, l3, l4] st ws = ai_Run 201 144 [.retAddr a, l1, l2, l3, l4] (.retAddr a :: st) ws := R_aload_nX hq hc_201 dL_seen_143 rfl rfl
theorem r_201_144 (l0 l1 l2 l4 : Value) (a : Int32) (st : List Value) (ws : ai_W) : ai_Run 201 144 [l0, l1, l2, .int a, l4] st ws = ai_Run 201 145 [l0, l1, l2, .int a, l4] (.int a :: st) ws := R_iload_n hc_201 dL_seen_144 rfl rfl
theorem r_201_145 (l0 l1 l2 l3 : Value) (a : Int32) (st : List Value) (ws : ai_W) : ai_Run 201 145 [l0, l1, l2, l3, .int a] st ws = ai_Run 201 147 [l0, l1, l2, l3, .int a] (.int a :: st) ws := R_iload hc_201 dL_seen_145 rfl rfl
theorem r_201_147 (ls st : List Value) (ws : ai_W) : ai_Run 201 147 ls st ws = ai_Run 201 148 ls (.int 4 :: st) ws := R_iconst hc_201 dL_seen_147 (by decide) rfl
theorem r_201_148 (ls : List Value) (r : Value) (b0 : Int32) (b1 : Int32) (b2 : Int32) (s0 s1 : Value) (ws : ai_W) : ai_Run 201 148 ls [.int b2, .int b1, .int b0, r, s0, s1] ws = (ai_Call 108 [r, .int b0, .int b1, .int b2] ws).bind fun q => ai_Run 201 151 ls (q.1.toList ++ [s0, s1]) q.2 := R_callV hc_201 dL_seen_148 hv_201 (w := 1125) rfl (ai_lt3 hf_108 hf_201 hL_108 ho_108 ho_201 rfl) hk_108 (by rw [hn_108]; rfl) rfl (Nat.le_of_ble_eq_true rfl) rfl
theorem r_201_151 (ls st : List Value) (a : Nat) (i x : Int32) (ws : ai_W) : ai_Run 201 151 ls (.int x :: .int i :: .ref a :: st) ws = (ai_aset ws a i x).bind fun ws => ai_Run 201 152 ls st ws := R_iastore hc_201 dL_seen_151 rfl
theorem r_201_152 (l0 l1 l2 l3 : Value) (a : Int32) (st : List Value) (ws : ai_W) : ai_Run 201 152 [l0, l1, l2, l3, .int a] st ws = ai_Run 201 155 [l0, l1, l2, l3, .int (a + 1)] st ws := R_iinc hc_201 dL_seen_152 rfl (by decide) rfl rfl
theorem r_201_155 (ls st : List Value) (ws : ai_W) : ai_Run 201 155 ls st ws = ai_Run 201 80 ls st ws := R_goto hc_201 dL_seen_155 rfl
theorem r_201_158 (ls st : List Value) (ws : ai_W) : ai_Run 201 158 ls st ws = ai_Run 201 159 ls (.int 0 :: st) ws := R_iconst hc_201 dL_seen_158 (by decide) rfl
theorem r_201_159 (l0 l1 l2 l3 l4 : Value) (a : Int32) (st : List Value) (ws : ai_W) : ai_Run 201 159 [l0, l1, l2, l3, l4] (.int a :: st) ws = ai_Run 201 161 [l0, l1, l2, l3, .int a] st ws := R_istore hc_201 dL_seen_159 (Nat.le_of_ble_eq_true rfl) rfl rfl
theorem r_201_161 (l0 l1 l2 l3 : Value) (a : Int32) (st : List Value) (ws : ai_W) : ai_Run 201 161 [l0, l1, l2, l3, .int a] st ws = ai_Run 201 163 [l0, l1, l2, l3, .int a] (.int a :: st) ws := R_iload hc_201 dL_seen_161 rfl rfl
theorem r_201_163 (l0 l1 l3 l4 : Value) (a : Int32) (st : List Value) (ws : ai_W) : ai_Run 201 163 [l0, l1, .int a, l3, l4] st ws = ai_Run 201 164 [l0, l1, .int a, l3, l4] (.int a :: st) ws := R_iload_n hc_201 dL_seen_163 rfl rfl
theorem r_201_164 (ls st : List Value) (a b : Int32) (ws : ai_W) : ai_Run 201 164 ls (.int b :: .int a :: st) ws = if a < b then ai_Run 201 167 ls st ws else ai_Run 201 193 ls st ws := R_cmp_ge hc_201 dL_seen_164 rfl rfl
theorem r_201_167 (l0 l2 l3 l4 : Value) (a : Nat) (st : List Value) (ws : ai_W) : ai_Run 201 167 [l0, .ref a, l2, l3, l4] st ws = ai_Run 201 168 [l0, .ref a, l2, l3, l4] (.ref a :: st) ws := R_aload_n hc_201 dL_seen_167 rfl rfl
theorem rx_201_167 (l0 l2 l3 l4 : Value) {a : Nat} (hq : ¬ a = 23) (st : List Value) (ws : ai_W) : ai_Run 201 167 [l0, .retAddr a, l2, l3, l4] st ws = ai_Run 201 168 [l0, .retAddr a, l2, l3, l4] (.retAddr a :: st) ws := R_aload_nX hq hc_201 dL_seen_167 rfl rfl
theorem r_201_168 (ls st : List Value) (ws : ai_W) : ai_Run 201 168 ls st ws = ai_Run 201 171 ls (.int 145 :: st) ws := R_sipush hc_201 dL_seen_168 (by decide) rfl
theorem r_201_171 (ls st : List Value) (ws : ai_W) : ai_Run 201 171 ls st ws = ai_Run 201 173 ls (.int 8 :: st) ws := R_bipush hc_201 dL_seen_171 (by decide) rfl
theorem r_201_173 (l0 l1 l2 l4 : Value) (a : Int32) (st : List Value) (ws : ai_W) : ai_Run 201 173 [l0, l1, l2, .int a, l4] st ws = ai_Run 201 174 [l0, l1, l2, .int a, l4] (.int a :: st) ws := R_iload_n hc_201 dL_seen_173 rfl rfl
theorem r_201_174 (ls st : List Value) (a b : Int32) (ws : ai_W) : ai_Run 201 174 ls (.int b :: .int a :: st) ws = ai_Run 201 175 ls (.int (a * b) :: st) ws := R_imul hc_201 dL_seen_174 rfl
theorem r_201_175 (ls st : List Value) (a b : Int32) (ws : ai_W) : ai_Run 201 175 ls (.int b :: .int a :: st) ws = ai_Run 201 176 ls (.int (a + b) :: st) ws := R_iadd hc_201 dL_seen_175 rfl
theorem r_201_176 (l0 l1 l2 l3 : Value) (a : Int32) (st : List Value) (ws : ai_W) : ai_Run 201 176 [l0, l1, l2, l3, .int a] st ws = ai_Run 201 178 [l0, l1, l2, l3, .int a] (.int a :: st) ws := R_iload hc_201 dL_seen_176 rfl rfl
theorem r_201_178 (ls st : List Value) (a b : Int32) (ws : ai_W) : ai_Run 201 178 ls (.int b :: .int a :: st) ws = ai_Run 201 179 ls (.int (a + b) :: st) ws := R_iadd hc_201 dL_seen_178 rfl
theorem r_201_179 (l1 l2 l3 l4 : Value) (a : Nat) (st : List Value) (ws : ai_W) : ai_Run 201 179 [.ref a, l1, l2, l3, l4] st ws = ai_Run 201 180 [.ref a, l1, l2, l3, l4] (.ref a :: st) ws := R_aload_n hc_201 dL_seen_179 rfl rfl
theorem rx_201_179 (l1 l2 l3 l4 : Value) {a : Nat} (hq : ¬ a = 23) (st : List Value) (ws : ai_W) : ai_Run 201 179 [.retAddr a, l1, l2, l3, l4] st ws = ai_Run 201 180 [.retAddr a, l1, l2, l3, l4] (.retAddr a :: st) ws := R_aload_nX hq hc_201 dL_seen_179 rfl rfl
theorem r_201_180 (l0 l1 l2 l4 : Value) (a : Int32) (st : List Value) (ws : ai_W) : ai_Run 201 180 [l0, l1, l2, .int a, l4] st ws = ai_Run 201 181 [l0, l1, l2, .int a, l4] (.int a :: st) ws := R_iload_n hc_201 dL_seen_180 rfl rfl
theorem r_201_181 (l0 l1 l2 l3 : Value) (a : Int32) (st : List Value) (ws : ai_W) : ai_Run 201 181 [l0, l1, l2, l3, .int a] st ws = ai_Run 201 183 [l0, l1, l2, l3, .int a] (.int a :: st) ws := R_iload hc_201 dL_seen_181 rfl rfl
theorem r_201_183 (ls : List Value) (r : Value) (b0 : Int32) (b1 : Int32) (s0 s1 : Value) (ws : ai_W) : ai_Run 201 183 ls [.int b1, .int b0, r, s0, s1] ws = (ai_Call 119 [r, .int b0, .int b1] ws).bind fun q => ai_Run 201 186 ls (q.1.toList ++ [s0, s1]) q.2 := R_callV hc_201 dL_seen_183 hv_201 (w := 1136) rfl (ai_lt3 hf_119 hf_201 hL_119 ho_119 ho_201 rfl) hk_119 (by rw [hn_119]; rfl) rfl (Nat.le_of_ble_eq_true rfl) rfl
theorem r_201_186 (ls st : List Value) (a : Nat) (i x : Int32) (ws : ai_W) : ai_Run 201 186 ls (.int x :: .int i :: .ref a :: st) ws = (ai_aset ws a i x).bind fun ws => ai_Run 201 187 ls st ws := R_iastore hc_201 dL_seen_186 rfl
theorem r_201_187 (l0 l1 l2 l3 : Value) (a : Int32) (st : List Value) (ws : ai_W) : ai_Run 201 187 [l0, l1, l2, l3, .int a] st ws = ai_Run 201 190 [l0, l1, l2, l3, .int (a + 1)] st ws := R_iinc hc_201 dL_seen_187 rfl (by decide) rfl rfl
theorem r_201_190 (ls st : List Value) (ws : ai_W) : ai_Run 201 190 ls st ws = ai_Run 201 161 ls st ws := R_goto hc_201 dL_seen_190 rfl
theorem r_201_193 (l0 l1 l2 l4 : Value) (a : Int32) (st : List Value) (ws : ai_W) : ai_Run 201 193 [l0, l1, l2, .int a, l4] st ws = ai_Run 201 196 [l0, l1, l2, .int (a + 1), l4] st ws := R_iinc hc_201 dL_seen_193 rfl (by decide) rfl rfl
theorem r_201_196 (ls st : List Value) (ws : ai_W) : ai_Run 201 196 ls st ws = ai_Run 201 72 ls st ws := R_goto hc_201 dL_seen_196 rfl
theorem r_201_199 (ls st : List Value) (ws : ai_W) : ai_Run 201 199 ls st ws = ai_Run 201 200 ls (.int 0 :: st) ws := R_iconst hc_201 dL_seen_199 (by decide) rfl
theorem r_201_200 (l0 l1 l2 l3 l4 : Value) (a : Int32) (st : List Value) (ws : ai_W) : ai_Run 201 200 [l0, l1, l2, l3, l4] (.int a :: st) ws = ai_Run 201 201 [l0, l1, l2, .int a, l4] st ws := R_istore_n hc_201 dL_seen_200 (Nat.le_of_ble_eq_true rfl) rfl rfl
theorem r_201_201 (l0 l1 l2 l4 : Value) (a : Int32) (st : List Value) (ws : ai_W) : ai_Run 201 201 [l0, l1, l2, .int a, l4] st ws = ai_Run 201 202 [l0, l1, l2, .int a, l4] (.int a :: st) ws := R_iload_n hc_201 dL_seen_201 rfl rfl
theorem r_201_202 (ls st : List Value) (ws : ai_W) : ai_Run 201 202 ls st ws = ai_Run 201 203 ls (.int 4 :: st) ws := R_iconst hc_201 dL_seen_202 (by decide) rfl
theorem r_201_203 (ls st : List Value) (a b : Int32) (ws : ai_W) : ai_Run 201 203 ls (.int b :: .int a :: st) ws = if a < b then ai_Run 201 206 ls st ws else ai_Run 201 238 ls st ws := R_cmp_ge hc_201 dL_seen_203 rfl rfl
theorem r_201_206 (l0 l2 l3 l4 : Value) (a : Nat) (st : List Value) (ws : ai_W) : ai_Run 201 206 [l0, .ref a, l2, l3, l4] st ws = ai_Run 201 207 [l0, .ref a, l2, l3, l4] (.ref a :: st) ws := R_aload_n hc_201 dL_seen_206 rfl rfl
theorem rx_201_206 (l0 l2 l3 l4 : Value) {a : Nat} (hq : ¬ a = 23) (st : List Value) (ws : ai_W) : ai_Run 201 206 [l0, .retAddr a, l2, l3, l4] st ws = ai_Run 201 207 [l0, .retAddr a, l2, l3, l4] (.retAddr a :: st) ws := R_aload_nX hq hc_201 dL_seen_206 rfl rfl
theorem r_201_207 (ls st : List Value) (ws : ai_W) : ai_Run 201 207 ls st ws = ai_Run 201 210 ls (.int 210 :: st) ws := R_sipush hc_201 dL_seen_207 (by decide) rfl
theorem r_201_210 (l0 l1 l2 l4 : Value) (a : Int32) (st : List Value) (ws : ai_W) : ai_Run 201 210 [l0, l1, l2, .int a, l4] st ws = ai_Run 201 211 [l0, l1, l2, .int a, l4] (.int a :: st) ws := R_iload_n hc_201 dL_seen_210 rfl rfl
theorem r_201_211 (ls st : List Value) (a b : Int32) (ws : ai_W) : ai_Run 201 211 ls (.int b :: .int a :: st) ws = ai_Run 201 212 ls (.int (a + b) :: st) ws := R_iadd hc_201 dL_seen_211 rfl
theorem r_201_212 (l1 l2 l3 l4 : Value) (a : Nat) (st : List Value) (ws : ai_W) : ai_Run 201 212 [.ref a, l1, l2, l3, l4] st ws = ai_Run 201 213 [.ref a, l1, l2, l3, l4] (.ref a :: st) ws := R_aload_n hc_201 dL_seen_212 rfl rfl
theorem rx_201_212 (l1 l2 l3 l4 : Value) {a : Nat} (hq : ¬ a = 23) (st : List Value) (ws : ai_W) : ai_Run 201 212 [.retAddr a, l1, l2, l3, l4] st ws = ai_Run 201 213 [.retAddr a, l1, l2, l3, l4] (.retAddr a :: st) ws := R_aload_nX hq hc_201 dL_seen_212 rfl rfl
theorem r_201_213 (l0 l1 l2 l4 : Value) (a : Int32) (st : List Value) (ws : ai_W) : ai_Run 201 213 [l0, l1, l2, .int a, l4] st ws = ai_Run 201 214 [l0, l1, l2, .int a, l4] (.int a :: st) ws := R_iload_n hc_201 dL_seen_213 rfl rfl
theorem r_201_214 (ls st : List Value) (ws : ai_W) : ai_Run 201 214 ls st ws = ai_Run 201 215 ls (.int 0 :: st) ws := R_iconst hc_201 dL_seen_214 (by decide) rfl
theorem r_201_215 (ls : List Value) (r : Value) (b0 : Int32) (b1 : Int32) (s0 s1 : Value) (ws : ai_W) : ai_Run 201 215 ls [.int b1, .int b0, r, s0, s1] ws = (ai_Call 57 [r, .int b0, .int b1] ws).bind fun q => ai_Run 201 218 ls (q.1.toList ++ [s0, s1]) q.2 := R_callV hc_201 dL_seen_215 hv_201 (w := 1141) rfl (ai_lt3 hf_57 hf_201 hL_57 ho_57 ho_201 rfl) hk_57 (by rw [hn_57]; rfl) rfl (Nat.le_of_ble_eq_true rfl) rfl
theorem r_201_218 (ls st : List Value) (a : Nat) (i x : Int32) (ws : ai_W) : ai_Run 201 218 ls (.int x :: .int i :: .ref a :: st) ws = (ai_aset ws a i x).bind fun ws => ai_Run 201 219 ls st ws := R_iastore hc_201 dL_seen_218 rfl
theorem r_201_219 (l0 l2 l3 l4 : Value) (a : Nat) (st : List Value) (ws : ai_W) : ai_Run 201 219 [l0, .ref a, l2, l3, l4] st ws = ai_Run 201 220 [l0, .ref a, l2, l3, l4] (.ref a :: st) ws := R_aload_n hc_201 dL_seen_219 rfl rfl
theorem rx_201_219 (l0 l2 l3 l4 : Value) {a : Nat} (hq : ¬ a = 23) (st : List Value) (ws : ai_W) : ai_Run 201 219 [l0, .retAddr a, l2, l3, l4] st ws = ai_Run 201 220 [l0, .retAddr a, l2, l3, l4] (.retAddr a :: st) ws := R_aload_nX hq hc_201 dL_seen_219 rfl rfl
theorem r_201_220 (ls st : List Value) (ws : ai_W) : ai_Run 201 220 ls st ws = ai_Run 201 223 ls (.int 215 :: st) ws := R_sipush hc_201 dL_seen_220 (by decide) rfl
theorem r_201_223 (l0 l1 l2 l4 : Value) (a : Int32) (st : List Value) (ws : ai_W) : ai_Run 201 223 [l0, l1, l2, .int a, l4] st ws = ai_Run 201 224 [l0, l1, l2, .int a, l4] (.int a :: st) ws := R_iload_n hc_201 dL_seen_223 rfl rfl
theorem r_201_224 (ls st : List Value) (a b : Int32) (ws : ai_W) : ai_Run 201 224 ls (.int b :: .int a :: st) ws = ai_Run 201 225 ls (.int (a + b) :: st) ws := R_iadd hc_201 dL_seen_224 rfl
theorem r_201_225 (l1 l2 l3 l4 : Value) (a : Nat) (st : List Value) (ws : ai_W) : ai_Run 201 225 [.ref a, l1, l2, l3, l4] st ws = ai_Run 201 226 [.ref a, l1, l2, l3, l4] (.ref a :: st) ws := R_aload_n hc_201 dL_seen_225 rfl rfl
theorem rx_201_225 (l1 l2 l3 l4 : Value) {a : Nat} (hq : ¬ a = 23) (st : List Value) (ws : ai_W) : ai_Run 201 225 [.retAddr a, l1, l2, l3, l4] st ws = ai_Run 201 226 [.retAddr a, l1, l2, l3, l4] (.retAddr a :: st) ws := R_aload_nX hq hc_201 dL_seen_225 rfl rfl
theorem r_201_226 (l0 l1 l2 l4 : Value) (a : Int32) (st : List Value) (ws : ai_W) : ai_Run 201 226 [l0, l1, l2, .int a, l4] st ws = ai_Run 201 227 [l0, l1, l2, .int a, l4] (.int a :: st) ws := R_iload_n hc_201 dL_seen_226 rfl rfl
theorem r_201_227 (ls st : List Value) (ws : ai_W) : ai_Run 201 227 ls st ws = ai_Run 201 228 ls (.int 1 :: st) ws := R_iconst hc_201 dL_seen_227 (by decide) rfl
theorem r_201_228 (ls : List Value) (r : Value) (b0 : Int32) (b1 : Int32) (s0 s1 : Value) (ws : ai_W) : ai_Run 201 228 ls [.int b1, .int b0, r, s0, s1] ws = (ai_Call 57 [r, .int b0, .int b1] ws).bind fun q => ai_Run 201 231 ls (q.1.toList ++ [s0, s1]) q.2 := R_callV hc_201 dL_seen_228 hv_201 (w := 1141) rfl (ai_lt3 hf_57 hf_201 hL_57 ho_57 ho_201 rfl) hk_57 (by rw [hn_57]; rfl) rfl (Nat.le_of_ble_eq_true rfl) rfl
theorem r_201_231 (ls st : List Value) (a : Nat) (i x : Int32) (ws : ai_W) : ai_Run 201 231 ls (.int x :: .int i :: .ref a :: st) ws = (ai_aset ws a i x).bind fun ws => ai_Run 201 232 ls st ws := R_iastore hc_201 dL_seen_231 rfl
theorem r_201_232 (l0 l1 l2 l4 : Value) (a : Int32) (st : List Value) (ws : ai_W) : ai_Run 201 232 [l0, l1, l2, .int a, l4] st ws = ai_Run 201 235 [l0, l1, l2, .int (a + 1), l4] st ws := R_iinc hc_201 dL_seen_232 rfl (by decide) rfl rfl
theorem r_201_235 (ls st : List Value) (ws : ai_W) : ai_Run 201 235 ls st ws = ai_Run 201 201 ls st ws := R_goto hc_201 dL_seen_235 rfl
theorem r_201_238 (l1 l2 l3 l4 : Value) (a : Nat) (st : List Value) (ws : ai_W) : ai_Run 201 238 [.ref a, l1, l2, l3, l4] st ws = ai_Run 201 239 [.ref a, l1, l2, l3, l4] (.ref a :: st) ws := R_aload_n hc_201 dL_seen_238 rfl rfl
theorem rx_201_238 (l1 l2 l3 l4 : Value) {a : Nat} (hq : ¬ a = 23) (st : List Value) (ws : ai_W) : ai_Run 201 238 [.retAddr a, l1, l2, l3, l4] st ws = ai_Run 201 239 [.retAddr a, l1, l2, l3, l4] (.retAddr a :: st) ws := R_aload_nX hq hc_201 dL_seen_238 rfl rfl
theorem r_201_239 (ls : List Value) (r : Value) (ws : ai_W) : ai_Run 201 239 ls [r] ws = (ai_Call 155 [r] ws).bind fun q => ai_Run 201 242 ls (q.1.toList ++ []) q.2 := R_callV hc_201 dL_seen_239 hv_201 (w := 1151) rfl (ai_lt3 hf_155 hf_201 hL_155 ho_155 ho_201 rfl) hk_155 (by rw [hn_155]; rfl) rfl (Nat.le_of_ble_eq_true rfl) rfl
theorem r_201_242 (l0 l1 l2 l3 l4 : Value) (a : Int32) (st : List Value) (ws : ai_W) : ai_Run 201 242 [l0, l1, l2, l3, l4] (.int a :: st) ws = ai_Run 201 243 [l0, l1, l2, .int a, l4] st ws := R_istore_n hc_201 dL_seen_242 (Nat.le_of_ble_eq_true rfl) rfl rfl
theorem r_201_243 (ls st : List Value) (ws : ai_W) : ai_Run 201 243 ls st ws = ai_Run 201 244 ls (.int 0 :: st) ws := R_iconst hc_201 dL_seen_243 (by decide) rfl
theorem r_201_244 (l0 l1 l2 l3 l4 : Value) (a : Int32) (st : List Value) (ws : ai_W) : ai_Run 201 244 [l0, l1, l2, l3, l4] (.int a :: st) ws = ai_Run 201 246 [l0, l1, l2, l3, .int a] st ws := R_istore hc_201 dL_seen_244 (Nat.le_of_ble_eq_true rfl) rfl rfl
theorem r_201_246 (l0 l1 l2 l3 : Value) (a : Int32) (st : List Value) (ws : ai_W) : ai_Run 201 246 [l0, l1, l2, l3, .int a] st ws = ai_Run 201 248 [l0, l1, l2, l3, .int a] (.int a :: st) ws := R_iload hc_201 dL_seen_246 rfl rfl
theorem r_201_248 (l0 l1 l2 l4 : Value) (a : Int32) (st : List Value) (ws : ai_W) : ai_Run 201 248 [l0, l1, l2, .int a, l4] st ws = ai_Run 201 249 [l0, l1, l2, .int a, l4] (.int a :: st) ws := R_iload_n hc_201 dL_seen_248 rfl rfl
theorem r_201_249 (ls st : List Value) (a b : Int32) (ws : ai_W) : ai_Run 201 249 ls (.int b :: .int a :: st) ws = if a < b then ai_Run 201 252 ls st ws else ai_Run 201 272 ls st ws := R_cmp_ge hc_201 dL_seen_249 rfl rfl
theorem r_201_252 (l0 l2 l3 l4 : Value) (a : Nat) (st : List Value) (ws : ai_W) : ai_Run 201 252 [l0, .ref a, l2, l3, l4] st ws = ai_Run 201 253 [l0, .ref a, l2, l3, l4] (.ref a :: st) ws := R_aload_n hc_201 dL_seen_252 rfl rfl
theorem rx_201_252 (l0 l2 l3 l4 : Value) {a : Nat} (hq : ¬ a = 23) (st : List Value) (ws : ai_W) : ai_Run 201 252 [l0, .retAddr a, l2, l3, l4] st ws = ai_Run 201 253 [l0, .retAddr a, l2, l3, l4] (.retAddr a :: st) ws := R_aload_nX hq hc_201 dL_seen_252 rfl rfl
theorem r_201_253 (ls st : List Value) (ws : ai_W) : ai_Run 201 253 ls st ws = ai_Run 201 256 ls (.int 220 :: st) ws := R_sipush hc_201 dL_seen_253 (by decide) rfl
theorem r_201_256 (l0 l1 l2 l3 : Value) (a : Int32) (st : List Value) (ws : ai_W) : ai_Run 201 256 [l0, l1, l2, l3, .int a] st ws = ai_Run 201 258 [l0, l1, l2, l3, .int a] (.int a :: st) ws := R_iload hc_201 dL_seen_256 rfl rfl
theorem r_201_258 (ls st : List Value) (a b : Int32) (ws : ai_W) : ai_Run 201 258 ls (.int b :: .int a :: st) ws = ai_Run 201 259 ls (.int (a + b) :: st) ws := R_iadd hc_201 dL_seen_258 rfl
theorem r_201_259 (l1 l2 l3 l4 : Value) (a : Nat) (st : List Value) (ws : ai_W) : ai_Run 201 259 [.ref a, l1, l2, l3, l4] st ws = ai_Run 201 260 [.ref a, l1, l2, l3, l4] (.ref a :: st) ws := R_aload_n hc_201 dL_seen_259 rfl rfl
theorem rx_201_259 (l1 l2 l3 l4 : Value) {a : Nat} (hq : ¬ a = 23) (st : List Value) (ws : ai_W) : ai_Run 201 259 [.retAddr a, l1, l2, l3, l4] st ws = ai_Run 201 260 [.retAddr a, l1, l2, l3, l4] (.retAddr a :: st) ws := R_aload_nX hq hc_201 dL_seen_259 rfl rfl
theorem r_201_260 (l0 l1 l2 l3 : Value) (a : Int32) (st : List Value) (ws : ai_W) : ai_Run 201 260 [l0, l1, l2, l3, .int a] st ws = ai_Run 201 262 [l0, l1, l2, l3, .int a] (.int a :: st) ws := R_iload hc_201 dL_seen_260 rfl rfl
theorem r_201_262 (ls : List Value) (r : Value) (b0 : Int32) (s0 s1 : Value) (ws : ai_W) : ai_Run 201 262 ls [.int b0, r, s0, s1] ws = (ai_Call 146 [r, .int b0] ws).bind fun q => ai_Run 201 265 ls (q.1.toList ++ [s0, s1]) q.2 := R_callV hc_201 dL_seen_262 hv_201 (w := 1156) rfl (ai_lt3 hf_146 hf_201 hL_146 ho_146 ho_201 rfl) hk_146 (by rw [hn_146]; rfl) rfl (Nat.le_of_ble_eq_true rfl) rfl
theorem r_201_265 (ls st : List Value) (a : Nat) (i x : Int32) (ws : ai_W) : ai_Run 201 265 ls (.int x :: .int i :: .ref a :: st) ws = (ai_aset ws a i x).bind fun ws => ai_Run 201 266 ls st ws := R_iastore hc_201 dL_seen_265 rfl
theorem r_201_266 (l0 l1 l2 l3 : Value) (a : Int32) (st : List Value) (ws : ai_W) : ai_Run 201 266 [l0, l1, l2, l3, .int a] st ws = ai_Run 201 269 [l0, l1, l2, l3, .int (a + 1)] st ws := R_iinc hc_201 dL_seen_266 rfl (by decide) rfl rfl
theorem r_201_269 (ls st : List Value) (ws : ai_W) : ai_Run 201 269 ls st ws = ai_Run 201 246 ls st ws := R_goto hc_201 dL_seen_269 rfl
theorem r_201_272 (l0 l2 l3 l4 : Value) (a : Nat) (st : List Value) (ws : ai_W) : ai_Run 201 272 [l0, .ref a, l2, l3, l4] st ws = ai_Run 201 273 [l0, .ref a, l2, l3, l4] (.ref a :: st) ws := R_aload_n hc_201 dL_seen_272 rfl rfl
theorem rx_201_272 (l0 l2 l3 l4 : Value) {a : Nat} (hq : ¬ a = 23) (st : List Value) (ws : ai_W) : ai_Run 201 272 [l0, .retAddr a, l2, l3, l4] st ws = ai_Run 201 273 [l0, .retAddr a, l2, l3, l4] (.retAddr a :: st) ws := R_aload_nX hq hc_201 dL_seen_272 rfl rfl
theorem r_201_273 (ls : List Value) (a : Nat) (ws : ai_W) : ai_Run 201 273 ls [.ref a] ws = some (some (.ref a), ws) := R_aret hc_201 dL_seen_273 ht_201 rfl
theorem dL_law_0 : decode cL_law 0 = .ok (.aload_n 0, 1) := by decide +kernel
theorem dL_law_1 : decode cL_law 1 = .ok (.invokestatic 169, 3) := by decide +kernel
theorem dL_law_4 : decode cL_law 4 = .ok (.astore_n 1, 1) := by decide +kernel
theorem dL_law_5 : decode cL_law 5 = .ok (.aload_n 1, 1) := by decide +kernel
theorem dL_law_6 : decode cL_law 6 = .ok (.ifnull 10, 3) := by decide +kernel
theorem dL_law_9 : decode cL_law 9 = .ok (.aload_n 1, 1) := by decide +kernel
theorem dL_law_10 : decode cL_law 10 = .ok (.invokestatic 173, 3) := by decide +kernel
theorem dL_law_13 : decode cL_law 13 = .ok (.ifCond .ne 5, 3) := by decide +kernel
theorem dL_law_16 : decode cL_law 16 = .ok (.iconst 0, 1) := by decide +kernel
theorem dL_law_17 : decode cL_law 17 = .ok (.ireturn, 1) := by decide +kernel
theorem dL_law_18 : decode cL_law 18 = .ok (.iconst 0, 1) := by decide +kernel
theorem dL_law_19 : decode cL_law 19 = .ok (.istore_n 2, 1) := by decide +kernel
theorem dL_law_20 : decode cL_law 20 = .ok (.iload_n 2, 1) := by decide +kernel
theorem dL_law_21 : decode cL_law 21 = .ok (.bipush 8, 2) := by decide +kernel
theorem dL_law_23 : decode cL_law 23 = .ok (.if_icmp .ge 111, 3) := by decide +kernel
theorem dL_law_26 : decode cL_law 26 = .ok (.aload_n 1, 1) := by decide +kernel
theorem dL_law_27 : decode cL_law 27 = .ok (.invokestatic 176, 3) := by decide +kernel
theorem dL_law_30 : decode cL_law 30 = .ok (.astore_n 3, 1) := by decide +kernel
theorem dL_law_31 : decode cL_law 31 = .ok (.aload_n 1, 1) := by decide +kernel
theorem dL_law_32 : decode cL_law 32 = .ok (.aload_n 0, 1) := by decide +kernel
theorem dL_law_33 : decode cL_law 33 = .ok (.bipush 48, 2) := by decide +kernel
theorem dL_law_35 : decode cL_law 35 = .ok (.iconst 4, 1) := by decide +kernel
theorem dL_law_36 : decode cL_law 36 = .ok (.iload_n 2, 1) := by decide +kernel
theorem dL_law_37 : decode cL_law 37 = .ok (.imul, 1) := by decide +kernel
theorem dL_law_38 : decode cL_law 38 = .ok (.iadd, 1) := by decide +kernel
theorem dL_law_39 : decode cL_law 39 = .ok (.invokestatic 180, 3) := by decide +kernel
theorem dL_law_42 : decode cL_law 42 = .ok (.istore 4, 2) := by decide +kernel
theorem dL_law_44 : decode cL_law 44 = .ok (.iload 4, 2) := by decide +kernel
theorem dL_law_46 : decode cL_law 46 = .ok (.ldc 32, 2) := by decide +kernel
theorem dL_law_48 : decode cL_law 48 = .ok (.if_icmp .eq 38, 3) := by decide +kernel
theorem dL_law_51 : decode cL_law 51 = .ok (.aload_n 1, 1) := by decide +kernel
theorem dL_law_52 : decode cL_law 52 = .ok (.invokestatic 173, 3) := by decide +kernel
theorem dL_law_55 : decode cL_law 55 = .ok (.ifCond .eq 31, 3) := by decide +kernel
theorem dL_law_58 : decode cL_law 58 = .ok (.aload_n 1, 1) := by decide +kernel
theorem dL_law_59 : decode cL_law 59 = .ok (.bipush 9, 2) := by decide +kernel
theorem dL_law_61 : decode cL_law 61 = .ok (.invokevirtual 114, 3) := by decide +kernel
theorem dL_law_64 : decode cL_law 64 = .ok (.ifCond .ne 22, 3) := by decide +kernel
theorem dL_law_67 : decode cL_law 67 = .ok (.iload 4, 2) := by decide +kernel
theorem dL_law_69 : decode cL_law 69 = .ok (.invokestatic 184, 3) := by decide +kernel
theorem dL_law_72 : decode cL_law 72 = .ok (.ifCond .eq 16, 3) := by decide +kernel
theorem dL_law_75 : decode cL_law 75 = .ok (.aload_n 3, 1) := by decide +kernel
theorem dL_law_76 : decode cL_law 76 = .ok (.aload_n 1, 1) := by decide +kernel
theorem dL_law_77 : decode cL_law 77 = .ok (.invokestatic 176, 3) := by decide +kernel
theorem dL_law_80 : decode cL_law 80 = .ok (.invokestatic 188, 3) := by decide +kernel
theorem dL_law_83 : decode cL_law 83 = .ok (.ifCond .ne 5, 3) := by decide +kernel
theorem dL_law_86 : decode cL_law 86 = .ok (.iconst 0, 1) := by decide +kernel
theorem dL_law_87 : decode cL_law 87 = .ok (.ireturn, 1) := by decide +kernel
theorem dL_law_88 : decode cL_law 88 = .ok (.iload 4, 2) := by decide +kernel
theorem dL_law_90 : decode cL_law 90 = .ok (.invokestatic 184, 3) := by decide +kernel
theorem dL_law_93 : decode cL_law 93 = .ok (.ifCond .ne 35, 3) := by decide +kernel
theorem dL_law_96 : decode cL_law 96 = .ok (.aload_n 0, 1) := by decide +kernel
theorem dL_law_97 : decode cL_law 97 = .ok (.bipush 81, 2) := by decide +kernel
theorem dL_law_99 : decode cL_law 99 = .ok (.iload_n 2, 1) := by decide +kernel
theorem dL_law_100 : decode cL_law 100 = .ok (.iadd, 1) := by decide +kernel
theorem dL_law_101 : decode cL_law 101 = .ok (.iconst 5, 1) := by decide +kernel
theorem dL_law_102 : decode cL_law 102 = .ok (.invokestatic 37, 3) := by decide +kernel
theorem dL_law_105 : decode cL_law 105 = .ok (.ifCond .ne 23, 3) := by decide +kernel
theorem dL_law_108 : decode cL_law 108 = .ok (.aload_n 1, 1) := by decide +kernel
theorem dL_law_109 : decode cL_law 109 = .ok (.invokevirtual 192, 3) := by decide +kernel
theorem dL_law_112 : decode cL_law 112 = .ok (.ifCond .lt 14, 3) := by decide +kernel
theorem dL_law_115 : decode cL_law 115 = .ok (.aload_n 3, 1) := by decide +kernel
theorem dL_law_116 : decode cL_law 116 = .ok (.aload_n 1, 1) := by decide +kernel
theorem dL_law_117 : decode cL_law 117 = .ok (.invokestatic 176, 3) := by decide +kernel
theorem dL_law_120 : decode cL_law 120 = .ok (.invokestatic 188, 3) := by decide +kernel
theorem dL_law_123 : decode cL_law 123 = .ok (.ifCond .ne 5, 3) := by decide +kernel
theorem dL_law_126 : decode cL_law 126 = .ok (.iconst 0, 1) := by decide +kernel
theorem dL_law_127 : decode cL_law 127 = .ok (.ireturn, 1) := by decide +kernel
theorem dL_law_128 : decode cL_law 128 = .ok (.iinc 2 1, 3) := by decide +kernel
theorem dL_law_131 : decode cL_law 131 = .ok (.goto (-111), 3) := by decide +kernel
theorem dL_law_134 : decode cL_law 134 = .ok (.aload_n 1, 1) := by decide +kernel
theorem dL_law_135 : decode cL_law 135 = .ok (.invokestatic 176, 3) := by decide +kernel
theorem dL_law_138 : decode cL_law 138 = .ok (.astore_n 2, 1) := by decide +kernel
theorem dL_law_139 : decode cL_law 139 = .ok (.aload_n 1, 1) := by decide +kernel
theorem dL_law_140 : decode cL_law 140 = .ok (.invokevirtual 195, 3) := by decide +kernel
theorem dL_law_143 : decode cL_law 143 = .ok (.istore_n 3, 1) := by decide +kernel
theorem dL_law_144 : decode cL_law 144 = .ok (.aload_n 1, 1) := by decide +kernel
theorem dL_law_145 : decode cL_law 145 = .ok (.iconst 0, 1) := by decide +kernel
theorem dL_law_146 : decode cL_law 146 = .ok (.iconst 1, 1) := by decide +kernel
theorem dL_law_147 : decode cL_law 147 = .ok (.iconst 0, 1) := by decide +kernel
theorem dL_law_148 : decode cL_law 148 = .ok (.invokevirtual 198, 3) := by decide +kernel
theorem dL_law_151 : decode cL_law 151 = .ok (.aload_n 1, 1) := by decide +kernel
theorem dL_law_152 : decode cL_law 152 = .ok (.iconst 0, 1) := by decide +kernel
theorem dL_law_153 : decode cL_law 153 = .ok (.iconst 5, 1) := by decide +kernel
theorem dL_law_154 : decode cL_law 154 = .ok (.iconst 1, 1) := by decide +kernel
theorem dL_law_155 : decode cL_law 155 = .ok (.iconst 0, 1) := by decide +kernel
theorem dL_law_156 : decode cL_law 156 = .ok (.iconst 0, 1) := by decide +kernel
theorem dL_law_157 : decode cL_law 157 = .ok (.invokevirtual 201, 3) := by decide +kernel
theorem dL_law_160 : decode cL_law 160 = .ok (.iadd, 1) := by decide +kernel
theorem dL_law_161 : decode cL_law 161 = .ok (.aload_n 1, 1) := by decide +kernel
theorem dL_law_162 : decode cL_law 162 = .ok (.iconst 1, 1) := by decide +kernel
theorem dL_law_163 : decode cL_law 163 = .ok (.iconst 0, 1) := by decide +kernel
theorem dL_law_164 : decode cL_law 164 = .ok (.invokevirtual 205, 3) := by decide +kernel
theorem dL_law_167 : decode cL_law 167 = .ok (.iadd, 1) := by decide +kernel
theorem dL_law_168 : decode cL_law 168 = .ok (.aload_n 1, 1) := by decide +kernel
theorem dL_law_169 : decode cL_law 169 = .ok (.iconst 0, 1) := by decide +kernel
theorem dL_law_170 : decode cL_law 170 = .ok (.invokevirtual 208, 3) := by decide +kernel
theorem dL_law_173 : decode cL_law 173 = .ok (.iadd, 1) := by decide +kernel
theorem dL_law_174 : decode cL_law 174 = .ok (.aload_n 1, 1) := by decide +kernel
theorem dL_law_175 : decode cL_law 175 = .ok (.invokevirtual 211, 3) := by decide +kernel
theorem dL_law_178 : decode cL_law 178 = .ok (.iadd, 1) := by decide +kernel
theorem dL_law_179 : decode cL_law 179 = .ok (.istore 4, 2) := by decide +kernel
theorem dL_law_181 : decode cL_law 181 = .ok (.aload_n 2, 1) := by decide +kernel
theorem dL_law_182 : decode cL_law 182 = .ok (.aload_n 1, 1) := by decide +kernel
theorem dL_law_183 : decode cL_law 183 = .ok (.invokestatic 176, 3) := by decide +kernel
theorem dL_law_186 : decode cL_law 186 = .ok (.invokestatic 188, 3) := by decide +kernel
theorem dL_law_189 : decode cL_law 189 = .ok (.ifCond .ne 5, 3) := by decide +kernel
theorem dL_law_192 : decode cL_law 192 = .ok (.iconst 0, 1) := by decide +kernel
theorem dL_law_193 : decode cL_law 193 = .ok (.ireturn, 1) := by decide +kernel
theorem dL_law_194 : decode cL_law 194 = .ok (.iload 4, 2) := by decide +kernel
theorem dL_law_196 : decode cL_law 196 = .ok (.aload_n 1, 1) := by decide +kernel
theorem dL_law_197 : decode cL_law 197 = .ok (.invokevirtual 41, 3) := by decide +kernel
theorem dL_law_200 : decode cL_law 200 = .ok (.aload_n 1, 1) := by decide +kernel
theorem dL_law_201 : decode cL_law 201 = .ok (.iconst 0, 1) := by decide +kernel
theorem dL_law_202 : decode cL_law 202 = .ok (.bipush 29, 2) := by decide +kernel
theorem dL_law_204 : decode cL_law 204 = .ok (.invokevirtual 48, 3) := by decide +kernel
theorem dL_law_207 : decode cL_law 207 = .ok (.iadd, 1) := by decide +kernel
theorem dL_law_208 : decode cL_law 208 = .ok (.aload_n 1, 1) := by decide +kernel
theorem dL_law_209 : decode cL_law 209 = .ok (.iconst 0, 1) := by decide +kernel
theorem dL_law_210 : decode cL_law 210 = .ok (.iconst 1, 1) := by decide +kernel
theorem dL_law_211 : decode cL_law 211 = .ok (.bipush 7, 2) := by decide +kernel
theorem dL_law_213 : decode cL_law 213 = .ok (.invokevirtual 60, 3) := by decide +kernel
theorem dL_law_216 : decode cL_law 216 = .ok (.iadd, 1) := by decide +kernel
theorem dL_law_217 : decode cL_law 217 = .ok (.aload_n 1, 1) := by decide +kernel
theorem dL_law_218 : decode cL_law 218 = .ok (.iconst 0, 1) := by decide +kernel
theorem dL_law_219 : decode cL_law 219 = .ok (.invokevirtual 71, 3) := by decide +kernel
theorem dL_law_222 : decode cL_law 222 = .ok (.iadd, 1) := by decide +kernel
theorem dL_law_223 : decode cL_law 223 = .ok (.aload_n 1, 1) := by decide +kernel
theorem dL_law_224 : decode cL_law 224 = .ok (.iconst 0, 1) := by decide +kernel
theorem dL_law_225 : decode cL_law 225 = .ok (.iconst 1, 1) := by decide +kernel
theorem dL_law_226 : decode cL_law 226 = .ok (.invokevirtual 54, 3) := by decide +kernel
theorem dL_law_229 : decode cL_law 229 = .ok (.iadd, 1) := by decide +kernel
theorem dL_law_230 : decode cL_law 230 = .ok (.iadd, 1) := by decide +kernel
theorem dL_law_231 : decode cL_law 231 = .ok (.istore 4, 2) := by decide +kernel
theorem dL_law_233 : decode cL_law 233 = .ok (.aload_n 1, 1) := by decide +kernel
theorem dL_law_234 : decode cL_law 234 = .ok (.invokevirtual 214, 3) := by decide +kernel
theorem dL_law_237 : decode cL_law 237 = .ok (.iload_n 3, 1) := by decide +kernel
theorem dL_law_238 : decode cL_law 238 = .ok (.if_icmp .ne 34, 3) := by decide +kernel
theorem dL_law_241 : decode cL_law 241 = .ok (.aload_n 2, 1) := by decide +kernel
theorem dL_law_242 : decode cL_law 242 = .ok (.aload_n 1, 1) := by decide +kernel
theorem dL_law_243 : decode cL_law 243 = .ok (.invokestatic 176, 3) := by decide +kernel
theorem dL_law_246 : decode cL_law 246 = .ok (.invokestatic 188, 3) := by decide +kernel
theorem dL_law_249 : decode cL_law 249 = .ok (.ifCond .eq 23, 3) := by decide +kernel
theorem dL_law_252 : decode cL_law 252 = .ok (.aload_n 1, 1) := by decide +kernel
theorem dL_law_253 : decode cL_law 253 = .ok (.bipush 10, 2) := by decide +kernel
theorem dL_law_255 : decode cL_law 255 = .ok (.invokevirtual 114, 3) := by decide +kernel
theorem dL_law_258 : decode cL_law 258 = .ok (.ifCond .ne 14, 3) := by decide +kernel
theorem dL_law_261 : decode cL_law 261 = .ok (.iload 4, 2) := by decide +kernel
theorem dL_law_263 : decode cL_law 263 = .ok (.ldc 67, 2) := by decide +kernel
theorem dL_law_265 : decode cL_law 265 = .ok (.if_icmp .eq 7, 3) := by decide +kernel
theorem dL_law_268 : decode cL_law 268 = .ok (.iconst 1, 1) := by decide +kernel
theorem dL_law_269 : decode cL_law 269 = .ok (.goto 4, 3) := by decide +kernel
theorem dL_law_272 : decode cL_law 272 = .ok (.iconst 0, 1) := by decide +kernel
theorem dL_law_273 : decode cL_law 273 = .ok (.ireturn, 1) := by decide +kernel
theorem e_202 (a0 : Nat) (ws : ai_W) : ai_Call 202 [.ref a0] ws = ai_Run 202 0 [.ref a0, .null, .null, .null, .null] [] ws := R_entS hk_202 ⟨⟨rfl, rfl⟩, Nat.le_of_ble_eq_true rfl⟩ rfl
theorem ex_202 (a0 : Nat) (ws : ai_W) : ai_Call 202 [.retAddr a0] ws = ai_Run 202 0 [.retAddr a0, .null, .null, .null, .null] [] ws := R_entS hk_202 ⟨⟨rfl, rfl⟩, Nat.le_of_ble_eq_true rfl⟩ rfl
theorem r_202_0 (l1 l2 l3 l4 : Value) (a : Nat) (st : List Value) (ws : ai_W) : ai_Run 202 0 [.ref a, l1, l2, l3, l4] st ws = ai_Run 202 1 [.ref a, l1, l2, l3, l4] (.ref a :: st) ws := R_aload_n hc_202 dL_law_0 rfl rfl
theorem rx_202_0 (l1 l2 l3 l4 : Value) {a : Nat} (hq : ¬ a = 23) (st : List Value) (ws : ai_W) : ai_Run 202 0 [.retAddr a, l1, l2, l3, l4] st ws = ai_Run 202 1 [.retAddr a, l1, l2, l3, l4] (.retAddr a :: st) ws := R_aload_nX hq hc_202 dL_law_0 rfl rfl
theorem r_202_1 (ls : List Value) (b0 : Value) (ws : ai_W) : ai_Run 202 1 ls [b0] ws = (ai_Call 165 [b0] ws).bind fun q => ai_Run 202 4 ls (q.1.toList ++ []) q.2 := R_callS hc_202 dL_law_1 hv_202 (w := 433) rfl (ai_lt3 hf_165 hf_202 hL_165 ho_165 ho_202 rfl) hk_165 (by rw [hn_165]; rfl) rfl (Nat.le_of_ble_eq_true rfl) rfl
theorem r_202_4 (l0 l1 l2 l3 l4 : Value) (a : Nat) (st : List Value) (ws : ai_W) : ai_Run 202 4 [l0, l1, l2, l3, l4] (.ref a :: st) ws = ai_Run 202 5 [l0, .ref a, l2, l3, l4] st ws := R_astore_n hc_202 dL_law_4 (Nat.le_of_ble_eq_true rfl) rfl rfl
theorem r_202_5 (l0 l2 l3 l4 : Value) (a : Nat) (st : List Value) (ws : ai_W) : ai_Run 202 5 [l0, .ref a, l2, l3, l4] st ws = ai_Run 202 6 [l0, .ref a, l2, l3, l4] (.ref a :: st) ws := R_aload_n hc_202 dL_law_5 rfl rfl
theorem rx_202_5 (l0 l2 l3 l4 : Value) {a : Nat} (hq : ¬ a = 23) (st : List Value) (ws : ai_W) : ai_Run 202 5 [l0, .retAddr a, l2, l3, l4] st ws = ai_Run 202 6 [l0, .retAddr a, l2, l3, l4] (.retAddr a :: st) ws := R_aload_nX hq hc_202 dL_law_5 rfl rfl
theorem r_202_6 (ls st : List Value) (a : Nat) (ws : ai_W) : ai_Run 202 6 ls (.ref a :: st) ws = ai_Run 202 9 ls st ws := R_ifnull_r hc_202 dL_law_6 rfl rfl
theorem r_202_9 (l0 l2 l3 l4 : Value) (a : Nat) (st : List Value) (ws : ai_W) : ai_Run 202 9 [l0, .ref a, l2, l3, l4] st ws = ai_Run 202 10 [l0, .ref a, l2, l3, l4] (.ref a :: st) ws := R_aload_n hc_202 dL_law_9 rfl rfl
theorem rx_202_9 (l0 l2 l3 l4 : Value) {a : Nat} (hq : ¬ a = 23) (st : List Value) (ws : ai_W) : ai_Run 202 9 [l0, .retAddr a, l2, l3, l4] st ws = ai_Run 202 10 [l0, .retAddr a, l2, l3, l4] (.retAddr a :: st) ws := R_aload_nX hq hc_202 dL_law_9 rfl rfl
theorem r_202_10 (ls : List Value) (b0 : Value) (ws : ai_W) : ai_Run 202 10 ls [b0] ws = (ai_Call 200 [b0] ws).bind fun q => ai_Run 202 13 ls (q.1.toList ++ []) q.2 := R_callS hc_202 dL_law_10 hv_202 (w := 1168) rfl (ai_lt3 hf_200 hf_202 hL_200 ho_200 ho_202 rfl) hk_200 (by rw [hn_200]; rfl) rfl (Nat.le_of_ble_eq_true rfl) rfl
theorem r_202_13 (ls st : List Value) (a : Int32) (ws : ai_W) : ai_Run 202 13 ls (.int a :: st) ws = if a = 0 then ai_Run 202 16 ls st ws else ai_Run 202 18 ls st ws := R_if_ne hc_202 dL_law_13 rfl rfl
theorem r_202_16 (ls st : List Value) (ws : ai_W) : ai_Run 202 16 ls st ws = ai_Run 202 17 ls (.int 0 :: st) ws := R_iconst hc_202 dL_law_16 (by decide) rfl
theorem r_202_17 (ls : List Value) (x : Int32) (ws : ai_W) : ai_Run 202 17 ls [.int x] ws = if ai_pb x = true then some (some (.int x), ws) else none := R_zret hc_202 dL_law_17 ht_202
theorem r_202_18 (ls st : List Value) (ws : ai_W) : ai_Run 202 18 ls st ws = ai_Run 202 19 ls (.int 0 :: st) ws := R_iconst hc_202 dL_law_18 (by decide) rfl
theorem r_202_19 (l0 l1 l2 l3 l4 : Value) (a : Int32) (st : List Value) (ws : ai_W) : ai_Run 202 19 [l0, l1, l2, l3, l4] (.int a :: st) ws = ai_Run 202 20 [l0, l1, .int a, l3, l4] st ws := R_istore_n hc_202 dL_law_19 (Nat.le_of_ble_eq_true rfl) rfl rfl
theorem r_202_20 (l0 l1 l3 l4 : Value) (a : Int32) (st : List Value) (ws : ai_W) : ai_Run 202 20 [l0, l1, .int a, l3, l4] st ws = ai_Run 202 21 [l0, l1, .int a, l3, l4] (.int a :: st) ws := R_iload_n hc_202 dL_law_20 rfl rfl
theorem r_202_21 (ls st : List Value) (ws : ai_W) : ai_Run 202 21 ls st ws = ai_Run 202 23 ls (.int 8 :: st) ws := R_bipush hc_202 dL_law_21 (by decide) rfl
theorem r_202_23 (ls st : List Value) (a b : Int32) (ws : ai_W) : ai_Run 202 23 ls (.int b :: .int a :: st) ws = if a < b then ai_Run 202 26 ls st ws else ai_Run 202 134 ls st ws := R_cmp_ge hc_202 dL_law_23 rfl rfl
theorem r_202_26 (l0 l2 l3 l4 : Value) (a : Nat) (st : List Value) (ws : ai_W) : ai_Run 202 26 [l0, .ref a, l2, l3, l4] st ws = ai_Run 202 27 [l0, .ref a, l2, l3, l4] (.ref a :: st) ws := R_aload_n hc_202 dL_law_26 rfl rfl
theorem rx_202_26 (l0 l2 l3 l4 : Value) {a : Nat} (hq : ¬ a = 23) (st : List Value) (ws : ai_W) : ai_Run 202 26 [l0, .retAddr a, l2, l3, l4] st ws = ai_Run 202 27 [l0, .retAddr a, l2, l3, l4] (.retAddr a :: st) ws := R_aload_nX hq hc_202 dL_law_26 rfl rfl
theorem r_202_27 (ls : List Value) (b0 : Value) (ws : ai_W) : ai_Run 202 27 ls [b0] ws = (ai_Call 201 [b0] ws).bind fun q => ai_Run 202 30 ls (q.1.toList ++ []) q.2 := R_callS hc_202 dL_law_27 hv_202 (w := 1099) rfl (ai_lt3 hf_201 hf_202 hL_201 ho_201 ho_202 rfl) hk_201 (by rw [hn_201]; rfl) rfl (Nat.le_of_ble_eq_true rfl) rfl
theorem r_202_30 (l0 l1 l2 l3 l4 : Value) (a : Nat) (st : List Value) (ws : ai_W) : ai_Run 202 30 [l0, l1, l2, l3, l4] (.ref a :: st) ws = ai_Run 202 31 [l0, l1, l2, .ref a, l4] st ws := R_astore_n hc_202 dL_law_30 (Nat.le_of_ble_eq_true rfl) rfl rfl
theorem r_202_31 (l0 l2 l3 l4 : Value) (a : Nat) (st : List Value) (ws : ai_W) : ai_Run 202 31 [l0, .ref a, l2, l3, l4] st ws = ai_Run 202 32 [l0, .ref a, l2, l3, l4] (.ref a :: st) ws := R_aload_n hc_202 dL_law_31 rfl rfl
theorem rx_202_31 (l0 l2 l3 l4 : Value) {a : Nat} (hq : ¬ a = 23) (st : List Value) (ws : ai_W) : ai_Run 202 31 [l0, .retAddr a, l2, l3, l4] st ws = ai_Run 202 32 [l0, .retAddr a, l2, l3, l4] (.retAddr a :: st) ws := R_aload_nX hq hc_202 dL_law_31 rfl rfl
theorem r_202_32 (l1 l2 l3 l4 : Value) (a : Nat) (st : List Value) (ws : ai_W) : ai_Run 202 32 [.ref a, l1, l2, l3, l4] st ws = ai_Run 202 33 [.ref a, l1, l2, l3, l4] (.ref a :: st) ws := R_aload_n hc_202 dL_law_32 rfl rfl
theorem rx_202_32 (l1 l2 l3 l4 : Value) {a : Nat} (hq : ¬ a = 23) (st : List Value) (ws : ai_W) : ai_Run 202 32 [.retAddr a, l1, l2, l3, l4] st ws = ai_Run 202 33 [.retAddr a, l1, l2, l3, l4] (.retAddr a :: st) ws := R_aload_nX hq hc_202 dL_law_32 rfl rfl
theorem r_202_33 (ls st : List Value) (ws : ai_W) : ai_Run 202 33 ls st ws = ai_Run 202 35 ls (.int 48 :: st) ws := R_bipush hc_202 dL_law_33 (by decide) rfl
theorem r_202_35 (ls st : List Value) (ws : ai_W) : ai_Run 202 35 ls st ws = ai_Run 202 36 ls (.int 4 :: st) ws := R_iconst hc_202 dL_law_35 (by decide) rfl
theorem r_202_36 (l0 l1 l3 l4 : Value) (a : Int32) (st : List Value) (ws : ai_W) : ai_Run 202 36 [l0, l1, .int a, l3, l4] st ws = ai_Run 202 37 [l0, l1, .int a, l3, l4] (.int a :: st) ws := R_iload_n hc_202 dL_law_36 rfl rfl
theorem r_202_37 (ls st : List Value) (a b : Int32) (ws : ai_W) : ai_Run 202 37 ls (.int b :: .int a :: st) ws = ai_Run 202 38 ls (.int (a * b) :: st) ws := R_imul hc_202 dL_law_37 rfl
theorem r_202_38 (ls st : List Value) (a b : Int32) (ws : ai_W) : ai_Run 202 38 ls (.int b :: .int a :: st) ws = ai_Run 202 39 ls (.int (a + b) :: st) ws := R_iadd hc_202 dL_law_38 rfl
theorem r_202_39 (ls : List Value) (b0 : Value) (b1 : Value) (b2 : Int32) (ws : ai_W) : ai_Run 202 39 ls [.int b2, b1, b0] ws = (ai_Call 198 [b0, b1, .int b2] ws).bind fun q => ai_Run 202 42 ls (q.1.toList ++ []) q.2 := R_callS hc_202 dL_law_39 hv_202 (w := 717) rfl (ai_lt3 hf_198 hf_202 hL_198 ho_198 ho_202 rfl) hk_198 (by rw [hn_198]; rfl) rfl (Nat.le_of_ble_eq_true rfl) rfl
theorem r_202_42 (l0 l1 l2 l3 l4 : Value) (a : Int32) (st : List Value) (ws : ai_W) : ai_Run 202 42 [l0, l1, l2, l3, l4] (.int a :: st) ws = ai_Run 202 44 [l0, l1, l2, l3, .int a] st ws := R_istore hc_202 dL_law_42 (Nat.le_of_ble_eq_true rfl) rfl rfl
theorem r_202_44 (l0 l1 l2 l3 : Value) (a : Int32) (st : List Value) (ws : ai_W) : ai_Run 202 44 [l0, l1, l2, l3, .int a] st ws = ai_Run 202 46 [l0, l1, l2, l3, .int a] (.int a :: st) ws := R_iload hc_202 dL_law_44 rfl rfl
theorem r_202_46 (ls st : List Value) (ws : ai_W) : ai_Run 202 46 ls st ws = ai_Run 202 48 ls (.int (-99999) :: st) ws := R_ldci hc_202 dL_law_46 rfl rfl rfl
theorem r_202_48 (ls st : List Value) (a b : Int32) (ws : ai_W) : ai_Run 202 48 ls (.int b :: .int a :: st) ws = if a = b then ai_Run 202 86 ls st ws else ai_Run 202 51 ls st ws := R_cmp_eq hc_202 dL_law_48 rfl rfl
theorem r_202_51 (l0 l2 l3 l4 : Value) (a : Nat) (st : List Value) (ws : ai_W) : ai_Run 202 51 [l0, .ref a, l2, l3, l4] st ws = ai_Run 202 52 [l0, .ref a, l2, l3, l4] (.ref a :: st) ws := R_aload_n hc_202 dL_law_51 rfl rfl
theorem rx_202_51 (l0 l2 l3 l4 : Value) {a : Nat} (hq : ¬ a = 23) (st : List Value) (ws : ai_W) : ai_Run 202 51 [l0, .retAddr a, l2, l3, l4] st ws = ai_Run 202 52 [l0, .retAddr a, l2, l3, l4] (.retAddr a :: st) ws := R_aload_nX hq hc_202 dL_law_51 rfl rfl
theorem r_202_52 (ls : List Value) (b0 : Value) (ws : ai_W) : ai_Run 202 52 ls [b0] ws = (ai_Call 200 [b0] ws).bind fun q => ai_Run 202 55 ls (q.1.toList ++ []) q.2 := R_callS hc_202 dL_law_52 hv_202 (w := 1168) rfl (ai_lt3 hf_200 hf_202 hL_200 ho_200 ho_202 rfl) hk_200 (by rw [hn_200]; rfl) rfl (Nat.le_of_ble_eq_true rfl) rfl
theorem r_202_55 (ls st : List Value) (a : Int32) (ws : ai_W) : ai_Run 202 55 ls (.int a :: st) ws = if a = 0 then ai_Run 202 86 ls st ws else ai_Run 202 58 ls st ws := R_if_eq hc_202 dL_law_55 rfl rfl
theorem r_202_58 (l0 l2 l3 l4 : Value) (a : Nat) (st : List Value) (ws : ai_W) : ai_Run 202 58 [l0, .ref a, l2, l3, l4] st ws = ai_Run 202 59 [l0, .ref a, l2, l3, l4] (.ref a :: st) ws := R_aload_n hc_202 dL_law_58 rfl rfl
theorem rx_202_58 (l0 l2 l3 l4 : Value) {a : Nat} (hq : ¬ a = 23) (st : List Value) (ws : ai_W) : ai_Run 202 58 [l0, .retAddr a, l2, l3, l4] st ws = ai_Run 202 59 [l0, .retAddr a, l2, l3, l4] (.retAddr a :: st) ws := R_aload_nX hq hc_202 dL_law_58 rfl rfl
theorem r_202_59 (ls st : List Value) (ws : ai_W) : ai_Run 202 59 ls st ws = ai_Run 202 61 ls (.int 9 :: st) ws := R_bipush hc_202 dL_law_59 (by decide) rfl
theorem r_202_61 (ls : List Value) (r : Value) (b0 : Int32) (ws : ai_W) : ai_Run 202 61 ls [.int b0, r] ws = (ai_Call 28 [r, .int b0] ws).bind fun q => ai_Run 202 64 ls (q.1.toList ++ []) q.2 := R_callV hc_202 dL_law_61 hv_202 (w := 342) rfl (ai_lt3 hf_28 hf_202 hL_28 ho_28 ho_202 rfl) hk_28 (by rw [hn_28]; rfl) rfl (Nat.le_of_ble_eq_true rfl) rfl
theorem r_202_64 (ls st : List Value) (a : Int32) (ws : ai_W) : ai_Run 202 64 ls (.int a :: st) ws = if a = 0 then ai_Run 202 67 ls st ws else ai_Run 202 86 ls st ws := R_if_ne hc_202 dL_law_64 rfl rfl
theorem r_202_67 (l0 l1 l2 l3 : Value) (a : Int32) (st : List Value) (ws : ai_W) : ai_Run 202 67 [l0, l1, l2, l3, .int a] st ws = ai_Run 202 69 [l0, l1, l2, l3, .int a] (.int a :: st) ws := R_iload hc_202 dL_law_67 rfl rfl
theorem r_202_69 (ls : List Value) (b0 : Int32) (ws : ai_W) : ai_Run 202 69 ls [.int b0] ws = (ai_Call 199 [.int b0] ws).bind fun q => ai_Run 202 72 ls (q.1.toList ++ []) q.2 := R_callS hc_202 dL_law_69 hv_202 (w := 430) rfl (ai_lt3 hf_199 hf_202 hL_199 ho_199 ho_202 rfl) hk_199 (by rw [hn_199]; rfl) rfl (Nat.le_of_ble_eq_true rfl) rfl
theorem r_202_72 (ls st : List Value) (a : Int32) (ws : ai_W) : ai_Run 202 72 ls (.int a :: st) ws = if a = 0 then ai_Run 202 88 ls st ws else ai_Run 202 75 ls st ws := R_if_eq hc_202 dL_law_72 rfl rfl
theorem r_202_75 (l0 l1 l2 l4 : Value) (a : Nat) (st : List Value) (ws : ai_W) : ai_Run 202 75 [l0, l1, l2, .ref a, l4] st ws = ai_Run 202 76 [l0, l1, l2, .ref a, l4] (.ref a :: st) ws := R_aload_n hc_202 dL_law_75 rfl rfl
theorem rx_202_75 (l0 l1 l2 l4 : Value) {a : Nat} (hq : ¬ a = 23) (st : List Value) (ws : ai_W) : ai_Run 202 75 [l0, l1, l2, .retAddr a, l4] st ws = ai_Run 202 76 [l0, l1, l2, .retAddr a, l4] (.retAddr a :: st) ws := R_aload_nX hq hc_202 dL_law_75 rfl rfl
theorem r_202_76 (l0 l2 l3 l4 : Value) (a : Nat) (st : List Value) (ws : ai_W) : ai_Run 202 76 [l0, .ref a, l2, l3, l4] st ws = ai_Run 202 77 [l0, .ref a, l2, l3, l4] (.ref a :: st) ws := R_aload_n hc_202 dL_law_76 rfl rfl
theorem rx_202_76 (l0 l2 l3 l4 : Value) {a : Nat} (hq : ¬ a = 23) (st : List Value) (ws : ai_W) : ai_Run 202 76 [l0, .retAddr a, l2, l3, l4] st ws = ai_Run 202 77 [l0, .retAddr a, l2, l3, l4] (.retAddr a :: st) ws := R_aload_nX hq hc_202 dL_law_76 rfl rfl
theorem r_202_77 (ls : List Value) (b0 : Value) (s0 : Value) (ws : ai_W) : ai_Run 202 77 ls [b0, s0] ws = (ai_Call 201 [b0] ws).bind fun q => ai_Run 202 80 ls (q.1.toList ++ [s0]) q.2 := R_callS hc_202 dL_law_77 hv_202 (w := 1099) rfl (ai_lt3 hf_201 hf_202 hL_201 ho_201 ho_202 rfl) hk_201 (by rw [hn_201]; rfl) rfl (Nat.le_of_ble_eq_true rfl) rfl
theorem r_202_80 (ls : List Value) (b0 : Value) (b1 : Value) (ws : ai_W) : ai_Run 202 80 ls [b1, b0] ws = (ai_Call 162 [b0, b1] ws).bind fun q => ai_Run 202 83 ls (q.1.toList ++ []) q.2 := R_callS hc_202 dL_law_80 hv_202 (w := 1165) rfl (ai_lt3 hf_162 hf_202 hL_162 ho_162 ho_202 rfl) hk_162 (by rw [hn_162]; rfl) rfl (Nat.le_of_ble_eq_true rfl) rfl
theorem r_202_83 (ls st : List Value) (a : Int32) (ws : ai_W) : ai_Run 202 83 ls (.int a :: st) ws = if a = 0 then ai_Run 202 86 ls st ws else ai_Run 202 88 ls st ws := R_if_ne hc_202 dL_law_83 rfl rfl
theorem r_202_86 (ls st : List Value) (ws : ai_W) : ai_Run 202 86 ls st ws = ai_Run 202 87 ls (.int 0 :: st) ws := R_iconst hc_202 dL_law_86 (by decide) rfl
theorem r_202_87 (ls : List Value) (x : Int32) (ws : ai_W) : ai_Run 202 87 ls [.int x] ws = if ai_pb x = true then some (some (.int x), ws) else none := R_zret hc_202 dL_law_87 ht_202
theorem r_202_88 (l0 l1 l2 l3 : Value) (a : Int32) (st : List Value) (ws : ai_W) : ai_Run 202 88 [l0, l1, l2, l3, .int a] st ws = ai_Run 202 90 [l0, l1, l2, l3, .int a] (.int a :: st) ws := R_iload hc_202 dL_law_88 rfl rfl
theorem r_202_90 (ls : List Value) (b0 : Int32) (ws : ai_W) : ai_Run 202 90 ls [.int b0] ws = (ai_Call 199 [.int b0] ws).bind fun q => ai_Run 202 93 ls (q.1.toList ++ []) q.2 := R_callS hc_202 dL_law_90 hv_202 (w := 430) rfl (ai_lt3 hf_199 hf_202 hL_199 ho_199 ho_202 rfl) hk_199 (by rw [hn_199]; rfl) rfl (Nat.le_of_ble_eq_true rfl) rfl
theorem r_202_93 (ls st : List Value) (a : Int32) (ws : ai_W) : ai_Run 202 93 ls (.int a :: st) ws = if a = 0 then ai_Run 202 96 ls st ws else ai_Run 202 128 ls st ws := R_if_ne hc_202 dL_law_93 rfl rfl
theorem r_202_96 (l1 l2 l3 l4 : Value) (a : Nat) (st : List Value) (ws : ai_W) : ai_Run 202 96 [.ref a, l1, l2, l3, l4] st ws = ai_Run 202 97 [.ref a, l1, l2, l3, l4] (.ref a :: st) ws := R_aload_n hc_202 dL_law_96 rfl rfl
theorem rx_202_96 (l1 l2 l3 l4 : Value) {a : Nat} (hq : ¬ a = 23) (st : List Value) (ws : ai_W) : ai_Run 202 96 [.retAddr a, l1, l2, l3, l4] st ws = ai_Run 202 97 [.retAddr a, l1, l2, l3, l4] (.retAddr a :: st) ws := R_aload_nX hq hc_202 dL_law_96 rfl rfl
theorem r_202_97 (ls st : List Value) (ws : ai_W) : ai_Run 202 97 ls st ws = ai_Run 202 99 ls (.int 81 :: st) ws := R_bipush hc_202 dL_law_97 (by decide) rfl
theorem r_202_99 (l0 l1 l3 l4 : Value) (a : Int32) (st : List Value) (ws : ai_W) : ai_Run 202 99 [l0, l1, .int a, l3, l4] st ws = ai_Run 202 100 [l0, l1, .int a, l3, l4] (.int a :: st) ws := R_iload_n hc_202 dL_law_99 rfl rfl
theorem r_202_100 (ls st : List Value) (a b : Int32) (ws : ai_W) : ai_Run 202 100 ls (.int b :: .int a :: st) ws = ai_Run 202 101 ls (.int (a + b) :: st) ws := R_iadd hc_202 dL_law_100 rfl
theorem r_202_101 (ls st : List Value) (ws : ai_W) : ai_Run 202 101 ls st ws = ai_Run 202 102 ls (.int 5 :: st) ws := R_iconst hc_202 dL_law_101 (by decide) rfl
theorem r_202_102 (ls : List Value) (b0 : Value) (b1 : Int32) (b2 : Int32) (ws : ai_W) : ai_Run 202 102 ls [.int b2, .int b1, b0] ws = (ai_Call 164 [b0, .int b1, .int b2] ws).bind fun q => ai_Run 202 105 ls (q.1.toList ++ []) q.2 := R_callS hc_202 dL_law_102 hv_202 (w := 421) rfl (ai_lt3 hf_164 hf_202 hL_164 ho_164 ho_202 rfl) hk_164 (by rw [hn_164]; rfl) rfl (Nat.le_of_ble_eq_true rfl) rfl
theorem r_202_105 (ls st : List Value) (a : Int32) (ws : ai_W) : ai_Run 202 105 ls (.int a :: st) ws = if a = 0 then ai_Run 202 108 ls st ws else ai_Run 202 128 ls st ws := R_if_ne hc_202 dL_law_105 rfl rfl
theorem r_202_108 (l0 l2 l3 l4 : Value) (a : Nat) (st : List Value) (ws : ai_W) : ai_Run 202 108 [l0, .ref a, l2, l3, l4] st ws = ai_Run 202 109 [l0, .ref a, l2, l3, l4] (.ref a :: st) ws := R_aload_n hc_202 dL_law_108 rfl rfl
theorem rx_202_108 (l0 l2 l3 l4 : Value) {a : Nat} (hq : ¬ a = 23) (st : List Value) (ws : ai_W) : ai_Run 202 108 [l0, .retAddr a, l2, l3, l4] st ws = ai_Run 202 109 [l0, .retAddr a, l2, l3, l4] (.retAddr a :: st) ws := R_aload_nX hq hc_202 dL_law_108 rfl rfl
theorem r_202_109 (ls : List Value) (r : Value) (ws : ai_W) : ai_Run 202 109 ls [r] ws = (ai_Call 158 [r] ws).bind fun q => ai_Run 202 112 ls (q.1.toList ++ []) q.2 := R_callV hc_202 dL_law_109 hv_202 (w := 393) rfl (ai_lt3 hf_158 hf_202 hL_158 ho_158 ho_202 rfl) hk_158 (by rw [hn_158]; rfl) rfl (Nat.le_of_ble_eq_true rfl) rfl
theorem r_202_112 (ls st : List Value) (a : Int32) (ws : ai_W) : ai_Run 202 112 ls (.int a :: st) ws = if a < 0 then ai_Run 202 126 ls st ws else ai_Run 202 115 ls st ws := R_if_lt hc_202 dL_law_112 rfl rfl
theorem r_202_115 (l0 l1 l2 l4 : Value) (a : Nat) (st : List Value) (ws : ai_W) : ai_Run 202 115 [l0, l1, l2, .ref a, l4] st ws = ai_Run 202 116 [l0, l1, l2, .ref a, l4] (.ref a :: st) ws := R_aload_n hc_202 dL_law_115 rfl rfl
theorem rx_202_115 (l0 l1 l2 l4 : Value) {a : Nat} (hq : ¬ a = 23) (st : List Value) (ws : ai_W) : ai_Run 202 115 [l0, l1, l2, .retAddr a, l4] st ws = ai_Run 202 116 [l0, l1, l2, .retAddr a, l4] (.retAddr a :: st) ws := R_aload_nX hq hc_202 dL_law_115 rfl rfl
theorem r_202_116 (l0 l2 l3 l4 : Value) (a : Nat) (st : List Value) (ws : ai_W) : ai_Run 202 116 [l0, .ref a, l2, l3, l4] st ws = ai_Run 202 117 [l0, .ref a, l2, l3, l4] (.ref a :: st) ws := R_aload_n hc_202 dL_law_116 rfl rfl
theorem rx_202_116 (l0 l2 l3 l4 : Value) {a : Nat} (hq : ¬ a = 23) (st : List Value) (ws : ai_W) : ai_Run 202 116 [l0, .retAddr a, l2, l3, l4] st ws = ai_Run 202 117 [l0, .retAddr a, l2, l3, l4] (.retAddr a :: st) ws := R_aload_nX hq hc_202 dL_law_116 rfl rfl
theorem r_202_117 (ls : List Value) (b0 : Value) (s0 : Value) (ws : ai_W) : ai_Run 202 117 ls [b0, s0] ws = (ai_Call 201 [b0] ws).bind fun q => ai_Run 202 120 ls (q.1.toList ++ [s0]) q.2 := R_callS hc_202 dL_law_117 hv_202 (w := 1099) rfl (ai_lt3 hf_201 hf_202 hL_201 ho_201 ho_202 rfl) hk_201 (by rw [hn_201]; rfl) rfl (Nat.le_of_ble_eq_true rfl) rfl
theorem r_202_120 (ls : List Value) (b0 : Value) (b1 : Value) (ws : ai_W) : ai_Run 202 120 ls [b1, b0] ws = (ai_Call 162 [b0, b1] ws).bind fun q => ai_Run 202 123 ls (q.1.toList ++ []) q.2 := R_callS hc_202 dL_law_120 hv_202 (w := 1165) rfl (ai_lt3 hf_162 hf_202 hL_162 ho_162 ho_202 rfl) hk_162 (by rw [hn_162]; rfl) rfl (Nat.le_of_ble_eq_true rfl) rfl
theorem r_202_123 (ls st : List Value) (a : Int32) (ws : ai_W) : ai_Run 202 123 ls (.int a :: st) ws = if a = 0 then ai_Run 202 126 ls st ws else ai_Run 202 128 ls st ws := R_if_ne hc_202 dL_law_123 rfl rfl
theorem r_202_126 (ls st : List Value) (ws : ai_W) : ai_Run 202 126 ls st ws = ai_Run 202 127 ls (.int 0 :: st) ws := R_iconst hc_202 dL_law_126 (by decide) rfl
theorem r_202_127 (ls : List Value) (x : Int32) (ws : ai_W) : ai_Run 202 127 ls [.int x] ws = if ai_pb x = true then some (some (.int x), ws) else none := R_zret hc_202 dL_law_127 ht_202
theorem r_202_128 (l0 l1 l3 l4 : Value) (a : Int32) (st : List Value) (ws : ai_W) : ai_Run 202 128 [l0, l1, .int a, l3, l4] st ws = ai_Run 202 131 [l0, l1, .int (a + 1), l3, l4] st ws := R_iinc hc_202 dL_law_128 rfl (by decide) rfl rfl
theorem r_202_131 (ls st : List Value) (ws : ai_W) : ai_Run 202 131 ls st ws = ai_Run 202 20 ls st ws := R_goto hc_202 dL_law_131 rfl
theorem r_202_134 (l0 l2 l3 l4 : Value) (a : Nat) (st : List Value) (ws : ai_W) : ai_Run 202 134 [l0, .ref a, l2, l3, l4] st ws = ai_Run 202 135 [l0, .ref a, l2, l3, l4] (.ref a :: st) ws := R_aload_n hc_202 dL_law_134 rfl rfl
theorem rx_202_134 (l0 l2 l3 l4 : Value) {a : Nat} (hq : ¬ a = 23) (st : List Value) (ws : ai_W) : ai_Run 202 134 [l0, .retAddr a, l2, l3, l4] st ws = ai_Run 202 135 [l0, .retAddr a, l2, l3, l4] (.retAddr a :: st) ws := R_aload_nX hq hc_202 dL_law_134 rfl rfl
theorem r_202_135 (ls : List Value) (b0 : Value) (ws : ai_W) : ai_Run 202 135 ls [b0] ws = (ai_Call 201 [b0] ws).bind fun q => ai_Run 202 138 ls (q.1.toList ++ []) q.2 := R_callS hc_202 dL_law_135 hv_202 (w := 1099) rfl (ai_lt3 hf_201 hf_202 hL_201 ho_201 ho_202 rfl) hk_201 (by rw [hn_201]; rfl) rfl (Nat.le_of_ble_eq_true rfl) rfl
theorem r_202_138 (l0 l1 l2 l3 l4 : Value) (a : Nat) (st : List Value) (ws : ai_W) : ai_Run 202 138 [l0, l1, l2, l3, l4] (.ref a :: st) ws = ai_Run 202 139 [l0, l1, .ref a, l3, l4] st ws := R_astore_n hc_202 dL_law_138 (Nat.le_of_ble_eq_true rfl) rfl rfl
theorem r_202_139 (l0 l2 l3 l4 : Value) (a : Nat) (st : List Value) (ws : ai_W) : ai_Run 202 139 [l0, .ref a, l2, l3, l4] st ws = ai_Run 202 140 [l0, .ref a, l2, l3, l4] (.ref a :: st) ws := R_aload_n hc_202 dL_law_139 rfl rfl
theorem rx_202_139 (l0 l2 l3 l4 : Value) {a : Nat} (hq : ¬ a = 23) (st : List Value) (ws : ai_W) : ai_Run 202 139 [l0, .retAddr a, l2, l3, l4] st ws = ai_Run 202 140 [l0, .retAddr a, l2, l3, l4] (.retAddr a :: st) ws := R_aload_nX hq hc_202 dL_law_139 rfl rfl
theorem r_202_140 (ls : List Value) (r : Value) (ws : ai_W) : ai_Run 202 140 ls [r] ws = (ai_Call 142 [r] ws).bind fun q => ai_Run 202 143 ls (q.1.toList ++ []) q.2 := R_callV hc_202 dL_law_140 hv_202 (w := 405) rfl (ai_lt3 hf_142 hf_202 hL_142 ho_142 ho_202 rfl) hk_142 (by rw [hn_142]; rfl) rfl (Nat.le_of_ble_eq_true rfl) rfl
theorem r_202_143 (l0 l1 l2 l3 l4 : Value) (a : Int32) (st : List Value) (ws : ai_W) : ai_Run 202 143 [l0, l1, l2, l3, l4] (.int a :: st) ws = ai_Run 202 144 [l0, l1, l2, .int a, l4] st ws := R_istore_n hc_202 dL_law_143 (Nat.le_of_ble_eq_true rfl) rfl rfl
theorem r_202_144 (l0 l2 l3 l4 : Value) (a : Nat) (st : List Value) (ws : ai_W) : ai_Run 202 144 [l0, .ref a, l2, l3, l4] st ws = ai_Run 202 145 [l0, .ref a, l2, l3, l4] (.ref a :: st) ws := R_aload_n hc_202 dL_law_144 rfl rfl
theorem rx_202_144 (l0 l2 l3 l4 : Value) {a : Nat} (hq : ¬ a = 23) (st : List Value) (ws : ai_W) : ai_Run 202 144 [l0, .retAddr a, l2, l3, l4] st ws = ai_Run 202 145 [l0, .retAddr a, l2, l3, l4] (.retAddr a :: st) ws := R_aload_nX hq hc_202 dL_law_144 rfl rfl
theorem r_202_145 (ls st : List Value) (ws : ai_W) : ai_Run 202 145 ls st ws = ai_Run 202 146 ls (.int 0 :: st) ws := R_iconst hc_202 dL_law_145 (by decide) rfl
theorem r_202_146 (ls st : List Value) (ws : ai_W) : ai_Run 202 146 ls st ws = ai_Run 202 147 ls (.int 1 :: st) ws := R_iconst hc_202 dL_law_146 (by decide) rfl
theorem r_202_147 (ls st : List Value) (ws : ai_W) : ai_Run 202 147 ls st ws = ai_Run 202 148 ls (.int 0 :: st) ws := R_iconst hc_202 dL_law_147 (by decide) rfl
theorem r_202_148 (ls : List Value) (r : Value) (b0 : Int32) (b1 : Int32) (b2 : Int32) (ws : ai_W) : ai_Run 202 148 ls [.int b2, .int b1, .int b0, r] ws = (ai_Call 110 [r, .int b0, .int b1, .int b2] ws).bind fun q => ai_Run 202 151 ls (q.1.toList ++ []) q.2 := R_callV hc_202 dL_law_148 hv_202 (w := 202) rfl (ai_lt3 hf_110 hf_202 hL_110 ho_110 ho_202 rfl) hk_110 (by rw [hn_110]; rfl) rfl (Nat.le_of_ble_eq_true rfl) rfl
theorem r_202_151 (l0 l2 l3 l4 : Value) (a : Nat) (st : List Value) (ws : ai_W) : ai_Run 202 151 [l0, .ref a, l2, l3, l4] st ws = ai_Run 202 152 [l0, .ref a, l2, l3, l4] (.ref a :: st) ws := R_aload_n hc_202 dL_law_151 rfl rfl
theorem rx_202_151 (l0 l2 l3 l4 : Value) {a : Nat} (hq : ¬ a = 23) (st : List Value) (ws : ai_W) : ai_Run 202 151 [l0, .retAddr a, l2, l3, l4] st ws = ai_Run 202 152 [l0, .retAddr a, l2, l3, l4] (.retAddr a :: st) ws := R_aload_nX hq hc_202 dL_law_151 rfl rfl
theorem r_202_152 (ls st : List Value) (ws : ai_W) : ai_Run 202 152 ls st ws = ai_Run 202 153 ls (.int 0 :: st) ws := R_iconst hc_202 dL_law_152 (by decide) rfl
theorem r_202_153 (ls st : List Value) (ws : ai_W) : ai_Run 202 153 ls st ws = ai_Run 202 154 ls (.int 5 :: st) ws := R_iconst hc_202 dL_law_153 (by decide) rfl
theorem r_202_154 (ls st : List Value) (ws : ai_W) : ai_Run 202 154 ls st ws = ai_Run 202 155 ls (.int 1 :: st) ws := R_iconst hc_202 dL_law_154 (by decide) rfl
theorem r_202_155 (ls st : List Value) (ws : ai_W) : ai_Run 202 155 ls st ws = ai_Run 202 156 ls (.int 0 :: st) ws := R_iconst hc_202 dL_law_155 (by decide) rfl
theorem r_202_156 (ls st : List Value) (ws : ai_W) : ai_Run 202 156 ls st ws = ai_Run 202 157 ls (.int 0 :: st) ws := R_iconst hc_202 dL_law_156 (by decide) rfl
theorem r_202_157 (ls : List Value) (r : Value) (b0 : Int32) (b1 : Int32) (b2 : Int32) (b3 : Int32) (b4 : Int32) (s0 : Value) (ws : ai_W) : ai_Run 202 157 ls [.int b4, .int b3, .int b2, .int b1, .int b0, r, s0] ws = (ai_Call 160 [r, .int b0, .int b1, .int b2, .int b3, .int b4] ws).bind fun q => ai_Run 202 160 ls (q.1.toList ++ [s0]) q.2 := R_callV hc_202 dL_law_157 hv_202 (w := 248) rfl (ai_lt3 hf_160 hf_202 hL_160 ho_160 ho_202 rfl) hk_160 (by rw [hn_160]; rfl) rfl (Nat.le_of_ble_eq_true rfl) rfl
theorem r_202_160 (ls st : List Value) (a b : Int32) (ws : ai_W) : ai_Run 202 160 ls (.int b :: .int a :: st) ws = ai_Run 202 161 ls (.int (a + b) :: st) ws := R_iadd hc_202 dL_law_160 rfl
theorem r_202_161 (l0 l2 l3 l4 : Value) (a : Nat) (st : List Value) (ws : ai_W) : ai_Run 202 161 [l0, .ref a, l2, l3, l4] st ws = ai_Run 202 162 [l0, .ref a, l2, l3, l4] (.ref a :: st) ws := R_aload_n hc_202 dL_law_161 rfl rfl
theorem rx_202_161 (l0 l2 l3 l4 : Value) {a : Nat} (hq : ¬ a = 23) (st : List Value) (ws : ai_W) : ai_Run 202 161 [l0, .retAddr a, l2, l3, l4] st ws = ai_Run 202 162 [l0, .retAddr a, l2, l3, l4] (.retAddr a :: st) ws := R_aload_nX hq hc_202 dL_law_161 rfl rfl
theorem r_202_162 (ls st : List Value) (ws : ai_W) : ai_Run 202 162 ls st ws = ai_Run 202 163 ls (.int 1 :: st) ws := R_iconst hc_202 dL_law_162 (by decide) rfl
theorem r_202_163 (ls st : List Value) (ws : ai_W) : ai_Run 202 163 ls st ws = ai_Run 202 164 ls (.int 0 :: st) ws := R_iconst hc_202 dL_law_163 (by decide) rfl
theorem r_202_164 (ls : List Value) (r : Value) (b0 : Int32) (b1 : Int32) (s0 : Value) (ws : ai_W) : ai_Run 202 164 ls [.int b1, .int b0, r, s0] ws = (ai_Call 123 [r, .int b0, .int b1] ws).bind fun q => ai_Run 202 167 ls (q.1.toList ++ [s0]) q.2 := R_callV hc_202 dL_law_164 hv_202 (w := 262) rfl (ai_lt3 hf_123 hf_202 hL_123 ho_123 ho_202 rfl) hk_123 (by rw [hn_123]; rfl) rfl (Nat.le_of_ble_eq_true rfl) rfl
theorem r_202_167 (ls st : List Value) (a b : Int32) (ws : ai_W) : ai_Run 202 167 ls (.int b :: .int a :: st) ws = ai_Run 202 168 ls (.int (a + b) :: st) ws := R_iadd hc_202 dL_law_167 rfl
theorem r_202_168 (l0 l2 l3 l4 : Value) (a : Nat) (st : List Value) (ws : ai_W) : ai_Run 202 168 [l0, .ref a, l2, l3, l4] st ws = ai_Run 202 169 [l0, .ref a, l2, l3, l4] (.ref a :: st) ws := R_aload_n hc_202 dL_law_168 rfl rfl
theorem rx_202_168 (l0 l2 l3 l4 : Value) {a : Nat} (hq : ¬ a = 23) (st : List Value) (ws : ai_W) : ai_Run 202 168 [l0, .retAddr a, l2, l3, l4] st ws = ai_Run 202 169 [l0, .retAddr a, l2, l3, l4] (.retAddr a :: st) ws := R_aload_nX hq hc_202 dL_law_168 rfl rfl
theorem r_202_169 (ls st : List Value) (ws : ai_W) : ai_Run 202 169 ls st ws = ai_Run 202 170 ls (.int 0 :: st) ws := R_iconst hc_202 dL_law_169 (by decide) rfl
theorem r_202_170 (ls : List Value) (r : Value) (b0 : Int32) (s0 : Value) (ws : ai_W) : ai_Run 202 170 ls [.int b0, r, s0] ws = (ai_Call 154 [r, .int b0] ws).bind fun q => ai_Run 202 173 ls (q.1.toList ++ [s0]) q.2 := R_callV hc_202 dL_law_170 hv_202 (w := 307) rfl (ai_lt3 hf_154 hf_202 hL_154 ho_154 ho_202 rfl) hk_154 (by rw [hn_154]; rfl) rfl (Nat.le_of_ble_eq_true rfl) rfl
theorem r_202_173 (ls st : List Value) (a b : Int32) (ws : ai_W) : ai_Run 202 173 ls (.int b :: .int a :: st) ws = ai_Run 202 174 ls (.int (a + b) :: st) ws := R_iadd hc_202 dL_law_173 rfl
theorem r_202_174 (l0 l2 l3 l4 : Value) (a : Nat) (st : List Value) (ws : ai_W) : ai_Run 202 174 [l0, .ref a, l2, l3, l4] st ws = ai_Run 202 175 [l0, .ref a, l2, l3, l4] (.ref a :: st) ws := R_aload_n hc_202 dL_law_174 rfl rfl
theorem rx_202_174 (l0 l2 l3 l4 : Value) {a : Nat} (hq : ¬ a = 23) (st : List Value) (ws : ai_W) : ai_Run 202 174 [l0, .retAddr a, l2, l3, l4] st ws = ai_Run 202 175 [l0, .retAddr a, l2, l3, l4] (.retAddr a :: st) ws := R_aload_nX hq hc_202 dL_law_174 rfl rfl
theorem r_202_175 (ls : List Value) (r : Value) (s0 : Value) (ws : ai_W) : ai_Run 202 175 ls [r, s0] ws = (ai_Call 144 [r] ws).bind fun q => ai_Run 202 178 ls (q.1.toList ++ [s0]) q.2 := R_callV hc_202 dL_law_175 hv_202 (w := 385) rfl (ai_lt3 hf_144 hf_202 hL_144 ho_144 ho_202 rfl) hk_144 (by rw [hn_144]; rfl) rfl (Nat.le_of_ble_eq_true rfl) rfl
theorem r_202_178 (ls st : List Value) (a b : Int32) (ws : ai_W) : ai_Run 202 178 ls (.int b :: .int a :: st) ws = ai_Run 202 179 ls (.int (a + b) :: st) ws := R_iadd hc_202 dL_law_178 rfl
theorem r_202_179 (l0 l1 l2 l3 l4 : Value) (a : Int32) (st : List Value) (ws : ai_W) : ai_Run 202 179 [l0, l1, l2, l3, l4] (.int a :: st) ws = ai_Run 202 181 [l0, l1, l2, l3, .int a] st ws := R_istore hc_202 dL_law_179 (Nat.le_of_ble_eq_true rfl) rfl rfl
theorem r_202_181 (l0 l1 l3 l4 : Value) (a : Nat) (st : List Value) (ws : ai_W) : ai_Run 202 181 [l0, l1, .ref a, l3, l4] st ws = ai_Run 202 182 [l0, l1, .ref a, l3, l4] (.ref a :: st) ws := R_aload_n hc_202 dL_law_181 rfl rfl
theorem rx_202_181 (l0 l1 l3 l4 : Value) {a : Nat} (hq : ¬ a = 23) (st : List Value) (ws : ai_W) : ai_Run 202 181 [l0, l1, .retAddr a, l3, l4] st ws = ai_Run 202 182 [l0, l1, .retAddr a, l3, l4] (.retAddr a :: st) ws := R_aload_nX hq hc_202 dL_law_181 rfl rfl
theorem r_202_182 (l0 l2 l3 l4 : Value) (a : Nat) (st : List Value) (ws : ai_W) : ai_Run 202 182 [l0, .ref a, l2, l3, l4] st ws = ai_Run 202 183 [l0, .ref a, l2, l3, l4] (.ref a :: st) ws := R_aload_n hc_202 dL_law_182 rfl rfl
theorem rx_202_182 (l0 l2 l3 l4 : Value) {a : Nat} (hq : ¬ a = 23) (st : List Value) (ws : ai_W) : ai_Run 202 182 [l0, .retAddr a, l2, l3, l4] st ws = ai_Run 202 183 [l0, .retAddr a, l2, l3, l4] (.retAddr a :: st) ws := R_aload_nX hq hc_202 dL_law_182 rfl rfl
theorem r_202_183 (ls : List Value) (b0 : Value) (s0 : Value) (ws : ai_W) : ai_Run 202 183 ls [b0, s0] ws = (ai_Call 201 [b0] ws).bind fun q => ai_Run 202 186 ls (q.1.toList ++ [s0]) q.2 := R_callS hc_202 dL_law_183 hv_202 (w := 1099) rfl (ai_lt3 hf_201 hf_202 hL_201 ho_201 ho_202 rfl) hk_201 (by rw [hn_201]; rfl) rfl (Nat.le_of_ble_eq_true rfl) rfl
theorem r_202_186 (ls : List Value) (b0 : Value) (b1 : Value) (ws : ai_W) : ai_Run 202 186 ls [b1, b0] ws = (ai_Call 162 [b0, b1] ws).bind fun q => ai_Run 202 189 ls (q.1.toList ++ []) q.2 := R_callS hc_202 dL_law_186 hv_202 (w := 1165) rfl (ai_lt3 hf_162 hf_202 hL_162 ho_162 ho_202 rfl) hk_162 (by rw [hn_162]; rfl) rfl (Nat.le_of_ble_eq_true rfl) rfl
theorem r_202_189 (ls st : List Value) (a : Int32) (ws : ai_W) : ai_Run 202 189 ls (.int a :: st) ws = if a = 0 then ai_Run 202 192 ls st ws else ai_Run 202 194 ls st ws := R_if_ne hc_202 dL_law_189 rfl rfl
theorem r_202_192 (ls st : List Value) (ws : ai_W) : ai_Run 202 192 ls st ws = ai_Run 202 193 ls (.int 0 :: st) ws := R_iconst hc_202 dL_law_192 (by decide) rfl
theorem r_202_193 (ls : List Value) (x : Int32) (ws : ai_W) : ai_Run 202 193 ls [.int x] ws = if ai_pb x = true then some (some (.int x), ws) else none := R_zret hc_202 dL_law_193 ht_202
theorem r_202_194 (l0 l1 l2 l3 : Value) (a : Int32) (st : List Value) (ws : ai_W) : ai_Run 202 194 [l0, l1, l2, l3, .int a] st ws = ai_Run 202 196 [l0, l1, l2, l3, .int a] (.int a :: st) ws := R_iload hc_202 dL_law_194 rfl rfl
theorem r_202_196 (l0 l2 l3 l4 : Value) (a : Nat) (st : List Value) (ws : ai_W) : ai_Run 202 196 [l0, .ref a, l2, l3, l4] st ws = ai_Run 202 197 [l0, .ref a, l2, l3, l4] (.ref a :: st) ws := R_aload_n hc_202 dL_law_196 rfl rfl
theorem rx_202_196 (l0 l2 l3 l4 : Value) {a : Nat} (hq : ¬ a = 23) (st : List Value) (ws : ai_W) : ai_Run 202 196 [l0, .retAddr a, l2, l3, l4] st ws = ai_Run 202 197 [l0, .retAddr a, l2, l3, l4] (.retAddr a :: st) ws := R_aload_nX hq hc_202 dL_law_196 rfl rfl
theorem r_202_197 (ls : List Value) (r : Value) (s0 : Value) (ws : ai_W) : ai_Run 202 197 ls [r, s0] ws = (ai_Call 92 [r] ws).bind fun q => ai_Run 202 200 ls (q.1.toList ++ [s0]) q.2 := R_callV hc_202 dL_law_197 hv_202 (w := 44) rfl (ai_lt3 hf_92 hf_202 hL_92 ho_92 ho_202 rfl) hk_92 (by rw [hn_92]; rfl) rfl (Nat.le_of_ble_eq_true rfl) rfl
theorem r_202_200 (l0 l2 l3 l4 : Value) (a : Nat) (st : List Value) (ws : ai_W) : ai_Run 202 200 [l0, .ref a, l2, l3, l4] st ws = ai_Run 202 201 [l0, .ref a, l2, l3, l4] (.ref a :: st) ws := R_aload_n hc_202 dL_law_200 rfl rfl
theorem rx_202_200 (l0 l2 l3 l4 : Value) {a : Nat} (hq : ¬ a = 23) (st : List Value) (ws : ai_W) : ai_Run 202 200 [l0, .retAddr a, l2, l3, l4] st ws = ai_Run 202 201 [l0, .retAddr a, l2, l3, l4] (.retAddr a :: st) ws := R_aload_nX hq hc_202 dL_law_200 rfl rfl
theorem r_202_201 (ls st : List Value) (ws : ai_W) : ai_Run 202 201 ls st ws = ai_Run 202 202 ls (.int 0 :: st) ws := R_iconst hc_202 dL_law_201 (by decide) rfl
theorem r_202_202 (ls st : List Value) (ws : ai_W) : ai_Run 202 202 ls st ws = ai_Run 202 204 ls (.int 29 :: st) ws := R_bipush hc_202 dL_law_202 (by decide) rfl
theorem r_202_204 (ls : List Value) (r : Value) (b0 : Int32) (b1 : Int32) (s0 s1 : Value) (ws : ai_W) : ai_Run 202 204 ls [.int b1, .int b0, r, s0, s1] ws = (ai_Call 140 [r, .int b0, .int b1] ws).bind fun q => ai_Run 202 207 ls (q.1.toList ++ [s0, s1]) q.2 := R_callV hc_202 dL_law_204 hv_202 (w := 100) rfl (ai_lt3 hf_140 hf_202 hL_140 ho_140 ho_202 rfl) hk_140 (by rw [hn_140]; rfl) rfl (Nat.le_of_ble_eq_true rfl) rfl
theorem r_202_207 (ls st : List Value) (a b : Int32) (ws : ai_W) : ai_Run 202 207 ls (.int b :: .int a :: st) ws = ai_Run 202 208 ls (.int (a + b) :: st) ws := R_iadd hc_202 dL_law_207 rfl
theorem r_202_208 (l0 l2 l3 l4 : Value) (a : Nat) (st : List Value) (ws : ai_W) : ai_Run 202 208 [l0, .ref a, l2, l3, l4] st ws = ai_Run 202 209 [l0, .ref a, l2, l3, l4] (.ref a :: st) ws := R_aload_n hc_202 dL_law_208 rfl rfl
theorem rx_202_208 (l0 l2 l3 l4 : Value) {a : Nat} (hq : ¬ a = 23) (st : List Value) (ws : ai_W) : ai_Run 202 208 [l0, .retAddr a, l2, l3, l4] st ws = ai_Run 202 209 [l0, .retAddr a, l2, l3, l4] (.retAddr a :: st) ws := R_aload_nX hq hc_202 dL_law_208 rfl rfl
theorem r_202_209 (ls st : List Value) (ws : ai_W) : ai_Run 202 209 ls st ws = ai_Run 202 210 ls (.int 0 :: st) ws := R_iconst hc_202 dL_law_209 (by decide) rfl
theorem r_202_210 (ls st : List Value) (ws : ai_W) : ai_Run 202 210 ls st ws = ai_Run 202 211 ls (.int 1 :: st) ws := R_iconst hc_202 dL_law_210 (by decide) rfl
theorem r_202_211 (ls st : List Value) (ws : ai_W) : ai_Run 202 211 ls st ws = ai_Run 202 213 ls (.int 7 :: st) ws := R_bipush hc_202 dL_law_211 (by decide) rfl
theorem r_202_213 (ls : List Value) (r : Value) (b0 : Int32) (b1 : Int32) (b2 : Int32) (s0 s1 : Value) (ws : ai_W) : ai_Run 202 213 ls [.int b2, .int b1, .int b0, r, s0, s1] ws = (ai_Call 118 [r, .int b0, .int b1, .int b2] ws).bind fun q => ai_Run 202 216 ls (q.1.toList ++ [s0, s1]) q.2 := R_callV hc_202 dL_law_213 hv_202 (w := 169) rfl (ai_lt3 hf_118 hf_202 hL_118 ho_118 ho_202 rfl) hk_118 (by rw [hn_118]; rfl) rfl (Nat.le_of_ble_eq_true rfl) rfl
theorem r_202_216 (ls st : List Value) (a b : Int32) (ws : ai_W) : ai_Run 202 216 ls (.int b :: .int a :: st) ws = ai_Run 202 217 ls (.int (a + b) :: st) ws := R_iadd hc_202 dL_law_216 rfl
theorem r_202_217 (l0 l2 l3 l4 : Value) (a : Nat) (st : List Value) (ws : ai_W) : ai_Run 202 217 [l0, .ref a, l2, l3, l4] st ws = ai_Run 202 218 [l0, .ref a, l2, l3, l4] (.ref a :: st) ws := R_aload_n hc_202 dL_law_217 rfl rfl
theorem rx_202_217 (l0 l2 l3 l4 : Value) {a : Nat} (hq : ¬ a = 23) (st : List Value) (ws : ai_W) : ai_Run 202 217 [l0, .retAddr a, l2, l3, l4] st ws = ai_Run 202 218 [l0, .retAddr a, l2, l3, l4] (.retAddr a :: st) ws := R_aload_nX hq hc_202 dL_law_217 rfl rfl
theorem r_202_218 (ls st : List Value) (ws : ai_W) : ai_Run 202 218 ls st ws = ai_Run 202 219 ls (.int 0 :: st) ws := R_iconst hc_202 dL_law_218 (by decide) rfl
theorem r_202_219 (ls : List Value) (r : Value) (b0 : Int32) (s0 s1 : Value) (ws : ai_W) : ai_Run 202 219 ls [.int b0, r, s0, s1] ws = (ai_Call 117 [r, .int b0] ws).bind fun q => ai_Run 202 222 ls (q.1.toList ++ [s0, s1]) q.2 := R_callV hc_202 dL_law_219 hv_202 (w := 181) rfl (ai_lt3 hf_117 hf_202 hL_117 ho_117 ho_202 rfl) hk_117 (by rw [hn_117]; rfl) rfl (Nat.le_of_ble_eq_true rfl) rfl
theorem r_202_222 (ls st : List Value) (a b : Int32) (ws : ai_W) : ai_Run 202 222 ls (.int b :: .int a :: st) ws = ai_Run 202 223 ls (.int (a + b) :: st) ws := R_iadd hc_202 dL_law_222 rfl
theorem r_202_223 (l0 l2 l3 l4 : Value) (a : Nat) (st : List Value) (ws : ai_W) : ai_Run 202 223 [l0, .ref a, l2, l3, l4] st ws = ai_Run 202 224 [l0, .ref a, l2, l3, l4] (.ref a :: st) ws := R_aload_n hc_202 dL_law_223 rfl rfl
theorem rx_202_223 (l0 l2 l3 l4 : Value) {a : Nat} (hq : ¬ a = 23) (st : List Value) (ws : ai_W) : ai_Run 202 223 [l0, .retAddr a, l2, l3, l4] st ws = ai_Run 202 224 [l0, .retAddr a, l2, l3, l4] (.retAddr a :: st) ws := R_aload_nX hq hc_202 dL_law_223 rfl rfl
theorem r_202_224 (ls st : List Value) (ws : ai_W) : ai_Run 202 224 ls st ws = ai_Run 202 225 ls (.int 0 :: st) ws := R_iconst hc_202 dL_law_224 (by decide) rfl
theorem r_202_225 (ls st : List Value) (ws : ai_W) : ai_Run 202 225 ls st ws = ai_Run 202 226 ls (.int 1 :: st) ws := R_iconst hc_202 dL_law_225 (by decide) rfl
theorem r_202_226 (ls : List Value) (r : Value) (b0 : Int32) (b1 : Int32) (s0 s1 : Value) (ws : ai_W) : ai_Run 202 226 ls [.int b1, .int b0, r, s0, s1] ws = (ai_Call 150 [r, .int b0, .int b1] ws).bind fun q => ai_Run 202 229 ls (q.1.toList ++ [s0, s1]) q.2 := R_callV hc_202 dL_law_226 hv_202 (w := 149) rfl (ai_lt3 hf_150 hf_202 hL_150 ho_150 ho_202 rfl) hk_150 (by rw [hn_150]; rfl) rfl (Nat.le_of_ble_eq_true rfl) rfl
theorem r_202_229 (ls st : List Value) (a b : Int32) (ws : ai_W) : ai_Run 202 229 ls (.int b :: .int a :: st) ws = ai_Run 202 230 ls (.int (a + b) :: st) ws := R_iadd hc_202 dL_law_229 rfl
theorem r_202_230 (ls st : List Value) (a b : Int32) (ws : ai_W) : ai_Run 202 230 ls (.int b :: .int a :: st) ws = ai_Run 202 231 ls (.int (a + b) :: st) ws := R_iadd hc_202 dL_law_230 rfl
theorem r_202_231 (l0 l1 l2 l3 l4 : Value) (a : Int32) (st : List Value) (ws : ai_W) : ai_Run 202 231 [l0, l1, l2, l3, l4] (.int a :: st) ws = ai_Run 202 233 [l0, l1, l2, l3, .int a] st ws := R_istore hc_202 dL_law_231 (Nat.le_of_ble_eq_true rfl) rfl rfl
theorem r_202_233 (l0 l2 l3 l4 : Value) (a : Nat) (st : List Value) (ws : ai_W) : ai_Run 202 233 [l0, .ref a, l2, l3, l4] st ws = ai_Run 202 234 [l0, .ref a, l2, l3, l4] (.ref a :: st) ws := R_aload_n hc_202 dL_law_233 rfl rfl
theorem rx_202_233 (l0 l2 l3 l4 : Value) {a : Nat} (hq : ¬ a = 23) (st : List Value) (ws : ai_W) : ai_Run 202 233 [l0, .retAddr a, l2, l3, l4] st ws = ai_Run 202 234 [l0, .retAddr a, l2, l3, l4] (.retAddr a :: st) ws := R_aload_nX hq hc_202 dL_law_233 rfl rfl
theorem r_202_234 (ls : List Value) (r : Value) (ws : ai_W) : ai_Run 202 234 ls [r] ws = (ai_Call 139 [r] ws).bind fun q => ai_Run 202 237 ls (q.1.toList ++ []) q.2 := R_callV hc_202 dL_law_234 hv_202 (w := 413) rfl (ai_lt3 hf_139 hf_202 hL_139 ho_139 ho_202 rfl) hk_139 (by rw [hn_139]; rfl) rfl (Nat.le_of_ble_eq_true rfl) rfl
theorem r_202_237 (l0 l1 l2 l4 : Value) (a : Int32) (st : List Value) (ws : ai_W) : ai_Run 202 237 [l0, l1, l2, .int a, l4] st ws = ai_Run 202 238 [l0, l1, l2, .int a, l4] (.int a :: st) ws := R_iload_n hc_202 dL_law_237 rfl rfl
theorem r_202_238 (ls st : List Value) (a b : Int32) (ws : ai_W) : ai_Run 202 238 ls (.int b :: .int a :: st) ws = if a = b then ai_Run 202 241 ls st ws else ai_Run 202 272 ls st ws := R_cmp_ne hc_202 dL_law_238 rfl rfl
theorem r_202_241 (l0 l1 l3 l4 : Value) (a : Nat) (st : List Value) (ws : ai_W) : ai_Run 202 241 [l0, l1, .ref a, l3, l4] st ws = ai_Run 202 242 [l0, l1, .ref a, l3, l4] (.ref a :: st) ws := R_aload_n hc_202 dL_law_241 rfl rfl
theorem rx_202_241 (l0 l1 l3 l4 : Value) {a : Nat} (hq : ¬ a = 23) (st : List Value) (ws : ai_W) : ai_Run 202 241 [l0, l1, .retAddr a, l3, l4] st ws = ai_Run 202 242 [l0, l1, .retAddr a, l3, l4] (.retAddr a :: st) ws := R_aload_nX hq hc_202 dL_law_241 rfl rfl
theorem r_202_242 (l0 l2 l3 l4 : Value) (a : Nat) (st : List Value) (ws : ai_W) : ai_Run 202 242 [l0, .ref a, l2, l3, l4] st ws = ai_Run 202 243 [l0, .ref a, l2, l3, l4] (.ref a :: st) ws := R_aload_n hc_202 dL_law_242 rfl rfl
theorem rx_202_242 (l0 l2 l3 l4 : Value) {a : Nat} (hq : ¬ a = 23) (st : List Value) (ws : ai_W) : ai_Run 202 242 [l0, .retAddr a, l2, l3, l4] st ws = ai_Run 202 243 [l0, .retAddr a, l2, l3, l4] (.retAddr a :: st) ws := R_aload_nX hq hc_202 dL_law_242 rfl rfl
theorem r_202_243 (ls : List Value) (b0 : Value) (s0 : Value) (ws : ai_W) : ai_Run 202 243 ls [b0, s0] ws = (ai_Call 201 [b0] ws).bind fun q => ai_Run 202 246 ls (q.1.toList ++ [s0]) q.2 := R_callS hc_202 dL_law_243 hv_202 (w := 1099) rfl (ai_lt3 hf_201 hf_202 hL_201 ho_201 ho_202 rfl) hk_201 (by rw [hn_201]; rfl) rfl (Nat.le_of_ble_eq_true rfl) rfl
theorem r_202_246 (ls : List Value) (b0 : Value) (b1 : Value) (ws : ai_W) : ai_Run 202 246 ls [b1, b0] ws = (ai_Call 162 [b0, b1] ws).bind fun q => ai_Run 202 249 ls (q.1.toList ++ []) q.2 := R_callS hc_202 dL_law_246 hv_202 (w := 1165) rfl (ai_lt3 hf_162 hf_202 hL_162 ho_162 ho_202 rfl) hk_162 (by rw [hn_162]; rfl) rfl (Nat.le_of_ble_eq_true rfl) rfl
theorem r_202_249 (ls st : List Value) (a : Int32) (ws : ai_W) : ai_Run 202 249 ls (.int a :: st) ws = if a = 0 then ai_Run 202 272 ls st ws else ai_Run 202 252 ls st ws := R_if_eq hc_202 dL_law_249 rfl rfl
theorem r_202_252 (l0 l2 l3 l4 : Value) (a : Nat) (st : List Value) (ws : ai_W) : ai_Run 202 252 [l0, .ref a, l2, l3, l4] st ws = ai_Run 202 253 [l0, .ref a, l2, l3, l4] (.ref a :: st) ws := R_aload_n hc_202 dL_law_252 rfl rfl
theorem rx_202_252 (l0 l2 l3 l4 : Value) {a : Nat} (hq : ¬ a = 23) (st : List Value) (ws : ai_W) : ai_Run 202 252 [l0, .retAddr a, l2, l3, l4] st ws = ai_Run 202 253 [l0, .retAddr a, l2, l3, l4] (.retAddr a :: st) ws := R_aload_nX hq hc_202 dL_law_252 rfl rfl
theorem r_202_253 (ls st : List Value) (ws : ai_W) : ai_Run 202 253 ls st ws = ai_Run 202 255 ls (.int 10 :: st) ws := R_bipush hc_202 dL_law_253 (by decide) rfl
theorem r_202_255 (ls : List Value) (r : Value) (b0 : Int32) (ws : ai_W) : ai_Run 202 255 ls [.int b0, r] ws = (ai_Call 28 [r, .int b0] ws).bind fun q => ai_Run 202 258 ls (q.1.toList ++ []) q.2 := R_callV hc_202 dL_law_255 hv_202 (w := 342) rfl (ai_lt3 hf_28 hf_202 hL_28 ho_28 ho_202 rfl) hk_28 (by rw [hn_28]; rfl) rfl (Nat.le_of_ble_eq_true rfl) rfl
theorem r_202_258 (ls st : List Value) (a : Int32) (ws : ai_W) : ai_Run 202 258 ls (.int a :: st) ws = if a = 0 then ai_Run 202 261 ls st ws else ai_Run 202 272 ls st ws := R_if_ne hc_202 dL_law_258 rfl rfl
theorem r_202_261 (l0 l1 l2 l3 : Value) (a : Int32) (st : List Value) (ws : ai_W) : ai_Run 202 261 [l0, l1, l2, l3, .int a] st ws = ai_Run 202 263 [l0, l1, l2, l3, .int a] (.int a :: st) ws := R_iload hc_202 dL_law_261 rfl rfl
theorem r_202_263 (ls st : List Value) (ws : ai_W) : ai_Run 202 263 ls st ws = ai_Run 202 265 ls (.int (-90000) :: st) ws := R_ldci hc_202 dL_law_263 rfl rfl rfl
theorem r_202_265 (ls st : List Value) (a b : Int32) (ws : ai_W) : ai_Run 202 265 ls (.int b :: .int a :: st) ws = if a = b then ai_Run 202 272 ls st ws else ai_Run 202 268 ls st ws := R_cmp_eq hc_202 dL_law_265 rfl rfl
theorem r_202_268 (ls st : List Value) (ws : ai_W) : ai_Run 202 268 ls st ws = ai_Run 202 269 ls (.int 1 :: st) ws := R_iconst hc_202 dL_law_268 (by decide) rfl
theorem r_202_269 (ls st : List Value) (ws : ai_W) : ai_Run 202 269 ls st ws = ai_Run 202 273 ls st ws := R_goto hc_202 dL_law_269 rfl
theorem r_202_272 (ls st : List Value) (ws : ai_W) : ai_Run 202 272 ls st ws = ai_Run 202 273 ls (.int 0 :: st) ws := R_iconst hc_202 dL_law_272 (by decide) rfl
theorem r_202_273 (ls : List Value) (x : Int32) (ws : ai_W) : ai_Run 202 273 ls [.int x] ws = if ai_pb x = true then some (some (.int x), ws) else none := R_zret hc_202 dL_law_273 ht_202
