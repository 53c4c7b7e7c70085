theorem dL_change_190 : decode cL_change 190 = .ok (.invokestatic 15, 3) := by decide +kernel
theorem dL_change_193 : decode cL_change 193 = .ok (.iadd, 1) := by decide +kernel
theorem dL_change_194 : decode cL_change 194 = .ok (.invokevirtual 37, 3) := by decide +kernel
theorem dL_change_197 : decode cL_change 197 = .ok (.ireturn, 1) := by decide +kernel
theorem dL_change_198 : decode cL_change 198 = .ok (.aload_n 0, 1) := by decide +kernel
theorem dL_change_199 : decode cL_change 199 = .ok (.iconst 3, 1) := by decide +kernel
theorem dL_change_200 : decode cL_change 200 = .ok (.iload_n 2, 1) := by decide +kernel
theorem dL_change_201 : decode cL_change 201 = .ok (.bipush 31, 2) := by decide +kernel
theorem dL_change_203 : decode cL_change 203 = .ok (.invokestatic 15, 3) := by decide +kernel
theorem dL_change_206 : decode cL_change 206 = .ok (.invokevirtual 37, 3) := by decide +kernel
theorem dL_change_209 : decode cL_change 209 = .ok (.ireturn, 1) := by decide +kernel
theorem dL_change_210 : decode cL_change 210 = .ok (.aload_n 0, 1) := by decide +kernel
theorem dL_change_211 : decode cL_change 211 = .ok (.iload_n 2, 1) := by decide +kernel
theorem dL_change_212 : decode cL_change 212 = .ok (.invokestatic 40, 3) := by decide +kernel
theorem dL_change_215 : decode cL_change 215 = .ok (.ireturn, 1) := by decide +kernel
theorem dL_change_216 : decode cL_change 216 = .ok (.aload_n 0, 1) := by decide +kernel
theorem dL_change_217 : decode cL_change 217 = .ok (.iload_n 2, 1) := by decide +kernel
theorem dL_change_218 : decode cL_change 218 = .ok (.iload_n 1, 1) := by decide +kernel
theorem dL_change_219 : decode cL_change 219 = .ok (.invokestatic 43, 3) := by decide +kernel
theorem dL_change_222 : decode cL_change 222 = .ok (.ireturn, 1) := by decide +kernel
theorem dL_change_223 : decode cL_change 223 = .ok (.aload_n 0, 1) := by decide +kernel
theorem dL_change_224 : decode cL_change 224 = .ok (.iload 4, 2) := by decide +kernel
theorem dL_change_226 : decode cL_change 226 = .ok (.invokevirtual 46, 3) := by decide +kernel
theorem dL_change_229 : decode cL_change 229 = .ok (.ireturn, 1) := by decide +kernel
theorem dL_change_230 : decode cL_change 230 = .ok (.aload_n 0, 1) := by decide +kernel
theorem dL_change_231 : decode cL_change 231 = .ok (.iconst 1, 1) := by decide +kernel
theorem dL_change_232 : decode cL_change 232 = .ok (.iload_n 2, 1) := by decide +kernel
theorem dL_change_233 : decode cL_change 233 = .ok (.sipush 200, 3) := by decide +kernel
theorem dL_change_236 : decode cL_change 236 = .ok (.invokestatic 15, 3) := by decide +kernel
theorem dL_change_239 : decode cL_change 239 = .ok (.iadd, 1) := by decide +kernel
theorem dL_change_240 : decode cL_change 240 = .ok (.invokevirtual 49, 3) := by decide +kernel
theorem dL_change_243 : decode cL_change 243 = .ok (.ireturn, 1) := by decide +kernel
theorem dL_change_244 : decode cL_change 244 = .ok (.aload_n 0, 1) := by decide +kernel
theorem dL_change_245 : decode cL_change 245 = .ok (.iload 4, 2) := by decide +kernel
theorem dL_change_247 : decode cL_change 247 = .ok (.invokevirtual 52, 3) := by decide +kernel
theorem dL_change_250 : decode cL_change 250 = .ok (.ireturn, 1) := by decide +kernel
theorem dL_change_251 : decode cL_change 251 = .ok (.aload_n 0, 1) := by decide +kernel
theorem dL_change_252 : decode cL_change 252 = .ok (.iload_n 2, 1) := by decide +kernel
theorem dL_change_253 : decode cL_change 253 = .ok (.iconst 3, 1) := by decide +kernel
theorem dL_change_254 : decode cL_change 254 = .ok (.invokestatic 15, 3) := by decide +kernel
theorem dL_change_257 : decode cL_change 257 = .ok (.invokevirtual 55, 3) := by decide +kernel
theorem dL_change_260 : decode cL_change 260 = .ok (.ireturn, 1) := by decide +kernel
theorem dL_change_261 : decode cL_change 261 = .ok (.aload_n 0, 1) := by decide +kernel
theorem dL_change_262 : decode cL_change 262 = .ok (.invokevirtual 58, 3) := by decide +kernel
theorem dL_change_265 : decode cL_change 265 = .ok (.ireturn, 1) := by decide +kernel
theorem dL_change_266 : decode cL_change 266 = .ok (.iload_n 2, 1) := by decide +kernel
theorem dL_change_267 : decode cL_change 267 = .ok (.iconst 2, 1) := by decide +kernel
theorem dL_change_268 : decode cL_change 268 = .ok (.invokestatic 15, 3) := by decide +kernel
theorem dL_change_271 : decode cL_change 271 = .ok (.ifCond .ne 17, 3) := by decide +kernel
theorem dL_change_274 : decode cL_change 274 = .ok (.aload_n 0, 1) := by decide +kernel
theorem dL_change_275 : decode cL_change 275 = .ok (.iload_n 2, 1) := by decide +kernel
theorem dL_change_276 : decode cL_change 276 = .ok (.iconst 1, 1) := by decide +kernel
theorem dL_change_277 : decode cL_change 277 = .ok (.ishr, 1) := by decide +kernel
theorem dL_change_278 : decode cL_change 278 = .ok (.iconst 2, 1) := by decide +kernel
theorem dL_change_279 : decode cL_change 279 = .ok (.invokestatic 15, 3) := by decide +kernel
theorem dL_change_282 : decode cL_change 282 = .ok (.invokevirtual 61, 3) := by decide +kernel
theorem dL_change_285 : decode cL_change 285 = .ok (.goto 14, 3) := by decide +kernel
theorem dL_change_288 : decode cL_change 288 = .ok (.aload_n 0, 1) := by decide +kernel
theorem dL_change_289 : decode cL_change 289 = .ok (.iload_n 2, 1) := by decide +kernel
theorem dL_change_290 : decode cL_change 290 = .ok (.iconst 1, 1) := by decide +kernel
theorem dL_change_291 : decode cL_change 291 = .ok (.ishr, 1) := by decide +kernel
theorem dL_change_292 : decode cL_change 292 = .ok (.iconst 2, 1) := by decide +kernel
theorem dL_change_293 : decode cL_change 293 = .ok (.invokestatic 15, 3) := by decide +kernel
theorem dL_change_296 : decode cL_change 296 = .ok (.invokevirtual 64, 3) := by decide +kernel
theorem dL_change_299 : decode cL_change 299 = .ok (.ireturn, 1) := by decide +kernel
theorem dL_change_300 : decode cL_change 300 = .ok (.aload_n 0, 1) := by decide +kernel
theorem dL_change_301 : decode cL_change 301 = .ok (.iload 4, 2) := by decide +kernel
theorem dL_change_303 : decode cL_change 303 = .ok (.iload 4, 2) := by decide +kernel
theorem dL_change_305 : decode cL_change 305 = .ok (.iconst 1, 1) := by decide +kernel
theorem dL_change_306 : decode cL_change 306 = .ok (.iadd, 1) := by decide +kernel
theorem dL_change_307 : decode cL_change 307 = .ok (.iload_n 2, 1) := by decide +kernel
theorem dL_change_308 : decode cL_change 308 = .ok (.iload_n 3, 1) := by decide +kernel
theorem dL_change_309 : decode cL_change 309 = .ok (.iconst 1, 1) := by decide +kernel
theorem dL_change_310 : decode cL_change 310 = .ok (.isub, 1) := by decide +kernel
theorem dL_change_311 : decode cL_change 311 = .ok (.invokestatic 15, 3) := by decide +kernel
theorem dL_change_314 : decode cL_change 314 = .ok (.iadd, 1) := by decide +kernel
theorem dL_change_315 : decode cL_change 315 = .ok (.iload_n 3, 1) := by decide +kernel
theorem dL_change_316 : decode cL_change 316 = .ok (.irem, 1) := by decide +kernel
theorem dL_change_317 : decode cL_change 317 = .ok (.iconst 1, 1) := by decide +kernel
theorem dL_change_318 : decode cL_change 318 = .ok (.iload_n 2, 1) := by decide +kernel
theorem dL_change_319 : decode cL_change 319 = .ok (.iconst 3, 1) := by decide +kernel
theorem dL_change_320 : decode cL_change 320 = .ok (.ishr, 1) := by decide +kernel
theorem dL_change_321 : decode cL_change 321 = .ok (.iconst 3, 1) := by decide +kernel
theorem dL_change_322 : decode cL_change 322 = .ok (.invokestatic 15, 3) := by decide +kernel
theorem dL_change_325 : decode cL_change 325 = .ok (.iadd, 1) := by decide +kernel
theorem dL_change_326 : decode cL_change 326 = .ok (.invokevirtual 67, 3) := by decide +kernel
theorem dL_change_329 : decode cL_change 329 = .ok (.ireturn, 1) := by decide +kernel
theorem dL_areTracks_0 : decode cL_areTracks 0 = .ok (.iconst 0, 1) := by decide +kernel
theorem dL_areTracks_1 : decode cL_areTracks 1 = .ok (.istore_n 1, 1) := by decide +kernel
theorem dL_areTracks_2 : decode cL_areTracks 2 = .ok (.iconst 0, 1) := by decide +kernel
theorem dL_areTracks_3 : decode cL_areTracks 3 = .ok (.istore_n 2, 1) := by decide +kernel
theorem dL_areTracks_4 : decode cL_areTracks 4 = .ok (.iconst 0, 1) := by decide +kernel
theorem dL_areTracks_5 : decode cL_areTracks 5 = .ok (.istore_n 3, 1) := by decide +kernel
theorem dL_areTracks_6 : decode cL_areTracks 6 = .ok (.iload_n 3, 1) := by decide +kernel
theorem dL_areTracks_7 : decode cL_areTracks 7 = .ok (.aload_n 0, 1) := by decide +kernel
theorem dL_areTracks_8 : decode cL_areTracks 8 = .ok (.iconst 0, 1) := by decide +kernel
theorem dL_areTracks_9 : decode cL_areTracks 9 = .ok (.invokevirtual 25, 3) := by decide +kernel
theorem dL_areTracks_12 : decode cL_areTracks 12 = .ok (.if_icmp .ge 305, 3) := by decide +kernel
theorem dL_areTracks_15 : decode cL_areTracks 15 = .ok (.aload_n 0, 1) := by decide +kernel
theorem dL_areTracks_16 : decode cL_areTracks 16 = .ok (.iload_n 3, 1) := by decide +kernel
theorem dL_areTracks_17 : decode cL_areTracks 17 = .ok (.iconst 0, 1) := by decide +kernel
theorem dL_areTracks_18 : decode cL_areTracks 18 = .ok (.invokevirtual 71, 3) := by decide +kernel
theorem dL_areTracks_21 : decode cL_areTracks 21 = .ok (.istore 4, 2) := by decide +kernel
theorem dL_areTracks_23 : decode cL_areTracks 23 = .ok (.iconst (-1), 1) := by decide +kernel
theorem dL_areTracks_24 : decode cL_areTracks 24 = .ok (.istore 5, 2) := by decide +kernel
theorem dL_areTracks_26 : decode cL_areTracks 26 = .ok (.bipush (-9), 2) := by decide +kernel
theorem dL_areTracks_28 : decode cL_areTracks 28 = .ok (.istore 6, 2) := by decide +kernel
theorem dL_areTracks_30 : decode cL_areTracks 30 = .ok (.iconst 0, 1) := by decide +kernel
theorem dL_areTracks_31 : decode cL_areTracks 31 = .ok (.istore 7, 2) := by decide +kernel
theorem dL_areTracks_33 : decode cL_areTracks 33 = .ok (.iload 7, 2) := by decide +kernel
theorem dL_areTracks_35 : decode cL_areTracks 35 = .ok (.iload 4, 2) := by decide +kernel
theorem dL_areTracks_37 : decode cL_areTracks 37 = .ok (.if_icmp .ge 156, 3) := by decide +kernel
theorem dL_areTracks_40 : decode cL_areTracks 40 = .ok (.aload_n 0, 1) := by decide +kernel
theorem dL_areTracks_41 : decode cL_areTracks 41 = .ok (.iload_n 3, 1) := by decide +kernel
theorem dL_areTracks_42 : decode cL_areTracks 42 = .ok (.iload 7, 2) := by decide +kernel
theorem dL_areTracks_44 : decode cL_areTracks 44 = .ok (.iconst 0, 1) := by decide +kernel
theorem dL_areTracks_45 : decode cL_areTracks 45 = .ok (.invokevirtual 74, 3) := by decide +kernel
theorem dL_areTracks_48 : decode cL_areTracks 48 = .ok (.istore 8, 2) := by decide +kernel
theorem dL_areTracks_50 : decode cL_areTracks 50 = .ok (.aload_n 0, 1) := by decide +kernel
theorem dL_areTracks_51 : decode cL_areTracks 51 = .ok (.iload_n 3, 1) := by decide +kernel
theorem dL_areTracks_52 : decode cL_areTracks 52 = .ok (.iload 7, 2) := by decide +kernel
theorem dL_areTracks_54 : decode cL_areTracks 54 = .ok (.iconst 2, 1) := by decide +kernel
theorem dL_areTracks_55 : decode cL_areTracks 55 = .ok (.invokevirtual 74, 3) := by decide +kernel
theorem dL_areTracks_58 : decode cL_areTracks 58 = .ok (.istore 9, 2) := by decide +kernel
theorem dL_areTracks_60 : decode cL_areTracks 60 = .ok (.aload_n 0, 1) := by decide +kernel
theorem dL_areTracks_61 : decode cL_areTracks 61 = .ok (.iload 8, 2) := by decide +kernel
theorem dL_areTracks_63 : decode cL_areTracks 63 = .ok (.iconst 0, 1) := by decide +kernel
theorem dL_areTracks_64 : decode cL_areTracks 64 = .ok (.invokevirtual 77, 3) := by decide +kernel
theorem dL_areTracks_67 : decode cL_areTracks 67 = .ok (.iload_n 3, 1) := by decide +kernel
theorem dL_areTracks_68 : decode cL_areTracks 68 = .ok (.if_icmp .ne 37, 3) := by decide +kernel
theorem dL_areTracks_71 : decode cL_areTracks 71 = .ok (.aload_n 0, 1) := by decide +kernel
theorem dL_areTracks_72 : decode cL_areTracks 72 = .ok (.iload 8, 2) := by decide +kernel
theorem dL_areTracks_74 : decode cL_areTracks 74 = .ok (.iconst 1, 1) := by decide +kernel
theorem dL_areTracks_75 : decode cL_areTracks 75 = .ok (.invokevirtual 77, 3) := by decide +kernel
theorem dL_areTracks_78 : decode cL_areTracks 78 = .ok (.iload 7, 2) := by decide +kernel
theorem dL_areTracks_80 : decode cL_areTracks 80 = .ok (.if_icmp .ne 25, 3) := by decide +kernel
theorem dL_areTracks_83 : decode cL_areTracks 83 = .ok (.iload 8, 2) := by decide +kernel
theorem dL_areTracks_85 : decode cL_areTracks 85 = .ok (.aload_n 0, 1) := by decide +kernel
theorem dL_areTracks_86 : decode cL_areTracks 86 = .ok (.bipush 10, 2) := by decide +kernel
theorem dL_areTracks_88 : decode cL_areTracks 88 = .ok (.invokevirtual 25, 3) := by decide +kernel
theorem dL_areTracks_91 : decode cL_areTracks 91 = .ok (.if_icmp .ge 14, 3) := by decide +kernel
theorem dL_areTracks_94 : decode cL_areTracks 94 = .ok (.iload 9, 2) := by decide +kernel
theorem dL_areTracks_96 : decode cL_areTracks 96 = .ok (.ifCond .lt 9, 3) := by decide +kernel
theorem dL_areTracks_99 : decode cL_areTracks 99 = .ok (.iload 9, 2) := by decide +kernel
theorem dL_areTracks_101 : decode cL_areTracks 101 = .ok (.iconst 2, 1) := by decide +kernel
theorem dL_areTracks_102 : decode cL_areTracks 102 = .ok (.if_icmp .le 5, 3) := by decide +kernel
theorem dL_areTracks_105 : decode cL_areTracks 105 = .ok (.iconst 0, 1) := by decide +kernel
theorem dL_areTracks_106 : decode cL_areTracks 106 = .ok (.ireturn, 1) := by decide +kernel
theorem dL_areTracks_107 : decode cL_areTracks 107 = .ok (.iload 9, 2) := by decide +kernel
theorem dL_areTracks_109 : decode cL_areTracks 109 = .ok (.ifCond .le 25, 3) := by decide +kernel
theorem dL_areTracks_112 : decode cL_areTracks 112 = .ok (.iload 5, 2) := by decide +kernel
theorem dL_areTracks_114 : decode cL_areTracks 114 = .ok (.ifCond .lt 20, 3) := by decide +kernel
theorem dL_areTracks_117 : decode cL_areTracks 117 = .ok (.aload_n 0, 1) := by decide +kernel
theorem dL_areTracks_118 : decode cL_areTracks 118 = .ok (.iload_n 3, 1) := by decide +kernel
theorem dL_areTracks_119 : decode cL_areTracks 119 = .ok (.iload 5, 2) := by decide +kernel
theorem dL_areTracks_121 : decode cL_areTracks 121 = .ok (.iconst 2, 1) := by decide +kernel
theorem dL_areTracks_122 : decode cL_areTracks 122 = .ok (.invokevirtual 74, 3) := by decide +kernel
theorem dL_areTracks_125 : decode cL_areTracks 125 = .ok (.iload 9, 2) := by decide +kernel
theorem dL_areTracks_127 : decode cL_areTracks 127 = .ok (.if_icmp .eq 7, 3) := by decide +kernel
theorem dL_areTracks_130 : decode cL_areTracks 130 = .ok (.iconst 1, 1) := by decide +kernel
theorem dL_areTracks_131 : decode cL_areTracks 131 = .ok (.goto 4, 3) := by decide +kernel
theorem dL_areTracks_134 : decode cL_areTracks 134 = .ok (.iconst 0, 1) := by decide +kernel
theorem dL_areTracks_135 : decode cL_areTracks 135 = .ok (.istore 10, 2) := by decide +kernel
theorem dL_areTracks_137 : decode cL_areTracks 137 = .ok (.iload 10, 2) := by decide +kernel
theorem dL_areTracks_139 : decode cL_areTracks 139 = .ok (.ifCond .eq 30, 3) := by decide +kernel
theorem dL_areTracks_142 : decode cL_areTracks 142 = .ok (.iload 6, 2) := by decide +kernel
theorem dL_areTracks_144 : decode cL_areTracks 144 = .ok (.ifCond .lt 15, 3) := by decide +kernel
theorem dL_areTracks_147 : decode cL_areTracks 147 = .ok (.iload 7, 2) := by decide +kernel
theorem dL_areTracks_149 : decode cL_areTracks 149 = .ok (.iload 5, 2) := by decide +kernel
theorem dL_areTracks_151 : decode cL_areTracks 151 = .ok (.isub, 1) := by decide +kernel
theorem dL_areTracks_152 : decode cL_areTracks 152 = .ok (.iconst 1, 1) := by decide +kernel
theorem dL_areTracks_153 : decode cL_areTracks 153 = .ok (.isub, 1) := by decide +kernel
theorem dL_areTracks_154 : decode cL_areTracks 154 = .ok (.iload 6, 2) := by decide +kernel
theorem dL_areTracks_156 : decode cL_areTracks 156 = .ok (.if_icmp .ge 13, 3) := by decide +kernel
theorem dL_areTracks_159 : decode cL_areTracks 159 = .ok (.iload 7, 2) := by decide +kernel
theorem dL_areTracks_161 : decode cL_areTracks 161 = .ok (.iload 5, 2) := by decide +kernel
theorem dL_areTracks_163 : decode cL_areTracks 163 = .ok (.isub, 1) := by decide +kernel
theorem dL_areTracks_164 : decode cL_areTracks 164 = .ok (.iconst 1, 1) := by decide +kernel
theorem dL_areTracks_165 : decode cL_areTracks 165 = .ok (.isub, 1) := by decide +kernel
theorem dL_areTracks_166 : decode cL_areTracks 166 = .ok (.goto 5, 3) := by decide +kernel
theorem dL_areTracks_169 : decode cL_areTracks 169 = .ok (.iload 6, 2) := by decide +kernel
theorem dL_areTracks_171 : decode cL_areTracks 171 = .ok (.istore 6, 2) := by decide +kernel
theorem dL_areTracks_173 : decode cL_areTracks 173 = .ok (.iload 9, 2) := by decide +kernel
theorem dL_areTracks_175 : decode cL_areTracks 175 = .ok (.ifCond .le 8, 3) := by decide +kernel
theorem dL_areTracks_178 : decode cL_areTracks 178 = .ok (.iload 7, 2) := by decide +kernel
theorem dL_areTracks_180 : decode cL_areTracks 180 = .ok (.goto 5, 3) := by decide +kernel
theorem dL_areTracks_183 : decode cL_areTracks 183 = .ok (.iload 5, 2) := by decide +kernel
theorem dL_areTracks_185 : decode cL_areTracks 185 = .ok (.istore 5, 2) := by decide +kernel
theorem dL_areTracks_187 : decode cL_areTracks 187 = .ok (.iinc 7 1, 3) := by decide +kernel
theorem dL_areTracks_190 : decode cL_areTracks 190 = .ok (.goto (-157), 3) := by decide +kernel
theorem dL_areTracks_193 : decode cL_areTracks 193 = .ok (.iload 6, 2) := by decide +kernel
theorem dL_areTracks_195 : decode cL_areTracks 195 = .ok (.ifCond .lt 13, 3) := by decide +kernel
theorem dL_areTracks_198 : decode cL_areTracks 198 = .ok (.iload 6, 2) := by decide +kernel
theorem dL_areTracks_200 : decode cL_areTracks 200 = .ok (.aload_n 0, 1) := by decide +kernel
theorem dL_areTracks_201 : decode cL_areTracks 201 = .ok (.iconst 0, 1) := by decide +kernel
theorem dL_areTracks_202 : decode cL_areTracks 202 = .ok (.invokevirtual 80, 3) := by decide +kernel
theorem dL_areTracks_205 : decode cL_areTracks 205 = .ok (.if_icmp .lt 7, 3) := by decide +kernel
theorem dL_areTracks_208 : decode cL_areTracks 208 = .ok (.iconst 1, 1) := by decide +kernel
theorem dL_areTracks_209 : decode cL_areTracks 209 = .ok (.goto 4, 3) := by decide +kernel
theorem dL_areTracks_212 : decode cL_areTracks 212 = .ok (.iconst 0, 1) := by decide +kernel
theorem dL_areTracks_213 : decode cL_areTracks 213 = .ok (.istore 7, 2) := by decide +kernel
theorem dL_areTracks_215 : decode cL_areTracks 215 = .ok (.iload 7, 2) := by decide +kernel
theorem dL_areTracks_217 : decode cL_areTracks 217 = .ok (.ifCond .eq 7, 3) := by decide +kernel
theorem dL_areTracks_220 : decode cL_areTracks 220 = .ok (.iload_n 2, 1) := by decide +kernel
theorem dL_areTracks_221 : decode cL_areTracks 221 = .ok (.goto 6, 3) := by decide +kernel
theorem dL_areTracks_224 : decode cL_areTracks 224 = .ok (.iload_n 2, 1) := by decide +kernel
theorem dL_areTracks_225 : decode cL_areTracks 225 = .ok (.iconst 1, 1) := by decide +kernel
theorem dL_areTracks_226 : decode cL_areTracks 226 = .ok (.iadd, 1) := by decide +kernel
theorem dL_areTracks_227 : decode cL_areTracks 227 = .ok (.istore_n 2, 1) := by decide +kernel
theorem dL_areTracks_228 : decode cL_areTracks 228 = .ok (.iload_n 1, 1) := by decide +kernel
theorem dL_areTracks_229 : decode cL_areTracks 229 = .ok (.iload 4, 2) := by decide +kernel
theorem dL_areTracks_231 : decode cL_areTracks 231 = .ok (.iadd, 1) := by decide +kernel
theorem dL_areTracks_232 : decode cL_areTracks 232 = .ok (.istore_n 1, 1) := by decide +kernel
theorem dL_areTracks_233 : decode cL_areTracks 233 = .ok (.iload 4, 2) := by decide +kernel
theorem dL_areTracks_235 : decode cL_areTracks 235 = .ok (.aload_n 0, 1) := by decide +kernel
theorem dL_areTracks_236 : decode cL_areTracks 236 = .ok (.iconst 1, 1) := by decide +kernel
theorem dL_areTracks_237 : decode cL_areTracks 237 = .ok (.invokevirtual 25, 3) := by decide +kernel
theorem dL_areTracks_240 : decode cL_areTracks 240 = .ok (.if_icmp .gt 69, 3) := by decide +kernel
theorem dL_areTracks_243 : decode cL_areTracks 243 = .ok (.aload_n 0, 1) := by decide +kernel
theorem dL_areTracks_244 : decode cL_areTracks 244 = .ok (.iload_n 3, 1) := by decide +kernel
theorem dL_areTracks_245 : decode cL_areTracks 245 = .ok (.iconst 3, 1) := by decide +kernel
theorem dL_areTracks_246 : decode cL_areTracks 246 = .ok (.invokevirtual 71, 3) := by decide +kernel
theorem dL_areTracks_249 : decode cL_areTracks 249 = .ok (.iload 6, 2) := by decide +kernel
theorem dL_areTracks_251 : decode cL_areTracks 251 = .ok (.if_icmp .ne 58, 3) := by decide +kernel
theorem dL_areTracks_254 : decode cL_areTracks 254 = .ok (.aload_n 0, 1) := by decide +kernel
theorem dL_areTracks_255 : decode cL_areTracks 255 = .ok (.iload_n 3, 1) := by decide +kernel
theorem dL_areTracks_256 : decode cL_areTracks 256 = .ok (.iconst 1, 1) := by decide +kernel
theorem dL_areTracks_257 : decode cL_areTracks 257 = .ok (.invokevirtual 71, 3) := by decide +kernel
theorem dL_areTracks_260 : decode cL_areTracks 260 = .ok (.iload 7, 2) := by decide +kernel
theorem dL_areTracks_262 : decode cL_areTracks 262 = .ok (.ifCond .eq 7, 3) := by decide +kernel
theorem dL_areTracks_265 : decode cL_areTracks 265 = .ok (.iconst 1, 1) := by decide +kernel
theorem dL_areTracks_266 : decode cL_areTracks 266 = .ok (.goto 4, 3) := by decide +kernel
theorem dL_areTracks_269 : decode cL_areTracks 269 = .ok (.iconst 0, 1) := by decide +kernel
theorem dL_areTracks_270 : decode cL_areTracks 270 = .ok (.if_icmp .ne 39, 3) := by decide +kernel
theorem dL_areTracks_273 : decode cL_areTracks 273 = .ok (.aload_n 0, 1) := by decide +kernel
theorem dL_areTracks_274 : decode cL_areTracks 274 = .ok (.iload_n 3, 1) := by decide +kernel
theorem dL_areTracks_275 : decode cL_areTracks 275 = .ok (.iload 4, 2) := by decide +kernel
theorem dL_areTracks_277 : decode cL_areTracks 277 = .ok (.iconst 0, 1) := by decide +kernel
theorem dL_areTracks_278 : decode cL_areTracks 278 = .ok (.invokevirtual 74, 3) := by decide +kernel
theorem dL_areTracks_281 : decode cL_areTracks 281 = .ok (.bipush (-9), 2) := by decide +kernel
theorem dL_areTracks_283 : decode cL_areTracks 283 = .ok (.if_icmp .ne 26, 3) := by decide +kernel
theorem dL_areTracks_286 : decode cL_areTracks 286 = .ok (.aload_n 0, 1) := by decide +kernel
theorem dL_areTracks_287 : decode cL_areTracks 287 = .ok (.iload_n 3, 1) := by decide +kernel
theorem dL_areTracks_288 : decode cL_areTracks 288 = .ok (.iconst 2, 1) := by decide +kernel
theorem dL_areTracks_289 : decode cL_areTracks 289 = .ok (.invokevirtual 71, 3) := by decide +kernel
theorem dL_areTracks_292 : decode cL_areTracks 292 = .ok (.ifCond .lt 17, 3) := by decide +kernel
theorem dL_areTracks_295 : decode cL_areTracks 295 = .ok (.aload_n 0, 1) := by decide +kernel
theorem dL_areTracks_296 : decode cL_areTracks 296 = .ok (.iload_n 3, 1) := by decide +kernel
theorem dL_areTracks_297 : decode cL_areTracks 297 = .ok (.iconst 2, 1) := by decide +kernel
theorem dL_areTracks_298 : decode cL_areTracks 298 = .ok (.invokevirtual 71, 3) := by decide +kernel
theorem dL_areTracks_301 : decode cL_areTracks 301 = .ok (.aload_n 0, 1) := by decide +kernel
theorem dL_areTracks_302 : decode cL_areTracks 302 = .ok (.iconst 1, 1) := by decide +kernel
theorem dL_areTracks_303 : decode cL_areTracks 303 = .ok (.invokevirtual 80, 3) := by decide +kernel
theorem dL_areTracks_306 : decode cL_areTracks 306 = .ok (.if_icmp .le 5, 3) := by decide +kernel
theorem dL_areTracks_309 : decode cL_areTracks 309 = .ok (.iconst 0, 1) := by decide +kernel
theorem dL_areTracks_310 : decode cL_areTracks 310 = .ok (.ireturn, 1) := by decide +kernel
theorem dL_areTracks_311 : decode cL_areTracks 311 = .ok (.iinc 3 1, 3) := by decide +kernel
theorem dL_areTracks_314 : decode cL_areTracks 314 = .ok (.goto (-308), 3) := by decide +kernel
theorem dL_areTracks_317 : decode cL_areTracks 317 = .ok (.aload_n 0, 1) := by decide +kernel
theorem dL_areTracks_318 : decode cL_areTracks 318 = .ok (.iconst 3, 1) := by decide +kernel
theorem dL_areTracks_319 : decode cL_areTracks 319 = .ok (.invokevirtual 25, 3) := by decide +kernel
theorem dL_areTracks_322 : decode cL_areTracks 322 = .ok (.iload_n 1, 1) := by decide +kernel
theorem dL_areTracks_323 : decode cL_areTracks 323 = .ok (.if_icmp .ne 87, 3) := by decide +kernel
theorem dL_areTracks_326 : decode cL_areTracks 326 = .ok (.aload_n 0, 1) := by decide +kernel
theorem dL_areTracks_327 : decode cL_areTracks 327 = .ok (.iconst 5, 1) := by decide +kernel
theorem dL_areTracks_328 : decode cL_areTracks 328 = .ok (.invokevirtual 25, 3) := by decide +kernel
theorem dL_areTracks_331 : decode cL_areTracks 331 = .ok (.iload_n 2, 1) := by decide +kernel
theorem dL_areTracks_332 : decode cL_areTracks 332 = .ok (.if_icmp .ne 78, 3) := by decide +kernel
theorem dL_areTracks_335 : decode cL_areTracks 335 = .ok (.aload_n 0, 1) := by decide +kernel
theorem dL_areTracks_336 : decode cL_areTracks 336 = .ok (.bipush 10, 2) := by decide +kernel
theorem dL_areTracks_338 : decode cL_areTracks 338 = .ok (.invokevirtual 25, 3) := by decide +kernel
theorem dL_areTracks_341 : decode cL_areTracks 341 = .ok (.iload_n 1, 1) := by decide +kernel
theorem dL_areTracks_342 : decode cL_areTracks 342 = .ok (.aload_n 0, 1) := by decide +kernel
theorem dL_areTracks_343 : decode cL_areTracks 343 = .ok (.bipush 9, 2) := by decide +kernel
theorem dL_areTracks_345 : decode cL_areTracks 345 = .ok (.invokevirtual 25, 3) := by decide +kernel
theorem dL_areTracks_348 : decode cL_areTracks 348 = .ok (.iadd, 1) := by decide +kernel
theorem dL_areTracks_349 : decode cL_areTracks 349 = .ok (.if_icmp .ne 61, 3) := by decide +kernel
theorem dL_areTracks_352 : decode cL_areTracks 352 = .ok (.aload_n 0, 1) := by decide +kernel
theorem dL_areTracks_353 : decode cL_areTracks 353 = .ok (.iconst 4, 1) := by decide +kernel
theorem dL_areTracks_354 : decode cL_areTracks 354 = .ok (.invokevirtual 25, 3) := by decide +kernel
theorem dL_areTracks_357 : decode cL_areTracks 357 = .ok (.bipush 10, 2) := by decide +kernel
theorem dL_areTracks_359 : decode cL_areTracks 359 = .ok (.if_icmp .gt 51, 3) := by decide +kernel
theorem dL_areTracks_362 : decode cL_areTracks 362 = .ok (.aload_n 0, 1) := by decide +kernel
theorem dL_areTracks_363 : decode cL_areTracks 363 = .ok (.aload_n 0, 1) := by decide +kernel
theorem dL_areTracks_364 : decode cL_areTracks 364 = .ok (.bipush 10, 2) := by decide +kernel
theorem dL_areTracks_366 : decode cL_areTracks 366 = .ok (.invokevirtual 25, 3) := by decide +kernel
theorem dL_areTracks_369 : decode cL_areTracks 369 = .ok (.iconst 0, 1) := by decide +kernel
theorem dL_areTracks_370 : decode cL_areTracks 370 = .ok (.invokevirtual 77, 3) := by decide +kernel
theorem dL_areTracks_373 : decode cL_areTracks 373 = .ok (.bipush (-9), 2) := by decide +kernel
theorem dL_areTracks_375 : decode cL_areTracks 375 = .ok (.if_icmp .ne 35, 3) := by decide +kernel
theorem dL_areTracks_378 : decode cL_areTracks 378 = .ok (.aload_n 0, 1) := by decide +kernel
theorem dL_areTracks_379 : decode cL_areTracks 379 = .ok (.aload_n 0, 1) := by decide +kernel
theorem dL_areTracks_380 : decode cL_areTracks 380 = .ok (.iconst 4, 1) := by decide +kernel
theorem dL_areTracks_381 : decode cL_areTracks 381 = .ok (.invokevirtual 25, 3) := by decide +kernel
theorem dL_areTracks_384 : decode cL_areTracks 384 = .ok (.invokevirtual 83, 3) := by decide +kernel
theorem dL_areTracks_387 : decode cL_areTracks 387 = .ok (.bipush (-9), 2) := by decide +kernel
theorem dL_areTracks_389 : decode cL_areTracks 389 = .ok (.if_icmp .ne 21, 3) := by decide +kernel
theorem dL_areTracks_392 : decode cL_areTracks 392 = .ok (.aload_n 0, 1) := by decide +kernel
theorem dL_areTracks_393 : decode cL_areTracks 393 = .ok (.aload_n 0, 1) := by decide +kernel
theorem dL_areTracks_394 : decode cL_areTracks 394 = .ok (.iconst 0, 1) := by decide +kernel
theorem dL_areTracks_395 : decode cL_areTracks 395 = .ok (.invokevirtual 25, 3) := by decide +kernel
theorem dL_areTracks_398 : decode cL_areTracks 398 = .ok (.iconst 0, 1) := by decide +kernel
theorem dL_areTracks_399 : decode cL_areTracks 399 = .ok (.invokevirtual 71, 3) := by decide +kernel
theorem dL_areTracks_402 : decode cL_areTracks 402 = .ok (.iconst (-1), 1) := by decide +kernel
theorem dL_areTracks_403 : decode cL_areTracks 403 = .ok (.if_icmp .ne 7, 3) := by decide +kernel
theorem dL_areTracks_406 : decode cL_areTracks 406 = .ok (.iconst 1, 1) := by decide +kernel
theorem dL_areTracks_407 : decode cL_areTracks 407 = .ok (.goto 4, 3) := by decide +kernel
theorem dL_areTracks_410 : decode cL_areTracks 410 = .ok (.iconst 0, 1) := by decide +kernel
theorem dL_areTracks_411 : decode cL_areTracks 411 = .ok (.ireturn, 1) := by decide +kernel
theorem dL_isMove_0 : decode cL_isMove 0 = .ok (.aload_n 0, 1) := by decide +kernel
theorem dL_isMove_1 : decode cL_isMove 1 = .ok (.iload_n 1, 1) := by decide +kernel
theorem dL_isMove_2 : decode cL_isMove 2 = .ok (.iload_n 2, 1) := by decide +kernel
theorem dL_isMove_3 : decode cL_isMove 3 = .ok (.iload_n 3, 1) := by decide +kernel
theorem dL_isMove_4 : decode cL_isMove 4 = .ok (.invokevirtual 86, 3) := by decide +kernel
theorem dL_isMove_7 : decode cL_isMove 7 = .ok (.istore 4, 2) := by decide +kernel
theorem dL_isMove_9 : decode cL_isMove 9 = .ok (.aload_n 0, 1) := by decide +kernel
theorem dL_isMove_10 : decode cL_isMove 10 = .ok (.iconst 2, 1) := by decide +kernel
theorem dL_isMove_11 : decode cL_isMove 11 = .ok (.invokevirtual 25, 3) := by decide +kernel
theorem dL_isMove_14 : decode cL_isMove 14 = .ok (.istore 5, 2) := by decide +kernel
theorem dL_isMove_16 : decode cL_isMove 16 = .ok (.aload_n 0, 1) := by decide +kernel
theorem dL_isMove_17 : decode cL_isMove 17 = .ok (.bipush 6, 2) := by decide +kernel
theorem dL_isMove_19 : decode cL_isMove 19 = .ok (.invokevirtual 25, 3) := by decide +kernel
theorem dL_isMove_22 : decode cL_isMove 22 = .ok (.istore 6, 2) := by decide +kernel
theorem dL_isMove_24 : decode cL_isMove 24 = .ok (.aload_n 0, 1) := by decide +kernel
theorem dL_isMove_25 : decode cL_isMove 25 = .ok (.bipush 7, 2) := by decide +kernel
theorem dL_isMove_27 : decode cL_isMove 27 = .ok (.invokevirtual 25, 3) := by decide +kernel
theorem dL_isMove_30 : decode cL_isMove 30 = .ok (.istore 7, 2) := by decide +kernel
theorem dL_isMove_32 : decode cL_isMove 32 = .ok (.aload_n 0, 1) := by decide +kernel
theorem dL_isMove_33 : decode cL_isMove 33 = .ok (.iload_n 1, 1) := by decide +kernel
theorem dL_isMove_34 : decode cL_isMove 34 = .ok (.iconst 0, 1) := by decide +kernel
theorem dL_isMove_35 : decode cL_isMove 35 = .ok (.invokevirtual 71, 3) := by decide +kernel
theorem dL_isMove_38 : decode cL_isMove 38 = .ok (.istore 8, 2) := by decide +kernel
theorem dL_isMove_40 : decode cL_isMove 40 = .ok (.aload_n 0, 1) := by decide +kernel
theorem dL_isMove_41 : decode cL_isMove 41 = .ok (.iload_n 2, 1) := by decide +kernel
theorem dL_isMove_42 : decode cL_isMove 42 = .ok (.iconst 0, 1) := by decide +kernel
theorem dL_isMove_43 : decode cL_isMove 43 = .ok (.invokevirtual 71, 3) := by decide +kernel
theorem dL_isMove_46 : decode cL_isMove 46 = .ok (.istore 9, 2) := by decide +kernel
theorem dL_isMove_48 : decode cL_isMove 48 = .ok (.iload 8, 2) := by decide +kernel
theorem dL_isMove_50 : decode cL_isMove 50 = .ok (.ifCond .le 16, 3) := by decide +kernel
theorem dL_isMove_53 : decode cL_isMove 53 = .ok (.aload_n 0, 1) := by decide +kernel
theorem dL_isMove_54 : decode cL_isMove 54 = .ok (.iload_n 1, 1) := by decide +kernel
theorem dL_isMove_55 : decode cL_isMove 55 = .ok (.iload 8, 2) := by decide +kernel
theorem dL_isMove_57 : decode cL_isMove 57 = .ok (.iconst 1, 1) := by decide +kernel
theorem dL_isMove_58 : decode cL_isMove 58 = .ok (.isub, 1) := by decide +kernel
theorem dL_isMove_59 : decode cL_isMove 59 = .ok (.iconst 0, 1) := by decide +kernel
theorem dL_isMove_60 : decode cL_isMove 60 = .ok (.invokevirtual 74, 3) := by decide +kernel
theorem dL_isMove_63 : decode cL_isMove 63 = .ok (.goto 5, 3) := by decide +kernel
theorem dL_isMove_66 : decode cL_isMove 66 = .ok (.bipush (-9), 2) := by decide +kernel
theorem dL_isMove_68 : decode cL_isMove 68 = .ok (.istore 10, 2) := by decide +kernel
theorem dL_isMove_70 : decode cL_isMove 70 = .ok (.aload_n 0, 1) := by decide +kernel
theorem dL_isMove_71 : decode cL_isMove 71 = .ok (.iload_n 1, 1) := by decide +kernel
theorem dL_isMove_72 : decode cL_isMove 72 = .ok (.iload_n 2, 1) := by decide +kernel
theorem dL_isMove_73 : decode cL_isMove 73 = .ok (.iload_n 3, 1) := by decide +kernel
theorem dL_isMove_74 : decode cL_isMove 74 = .ok (.invokevirtual 67, 3) := by decide +kernel
theorem dL_isMove_77 : decode cL_isMove 77 = .ok (.istore 11, 2) := by decide +kernel
theorem dL_isMove_79 : decode cL_isMove 79 = .ok (.iload 11, 2) := by decide +kernel
theorem dL_isMove_81 : decode cL_isMove 81 = .ok (.ifCond .ge 48, 3) := by decide +kernel
theorem dL_isMove_84 : decode cL_isMove 84 = .ok (.iload 11, 2) := by decide +kernel
theorem dL_isMove_86 : decode cL_isMove 86 = .ok (.iload 4, 2) := by decide +kernel
theorem dL_isMove_88 : decode cL_isMove 88 = .ok (.if_icmp .ne 39, 3) := by decide +kernel
theorem dL_isMove_91 : decode cL_isMove 91 = .ok (.aload_n 0, 1) := by decide +kernel
theorem dL_isMove_92 : decode cL_isMove 92 = .ok (.iconst 2, 1) := by decide +kernel
theorem dL_isMove_93 : decode cL_isMove 93 = .ok (.invokevirtual 25, 3) := by decide +kernel
theorem dL_isMove_96 : decode cL_isMove 96 = .ok (.iload 5, 2) := by decide +kernel
theorem dL_isMove_98 : decode cL_isMove 98 = .ok (.if_icmp .ne 29, 3) := by decide +kernel
theorem dL_isMove_101 : decode cL_isMove 101 = .ok (.aload_n 0, 1) := by decide +kernel
theorem dL_isMove_102 : decode cL_isMove 102 = .ok (.bipush 6, 2) := by decide +kernel
theorem dL_isMove_104 : decode cL_isMove 104 = .ok (.invokevirtual 25, 3) := by decide +kernel
theorem dL_isMove_107 : decode cL_isMove 107 = .ok (.iload 6, 2) := by decide +kernel
theorem dL_isMove_109 : decode cL_isMove 109 = .ok (.if_icmp .ne 18, 3) := by decide +kernel
theorem dL_isMove_112 : decode cL_isMove 112 = .ok (.iload_n 1, 1) := by decide +kernel
theorem dL_isMove_113 : decode cL_isMove 113 = .ok (.iload_n 2, 1) := by decide +kernel
theorem dL_isMove_114 : decode cL_isMove 114 = .ok (.if_icmp .ne 9, 3) := by decide +kernel
theorem dL_isMove_117 : decode cL_isMove 117 = .ok (.iload 11, 2) := by decide +kernel
theorem dL_isMove_119 : decode cL_isMove 119 = .ok (.iconst (-1), 1) := by decide +kernel
theorem dL_isMove_120 : decode cL_isMove 120 = .ok (.if_icmp .ne 7, 3) := by decide +kernel
theorem dL_isMove_123 : decode cL_isMove 123 = .ok (.iconst 1, 1) := by decide +kernel
theorem dL_isMove_124 : decode cL_isMove 124 = .ok (.goto 4, 3) := by decide +kernel
theorem dL_isMove_127 : decode cL_isMove 127 = .ok (.iconst 0, 1) := by decide +kernel
theorem dL_isMove_128 : decode cL_isMove 128 = .ok (.ireturn, 1) := by decide +kernel
theorem dL_isMove_129 : decode cL_isMove 129 = .ok (.iload 11, 2) := by decide +kernel
theorem dL_isMove_131 : decode cL_isMove 131 = .ok (.iload 4, 2) := by decide +kernel
theorem dL_isMove_133 : decode cL_isMove 133 = .ok (.if_icmp .ne 90, 3) := by decide +kernel
theorem dL_isMove_136 : decode cL_isMove 136 = .ok (.aload_n 0, 1) := by decide +kernel
theorem dL_isMove_137 : decode cL_isMove 137 = .ok (.iconst 2, 1) := by decide +kernel
theorem dL_isMove_138 : decode cL_isMove 138 = .ok (.invokevirtual 25, 3) := by decide +kernel
theorem dL_isMove_141 : decode cL_isMove 141 = .ok (.iload 5, 2) := by decide +kernel
theorem dL_isMove_143 : decode cL_isMove 143 = .ok (.iload 11, 2) := by decide +kernel
theorem dL_isMove_145 : decode cL_isMove 145 = .ok (.iadd, 1) := by decide +kernel
theorem dL_isMove_146 : decode cL_isMove 146 = .ok (.if_icmp .ne 77, 3) := by decide +kernel
theorem dL_isMove_149 : decode cL_isMove 149 = .ok (.aload_n 0, 1) := by decide +kernel
theorem dL_isMove_150 : decode cL_isMove 150 = .ok (.bipush 6, 2) := by decide +kernel
theorem dL_isMove_152 : decode cL_isMove 152 = .ok (.invokevirtual 25, 3) := by decide +kernel
theorem dL_isMove_155 : decode cL_isMove 155 = .ok (.iload 6, 2) := by decide +kernel
theorem dL_isMove_157 : decode cL_isMove 157 = .ok (.iconst 1, 1) := by decide +kernel
theorem dL_isMove_158 : decode cL_isMove 158 = .ok (.iadd, 1) := by decide +kernel
theorem dL_isMove_159 : decode cL_isMove 159 = .ok (.if_icmp .ne 64, 3) := by decide +kernel
theorem dL_isMove_162 : decode cL_isMove 162 = .ok (.aload_n 0, 1) := by decide +kernel
theorem dL_isMove_163 : decode cL_isMove 163 = .ok (.bipush 7, 2) := by decide +kernel
theorem dL_isMove_165 : decode cL_isMove 165 = .ok (.invokevirtual 25, 3) := by decide +kernel
theorem dL_isMove_168 : decode cL_isMove 168 = .ok (.iload 7, 2) := by decide +kernel
theorem dL_isMove_170 : decode cL_isMove 170 = .ok (.iload 11, 2) := by decide +kernel
theorem dL_isMove_172 : decode cL_isMove 172 = .ok (.iadd, 1) := by decide +kernel
theorem dL_isMove_173 : decode cL_isMove 173 = .ok (.if_icmp .ne 50, 3) := by decide +kernel
theorem dL_isMove_176 : decode cL_isMove 176 = .ok (.aload_n 0, 1) := by decide +kernel
theorem dL_isMove_177 : decode cL_isMove 177 = .ok (.iload_n 1, 1) := by decide +kernel
theorem dL_isMove_178 : decode cL_isMove 178 = .ok (.iconst 0, 1) := by decide +kernel
theorem dL_isMove_179 : decode cL_isMove 179 = .ok (.invokevirtual 71, 3) := by decide +kernel
theorem dL_isMove_182 : decode cL_isMove 182 = .ok (.iload 8, 2) := by decide +kernel
theorem dL_isMove_184 : decode cL_isMove 184 = .ok (.iload_n 3, 1) := by decide +kernel
theorem dL_isMove_185 : decode cL_isMove 185 = .ok (.isub, 1) := by decide +kernel
theorem dL_isMove_186 : decode cL_isMove 186 = .ok (.if_icmp .ne 37, 3) := by decide +kernel
theorem dL_isMove_189 : decode cL_isMove 189 = .ok (.aload_n 0, 1) := by decide +kernel
theorem dL_isMove_190 : decode cL_isMove 190 = .ok (.iload_n 2, 1) := by decide +kernel
theorem dL_isMove_191 : decode cL_isMove 191 = .ok (.iconst 0, 1) := by decide +kernel
theorem dL_isMove_192 : decode cL_isMove 192 = .ok (.invokevirtual 71, 3) := by decide +kernel
theorem dL_isMove_195 : decode cL_isMove 195 = .ok (.iload 9, 2) := by decide +kernel
theorem dL_isMove_197 : decode cL_isMove 197 = .ok (.iload_n 3, 1) := by decide +kernel
theorem dL_isMove_198 : decode cL_isMove 198 = .ok (.iadd, 1) := by decide +kernel
theorem dL_isMove_199 : decode cL_isMove 199 = .ok (.if_icmp .ne 24, 3) := by decide +kernel
theorem dL_isMove_202 : decode cL_isMove 202 = .ok (.aload_n 0, 1) := by decide +kernel
theorem dL_isMove_203 : decode cL_isMove 203 = .ok (.iload_n 2, 1) := by decide +kernel
theorem dL_isMove_204 : decode cL_isMove 204 = .ok (.iload 9, 2) := by decide +kernel
theorem dL_isMove_206 : decode cL_isMove 206 = .ok (.iload_n 3, 1) := by decide +kernel
theorem dL_isMove_207 : decode cL_isMove 207 = .ok (.iadd, 1) := by decide +kernel
theorem dL_isMove_208 : decode cL_isMove 208 = .ok (.iconst 1, 1) := by decide +kernel
theorem dL_isMove_209 : decode cL_isMove 209 = .ok (.isub, 1) := by decide +kernel
theorem dL_isMove_210 : decode cL_isMove 210 = .ok (.iconst 0, 1) := by decide +kernel
theorem dL_isMove_211 : decode cL_isMove 211 = .ok (.invokevirtual 74, 3) := by decide +kernel
theorem dL_isMove_214 : decode cL_isMove 214 = .ok (.iload 10, 2) := by decide +kernel
theorem dL_isMove_216 : decode cL_isMove 216 = .ok (.if_icmp .ne 7, 3) := by decide +kernel
theorem dL_isMove_219 : decode cL_isMove 219 = .ok (.iconst 1, 1) := by decide +kernel
theorem dL_isMove_220 : decode cL_isMove 220 = .ok (.goto 4, 3) := by decide +kernel
theorem dL_isMove_223 : decode cL_isMove 223 = .ok (.iconst 0, 1) := by decide +kernel
theorem dL_isMove_224 : decode cL_isMove 224 = .ok (.istore 12, 2) := by decide +kernel
theorem dL_isMove_226 : decode cL_isMove 226 = .ok (.iload 12, 2) := by decide +kernel
theorem dL_isMove_228 : decode cL_isMove 228 = .ok (.ifCond .eq 45, 3) := by decide +kernel
theorem dL_isMove_231 : decode cL_isMove 231 = .ok (.aload_n 0, 1) := by decide +kernel
theorem dL_isMove_232 : decode cL_isMove 232 = .ok (.iload_n 1, 1) := by decide +kernel
theorem dL_isMove_233 : decode cL_isMove 233 = .ok (.iconst 1, 1) := by decide +kernel
theorem dL_isMove_234 : decode cL_isMove 234 = .ok (.invokevirtual 71, 3) := by decide +kernel
theorem dL_isMove_237 : decode cL_isMove 237 = .ok (.iconst 1, 1) := by decide +kernel
theorem dL_isMove_238 : decode cL_isMove 238 = .ok (.if_icmp .ne 35, 3) := by decide +kernel
theorem dL_isMove_241 : decode cL_isMove 241 = .ok (.aload_n 0, 1) := by decide +kernel
theorem dL_isMove_242 : decode cL_isMove 242 = .ok (.iload_n 2, 1) := by decide +kernel
theorem dL_isMove_243 : decode cL_isMove 243 = .ok (.iconst 1, 1) := by decide +kernel
theorem dL_isMove_244 : decode cL_isMove 244 = .ok (.invokevirtual 71, 3) := by decide +kernel
theorem dL_isMove_247 : decode cL_isMove 247 = .ok (.iconst 1, 1) := by decide +kernel
theorem dL_isMove_248 : decode cL_isMove 248 = .ok (.if_icmp .ne 25, 3) := by decide +kernel
theorem dL_isMove_251 : decode cL_isMove 251 = .ok (.aload_n 0, 1) := by decide +kernel
theorem dL_isMove_252 : decode cL_isMove 252 = .ok (.iload_n 1, 1) := by decide +kernel
theorem dL_isMove_253 : decode cL_isMove 253 = .ok (.iconst 2, 1) := by decide +kernel
theorem dL_isMove_254 : decode cL_isMove 254 = .ok (.invokevirtual 71, 3) := by decide +kernel
theorem dL_isMove_257 : decode cL_isMove 257 = .ok (.ifCond .ne 16, 3) := by decide +kernel
theorem dL_isMove_260 : decode cL_isMove 260 = .ok (.aload_n 0, 1) := by decide +kernel
theorem dL_isMove_261 : decode cL_isMove 261 = .ok (.iload_n 2, 1) := by decide +kernel
theorem dL_isMove_262 : decode cL_isMove 262 = .ok (.iconst 2, 1) := by decide +kernel
theorem dL_isMove_263 : decode cL_isMove 263 = .ok (.invokevirtual 71, 3) := by decide +kernel
theorem dL_isMove_266 : decode cL_isMove 266 = .ok (.ifCond .ne 7, 3) := by decide +kernel
theorem dL_isMove_269 : decode cL_isMove 269 = .ok (.iconst 1, 1) := by decide +kernel
theorem dL_isMove_270 : decode cL_isMove 270 = .ok (.goto 4, 3) := by decide +kernel
theorem dL_isMove_273 : decode cL_isMove 273 = .ok (.iconst 0, 1) := by decide +kernel
theorem dL_isMove_274 : decode cL_isMove 274 = .ok (.istore 12, 2) := by decide +kernel
theorem dL_isMove_276 : decode cL_isMove 276 = .ok (.aload_n 0, 1) := by decide +kernel
theorem dL_isMove_277 : decode cL_isMove 277 = .ok (.invokevirtual 58, 3) := by decide +kernel
theorem dL_isMove_280 : decode cL_isMove 280 = .ok (.ifCond .lt 34, 3) := by decide +kernel
theorem dL_isMove_283 : decode cL_isMove 283 = .ok (.iload 12, 2) := by decide +kernel
theorem dL_isMove_285 : decode cL_isMove 285 = .ok (.ifCond .eq 29, 3) := by decide +kernel
theorem dL_isMove_288 : decode cL_isMove 288 = .ok (.aload_n 0, 1) := by decide +kernel
theorem dL_isMove_289 : decode cL_isMove 289 = .ok (.iconst 2, 1) := by decide +kernel
theorem dL_isMove_290 : decode cL_isMove 290 = .ok (.invokevirtual 25, 3) := by decide +kernel
theorem dL_isMove_293 : decode cL_isMove 293 = .ok (.iload 5, 2) := by decide +kernel
theorem dL_isMove_295 : decode cL_isMove 295 = .ok (.if_icmp .ne 19, 3) := by decide +kernel
theorem dL_isMove_298 : decode cL_isMove 298 = .ok (.aload_n 0, 1) := by decide +kernel
theorem dL_isMove_299 : decode cL_isMove 299 = .ok (.iload_n 1, 1) := by decide +kernel
theorem dL_isMove_300 : decode cL_isMove 300 = .ok (.iload_n 2, 1) := by decide +kernel
theorem dL_isMove_301 : decode cL_isMove 301 = .ok (.iload_n 3, 1) := by decide +kernel
theorem dL_isMove_302 : decode cL_isMove 302 = .ok (.invokevirtual 86, 3) := by decide +kernel
theorem dL_isMove_305 : decode cL_isMove 305 = .ok (.iload 4, 2) := by decide +kernel
theorem dL_isMove_307 : decode cL_isMove 307 = .ok (.if_icmp .ne 7, 3) := by decide +kernel
theorem dL_isMove_310 : decode cL_isMove 310 = .ok (.iconst 1, 1) := by decide +kernel
theorem dL_isMove_311 : decode cL_isMove 311 = .ok (.goto 4, 3) := by decide +kernel
theorem dL_isMove_314 : decode cL_isMove 314 = .ok (.iconst 0, 1) := by decide +kernel
theorem dL_isMove_315 : decode cL_isMove 315 = .ok (.ireturn, 1) := by decide +kernel
theorem dL_isDeparture_0 : decode cL_isDeparture 0 = .ok (.aload_n 0, 1) := by decide +kernel
theorem dL_isDeparture_1 : decode cL_isDeparture 1 = .ok (.iload_n 1, 1) := by decide +kernel
theorem dL_isDeparture_2 : decode cL_isDeparture 2 = .ok (.iconst 4, 1) := by decide +kernel
theorem dL_isDeparture_3 : decode cL_isDeparture 3 = .ok (.invokevirtual 71, 3) := by decide +kernel
theorem dL_isDeparture_6 : decode cL_isDeparture 6 = .ok (.istore_n 2, 1) := by decide +kernel
theorem dL_isDeparture_7 : decode cL_isDeparture 7 = .ok (.aload_n 0, 1) := by decide +kernel
theorem dL_isDeparture_8 : decode cL_isDeparture 8 = .ok (.iload_n 1, 1) := by decide +kernel
theorem dL_isDeparture_9 : decode cL_isDeparture 9 = .ok (.iconst 0, 1) := by decide +kernel
theorem dL_isDeparture_10 : decode cL_isDeparture 10 = .ok (.invokevirtual 71, 3) := by decide +kernel
theorem dL_isDeparture_13 : decode cL_isDeparture 13 = .ok (.istore_n 3, 1) := by decide +kernel
theorem dL_isDeparture_14 : decode cL_isDeparture 14 = .ok (.aload_n 0, 1) := by decide +kernel
theorem dL_isDeparture_15 : decode cL_isDeparture 15 = .ok (.iconst 4, 1) := by decide +kernel
theorem dL_isDeparture_16 : decode cL_isDeparture 16 = .ok (.invokevirtual 25, 3) := by decide +kernel
theorem dL_isDeparture_19 : decode cL_isDeparture 19 = .ok (.istore 4, 2) := by decide +kernel
theorem dL_isDeparture_21 : decode cL_isDeparture 21 = .ok (.aload_n 0, 1) := by decide +kernel
theorem dL_isDeparture_22 : decode cL_isDeparture 22 = .ok (.bipush 11, 2) := by decide +kernel
theorem dL_isDeparture_24 : decode cL_isDeparture 24 = .ok (.invokevirtual 25, 3) := by decide +kernel
theorem dL_isDeparture_27 : decode cL_isDeparture 27 = .ok (.istore 5, 2) := by decide +kernel
theorem dL_isDeparture_29 : decode cL_isDeparture 29 = .ok (.aload_n 0, 1) := by decide +kernel
theorem dL_isDeparture_30 : decode cL_isDeparture 30 = .ok (.iconst 0, 1) := by decide +kernel
theorem dL_isDeparture_31 : decode cL_isDeparture 31 = .ok (.invokevirtual 83, 3) := by decide +kernel
theorem dL_isDeparture_34 : decode cL_isDeparture 34 = .ok (.istore 6, 2) := by decide +kernel
theorem dL_isDeparture_36 : decode cL_isDeparture 36 = .ok (.aload_n 0, 1) := by decide +kernel
theorem dL_isDeparture_37 : decode cL_isDeparture 37 = .ok (.iconst 1, 1) := by decide +kernel
theorem dL_isDeparture_38 : decode cL_isDeparture 38 = .ok (.invokevirtual 83, 3) := by decide +kernel
theorem dL_isDeparture_41 : decode cL_isDeparture 41 = .ok (.istore 7, 2) := by decide +kernel
theorem dL_isDeparture_43 : decode cL_isDeparture 43 = .ok (.aload_n 0, 1) := by decide +kernel
theorem dL_isDeparture_44 : decode cL_isDeparture 44 = .ok (.iload_n 1, 1) := by decide +kernel
theorem dL_isDeparture_45 : decode cL_isDeparture 45 = .ok (.invokevirtual 52, 3) := by decide +kernel
theorem dL_isDeparture_48 : decode cL_isDeparture 48 = .ok (.istore 8, 2) := by decide +kernel
theorem dL_isDeparture_50 : decode cL_isDeparture 50 = .ok (.iload_n 2, 1) := by decide +kernel
theorem dL_isDeparture_51 : decode cL_isDeparture 51 = .ok (.ifCond .le 42, 3) := by decide +kernel
theorem dL_isDeparture_54 : decode cL_isDeparture 54 = .ok (.iload_n 2, 1) := by decide +kernel
theorem dL_isDeparture_55 : decode cL_isDeparture 55 = .ok (.bipush 7, 2) := by decide +kernel
theorem dL_isDeparture_57 : decode cL_isDeparture 57 = .ok (.if_icmp .ge 34, 3) := by decide +kernel
theorem dL_isDeparture_60 : decode cL_isDeparture 60 = .ok (.iload 8, 2) := by decide +kernel
theorem dL_isDeparture_62 : decode cL_isDeparture 62 = .ok (.bipush (-2), 2) := by decide +kernel
theorem dL_isDeparture_64 : decode cL_isDeparture 64 = .ok (.if_icmp .ne 27, 3) := by decide +kernel
theorem dL_isDeparture_67 : decode cL_isDeparture 67 = .ok (.aload_n 0, 1) := by decide +kernel
theorem dL_isDeparture_68 : decode cL_isDeparture 68 = .ok (.bipush 11, 2) := by decide +kernel
theorem dL_isDeparture_70 : decode cL_isDeparture 70 = .ok (.invokevirtual 25, 3) := by decide +kernel
theorem dL_isDeparture_73 : decode cL_isDeparture 73 = .ok (.iload_n 2, 1) := by decide +kernel
theorem dL_isDeparture_74 : decode cL_isDeparture 74 = .ok (.if_icmp .ne 17, 3) := by decide +kernel
theorem dL_isDeparture_77 : decode cL_isDeparture 77 = .ok (.aload_n 0, 1) := by decide +kernel
theorem dL_isDeparture_78 : decode cL_isDeparture 78 = .ok (.iconst 4, 1) := by decide +kernel
theorem dL_isDeparture_79 : decode cL_isDeparture 79 = .ok (.invokevirtual 25, 3) := by decide +kernel
theorem dL_isDeparture_82 : decode cL_isDeparture 82 = .ok (.iload 4, 2) := by decide +kernel
theorem dL_isDeparture_84 : decode cL_isDeparture 84 = .ok (.if_icmp .ne 7, 3) := by decide +kernel
theorem dL_isDeparture_87 : decode cL_isDeparture 87 = .ok (.iconst 1, 1) := by decide +kernel
theorem dL_isDeparture_88 : decode cL_isDeparture 88 = .ok (.goto 4, 3) := by decide +kernel
theorem dL_isDeparture_91 : decode cL_isDeparture 91 = .ok (.iconst 0, 1) := by decide +kernel
theorem dL_isDeparture_92 : decode cL_isDeparture 92 = .ok (.ireturn, 1) := by decide +kernel
theorem dL_isDeparture_93 : decode cL_isDeparture 93 = .ok (.iload 8, 2) := by decide +kernel
theorem dL_isDeparture_95 : decode cL_isDeparture 95 = .ok (.iload_n 3, 1) := by decide +kernel
theorem dL_isDeparture_96 : decode cL_isDeparture 96 = .ok (.if_icmp .ne 53, 3) := by decide +kernel
theorem dL_isDeparture_99 : decode cL_isDeparture 99 = .ok (.iload_n 3, 1) := by decide +kernel
theorem dL_isDeparture_100 : decode cL_isDeparture 100 = .ok (.ifCond .le 49, 3) := by decide +kernel
theorem dL_isDeparture_103 : decode cL_isDeparture 103 = .ok (.aload_n 0, 1) := by decide +kernel
theorem dL_isDeparture_104 : decode cL_isDeparture 104 = .ok (.iload_n 1, 1) := by decide +kernel
theorem dL_isDeparture_105 : decode cL_isDeparture 105 = .ok (.iconst 0, 1) := by decide +kernel
theorem dL_isDeparture_106 : decode cL_isDeparture 106 = .ok (.invokevirtual 71, 3) := by decide +kernel
theorem dL_isDeparture_109 : decode cL_isDeparture 109 = .ok (.ifCond .ne 40, 3) := by decide +kernel
theorem dL_isDeparture_112 : decode cL_isDeparture 112 = .ok (.aload_n 0, 1) := by decide +kernel
theorem dL_isDeparture_113 : decode cL_isDeparture 113 = .ok (.iconst 4, 1) := by decide +kernel
theorem dL_isDeparture_114 : decode cL_isDeparture 114 = .ok (.invokevirtual 25, 3) := by decide +kernel
theorem dL_isDeparture_117 : decode cL_isDeparture 117 = .ok (.iload 4, 2) := by decide +kernel
theorem dL_isDeparture_119 : decode cL_isDeparture 119 = .ok (.iconst 1, 1) := by decide +kernel
theorem dL_isDeparture_120 : decode cL_isDeparture 120 = .ok (.isub, 1) := by decide +kernel
theorem dL_isDeparture_121 : decode cL_isDeparture 121 = .ok (.if_icmp .ne 28, 3) := by decide +kernel
theorem dL_isDeparture_124 : decode cL_isDeparture 124 = .ok (.aload_n 0, 1) := by decide +kernel
theorem dL_isDeparture_125 : decode cL_isDeparture 125 = .ok (.iconst 0, 1) := by decide +kernel
theorem dL_isDeparture_126 : decode cL_isDeparture 126 = .ok (.invokevirtual 83, 3) := by decide +kernel
theorem dL_isDeparture_129 : decode cL_isDeparture 129 = .ok (.iload 7, 2) := by decide +kernel
theorem dL_isDeparture_131 : decode cL_isDeparture 131 = .ok (.if_icmp .ne 18, 3) := by decide +kernel
theorem dL_isDeparture_134 : decode cL_isDeparture 134 = .ok (.aload_n 0, 1) := by decide +kernel
theorem dL_isDeparture_135 : decode cL_isDeparture 135 = .ok (.bipush 11, 2) := by decide +kernel
theorem dL_isDeparture_137 : decode cL_isDeparture 137 = .ok (.invokevirtual 25, 3) := by decide +kernel
theorem dL_isDeparture_140 : decode cL_isDeparture 140 = .ok (.iload 5, 2) := by decide +kernel
theorem dL_isDeparture_142 : decode cL_isDeparture 142 = .ok (.if_icmp .ne 7, 3) := by decide +kernel
theorem dL_isDeparture_145 : decode cL_isDeparture 145 = .ok (.iconst 1, 1) := by decide +kernel
theorem dL_isDeparture_146 : decode cL_isDeparture 146 = .ok (.goto 4, 3) := by decide +kernel
theorem dL_isDeparture_149 : decode cL_isDeparture 149 = .ok (.iconst 0, 1) := by decide +kernel
theorem dL_isDeparture_150 : decode cL_isDeparture 150 = .ok (.istore 9, 2) := by decide +kernel
theorem dL_isDeparture_152 : decode cL_isDeparture 152 = .ok (.aload_n 0, 1) := by decide +kernel
theorem dL_isDeparture_153 : decode cL_isDeparture 153 = .ok (.invokevirtual 58, 3) := by decide +kernel
theorem dL_isDeparture_156 : decode cL_isDeparture 156 = .ok (.ifCond .lt 32, 3) := by decide +kernel
theorem dL_isDeparture_159 : decode cL_isDeparture 159 = .ok (.iload 9, 2) := by decide +kernel
theorem dL_isDeparture_161 : decode cL_isDeparture 161 = .ok (.ifCond .eq 27, 3) := by decide +kernel
theorem dL_isDeparture_164 : decode cL_isDeparture 164 = .ok (.aload_n 0, 1) := by decide +kernel
theorem dL_isDeparture_165 : decode cL_isDeparture 165 = .ok (.iconst 0, 1) := by decide +kernel
theorem dL_isDeparture_166 : decode cL_isDeparture 166 = .ok (.invokevirtual 83, 3) := by decide +kernel
theorem dL_isDeparture_169 : decode cL_isDeparture 169 = .ok (.iload 6, 2) := by decide +kernel
theorem dL_isDeparture_171 : decode cL_isDeparture 171 = .ok (.if_icmp .ne 17, 3) := by decide +kernel
theorem dL_isDeparture_174 : decode cL_isDeparture 174 = .ok (.aload_n 0, 1) := by decide +kernel
theorem dL_isDeparture_175 : decode cL_isDeparture 175 = .ok (.iload_n 1, 1) := by decide +kernel
theorem dL_isDeparture_176 : decode cL_isDeparture 176 = .ok (.iconst 0, 1) := by decide +kernel
theorem dL_isDeparture_177 : decode cL_isDeparture 177 = .ok (.invokevirtual 71, 3) := by decide +kernel
theorem dL_isDeparture_180 : decode cL_isDeparture 180 = .ok (.iload_n 3, 1) := by decide +kernel
theorem dL_isDeparture_181 : decode cL_isDeparture 181 = .ok (.if_icmp .ne 7, 3) := by decide +kernel
theorem dL_isDeparture_184 : decode cL_isDeparture 184 = .ok (.iconst 1, 1) := by decide +kernel
theorem dL_isDeparture_185 : decode cL_isDeparture 185 = .ok (.goto 4, 3) := by decide +kernel
theorem dL_isDeparture_188 : decode cL_isDeparture 188 = .ok (.iconst 0, 1) := by decide +kernel
theorem dL_isDeparture_189 : decode cL_isDeparture 189 = .ok (.ireturn, 1) := by decide +kernel
theorem dL_isCheapest_0 : decode cL_isCheapest 0 = .ok (.bipush (-9), 2) := by decide +kernel
theorem dL_isCheapest_2 : decode cL_isCheapest 2 = .ok (.istore_n 1, 1) := by decide +kernel
theorem dL_isCheapest_3 : decode cL_isCheapest 3 = .ok (.iconst 0, 1) := by decide +kernel
theorem dL_isCheapest_4 : decode cL_isCheapest 4 = .ok (.istore_n 2, 1) := by decide +kernel
theorem dL_isCheapest_5 : decode cL_isCheapest 5 = .ok (.iload_n 2, 1) := by decide +kernel
theorem dL_isCheapest_6 : decode cL_isCheapest 6 = .ok (.iconst 3, 1) := by decide +kernel
theorem dL_isCheapest_7 : decode cL_isCheapest 7 = .ok (.if_icmp .ge 185, 3) := by decide +kernel
theorem dL_isCheapest_10 : decode cL_isCheapest 10 = .ok (.aload_n 0, 1) := by decide +kernel
theorem dL_isCheapest_11 : decode cL_isCheapest 11 = .ok (.iload_n 2, 1) := by decide +kernel
theorem dL_isCheapest_12 : decode cL_isCheapest 12 = .ok (.iconst 0, 1) := by decide +kernel
theorem dL_isCheapest_13 : decode cL_isCheapest 13 = .ok (.invokevirtual 89, 3) := by decide +kernel
theorem dL_isCheapest_16 : decode cL_isCheapest 16 = .ok (.istore_n 3, 1) := by decide +kernel
theorem dL_isCheapest_17 : decode cL_isCheapest 17 = .ok (.aload_n 0, 1) := by decide +kernel
theorem dL_isCheapest_18 : decode cL_isCheapest 18 = .ok (.iload_n 2, 1) := by decide +kernel
theorem dL_isCheapest_19 : decode cL_isCheapest 19 = .ok (.iconst 1, 1) := by decide +kernel
theorem dL_isCheapest_20 : decode cL_isCheapest 20 = .ok (.invokevirtual 89, 3) := by decide +kernel
theorem dL_isCheapest_23 : decode cL_isCheapest 23 = .ok (.istore 4, 2) := by decide +kernel
theorem dL_isCheapest_25 : decode cL_isCheapest 25 = .ok (.aload_n 0, 1) := by decide +kernel
theorem dL_isCheapest_26 : decode cL_isCheapest 26 = .ok (.iconst 2, 1) := by decide +kernel
theorem dL_isCheapest_27 : decode cL_isCheapest 27 = .ok (.invokevirtual 25, 3) := by decide +kernel
theorem dL_isCheapest_30 : decode cL_isCheapest 30 = .ok (.istore 5, 2) := by decide +kernel
theorem dL_isCheapest_32 : decode cL_isCheapest 32 = .ok (.iload_n 3, 1) := by decide +kernel
theorem dL_isCheapest_33 : decode cL_isCheapest 33 = .ok (.ifCond .ge 7, 3) := by decide +kernel
theorem dL_isCheapest_36 : decode cL_isCheapest 36 = .ok (.iconst 1, 1) := by decide +kernel
theorem dL_isCheapest_37 : decode cL_isCheapest 37 = .ok (.goto 4, 3) := by decide +kernel
theorem dL_isCheapest_40 : decode cL_isCheapest 40 = .ok (.iconst 0, 1) := by decide +kernel
theorem dL_isCheapest_41 : decode cL_isCheapest 41 = .ok (.iload 4, 2) := by decide +kernel
theorem dL_isCheapest_43 : decode cL_isCheapest 43 = .ok (.ifCond .ge 7, 3) := by decide +kernel
theorem dL_isCheapest_46 : decode cL_isCheapest 46 = .ok (.iconst 1, 1) := by decide +kernel
theorem dL_isCheapest_47 : decode cL_isCheapest 47 = .ok (.goto 4, 3) := by decide +kernel
theorem dL_isCheapest_50 : decode cL_isCheapest 50 = .ok (.iconst 0, 1) := by decide +kernel
theorem dL_isCheapest_51 : decode cL_isCheapest 51 = .ok (.if_icmp .ne 49, 3) := by decide +kernel
theorem dL_isCheapest_54 : decode cL_isCheapest 54 = .ok (.iload 4, 2) := by decide +kernel
theorem dL_isCheapest_56 : decode cL_isCheapest 56 = .ok (.iload_n 2, 1) := by decide +kernel
theorem dL_isCheapest_57 : decode cL_isCheapest 57 = .ok (.if_icmp .gt 43, 3) := by decide +kernel
theorem dL_isCheapest_60 : decode cL_isCheapest 60 = .ok (.iload_n 1, 1) := by decide +kernel
theorem dL_isCheapest_61 : decode cL_isCheapest 61 = .ok (.ifCond .lt 12, 3) := by decide +kernel
theorem dL_isCheapest_64 : decode cL_isCheapest 64 = .ok (.iload_n 3, 1) := by decide +kernel
theorem dL_isCheapest_65 : decode cL_isCheapest 65 = .ok (.ifCond .lt 35, 3) := by decide +kernel
theorem dL_isCheapest_68 : decode cL_isCheapest 68 = .ok (.iload_n 3, 1) := by decide +kernel
theorem dL_isCheapest_69 : decode cL_isCheapest 69 = .ok (.iload_n 1, 1) := by decide +kernel
theorem dL_isCheapest_70 : decode cL_isCheapest 70 = .ok (.if_icmp .gt 30, 3) := by decide +kernel
theorem dL_isCheapest_73 : decode cL_isCheapest 73 = .ok (.iload 4, 2) := by decide +kernel
theorem dL_isCheapest_75 : decode cL_isCheapest 75 = .ok (.ifCond .ne 7, 3) := by decide +kernel
theorem dL_isCheapest_78 : decode cL_isCheapest 78 = .ok (.iconst 1, 1) := by decide +kernel
theorem dL_isCheapest_79 : decode cL_isCheapest 79 = .ok (.goto 4, 3) := by decide +kernel
theorem dL_isCheapest_82 : decode cL_isCheapest 82 = .ok (.iconst 0, 1) := by decide +kernel
theorem dL_isCheapest_83 : decode cL_isCheapest 83 = .ok (.aload_n 0, 1) := by decide +kernel
theorem dL_isCheapest_84 : decode cL_isCheapest 84 = .ok (.bipush 12, 2) := by decide +kernel
theorem dL_isCheapest_86 : decode cL_isCheapest 86 = .ok (.invokevirtual 25, 3) := by decide +kernel
theorem dL_isCheapest_89 : decode cL_isCheapest 89 = .ok (.ifCond .lt 7, 3) := by decide +kernel
theorem dL_isCheapest_92 : decode cL_isCheapest 92 = .ok (.iconst 1, 1) := by decide +kernel
theorem dL_isCheapest_93 : decode cL_isCheapest 93 = .ok (.goto 4, 3) := by decide +kernel
theorem dL_isCheapest_96 : decode cL_isCheapest 96 = .ok (.iconst 0, 1) := by decide +kernel
theorem dL_isCheapest_97 : decode cL_isCheapest 97 = .ok (.if_icmp .eq 5, 3) := by decide +kernel
theorem dL_isCheapest_100 : decode cL_isCheapest 100 = .ok (.iconst 0, 1) := by decide +kernel
theorem dL_isCheapest_101 : decode cL_isCheapest 101 = .ok (.ireturn, 1) := by decide +kernel
theorem dL_isCheapest_102 : decode cL_isCheapest 102 = .ok (.iload_n 3, 1) := by decide +kernel
theorem dL_isCheapest_103 : decode cL_isCheapest 103 = .ok (.istore_n 1, 1) := by decide +kernel
theorem dL_isCheapest_104 : decode cL_isCheapest 104 = .ok (.aload_n 0, 1) := by decide +kernel
theorem dL_isCheapest_105 : decode cL_isCheapest 105 = .ok (.iload_n 2, 1) := by decide +kernel
theorem dL_isCheapest_106 : decode cL_isCheapest 106 = .ok (.invokevirtual 55, 3) := by decide +kernel
theorem dL_isCheapest_109 : decode cL_isCheapest 109 = .ok (.istore 6, 2) := by decide +kernel
theorem dL_isCheapest_111 : decode cL_isCheapest 111 = .ok (.iload 6, 2) := by decide +kernel
theorem dL_isCheapest_113 : decode cL_isCheapest 113 = .ok (.iload_n 3, 1) := by decide +kernel
theorem dL_isCheapest_114 : decode cL_isCheapest 114 = .ok (.ifCond .ge 8, 3) := by decide +kernel
theorem dL_isCheapest_117 : decode cL_isCheapest 117 = .ok (.bipush (-2), 2) := by decide +kernel
theorem dL_isCheapest_119 : decode cL_isCheapest 119 = .ok (.goto 4, 3) := by decide +kernel
theorem dL_isCheapest_122 : decode cL_isCheapest 122 = .ok (.iload_n 3, 1) := by decide +kernel
theorem dL_isCheapest_123 : decode cL_isCheapest 123 = .ok (.if_icmp .eq 5, 3) := by decide +kernel
theorem dL_isCheapest_126 : decode cL_isCheapest 126 = .ok (.iconst 0, 1) := by decide +kernel
theorem dL_isCheapest_127 : decode cL_isCheapest 127 = .ok (.ireturn, 1) := by decide +kernel
theorem dL_isCheapest_128 : decode cL_isCheapest 128 = .ok (.iload 6, 2) := by decide +kernel
theorem dL_isCheapest_130 : decode cL_isCheapest 130 = .ok (.ifCond .lt 56, 3) := by decide +kernel
theorem dL_isCheapest_133 : decode cL_isCheapest 133 = .ok (.aload_n 0, 1) := by decide +kernel
theorem dL_isCheapest_134 : decode cL_isCheapest 134 = .ok (.bipush 12, 2) := by decide +kernel
theorem dL_isCheapest_136 : decode cL_isCheapest 136 = .ok (.invokevirtual 25, 3) := by decide +kernel
theorem dL_isCheapest_139 : decode cL_isCheapest 139 = .ok (.ifCond .lt 27, 3) := by decide +kernel
theorem dL_isCheapest_142 : decode cL_isCheapest 142 = .ok (.aload_n 0, 1) := by decide +kernel
theorem dL_isCheapest_143 : decode cL_isCheapest 143 = .ok (.iconst 2, 1) := by decide +kernel
theorem dL_isCheapest_144 : decode cL_isCheapest 144 = .ok (.invokevirtual 25, 3) := by decide +kernel
theorem dL_isCheapest_147 : decode cL_isCheapest 147 = .ok (.iload 5, 2) := by decide +kernel
theorem dL_isCheapest_149 : decode cL_isCheapest 149 = .ok (.iload 6, 2) := by decide +kernel
theorem dL_isCheapest_151 : decode cL_isCheapest 151 = .ok (.iadd, 1) := by decide +kernel
theorem dL_isCheapest_152 : decode cL_isCheapest 152 = .ok (.if_icmp .ne 14, 3) := by decide +kernel
theorem dL_isCheapest_155 : decode cL_isCheapest 155 = .ok (.aload_n 0, 1) := by decide +kernel
theorem dL_isCheapest_156 : decode cL_isCheapest 156 = .ok (.invokevirtual 58, 3) := by decide +kernel
theorem dL_isCheapest_159 : decode cL_isCheapest 159 = .ok (.ifCond .lt 7, 3) := by decide +kernel
theorem dL_isCheapest_162 : decode cL_isCheapest 162 = .ok (.iconst 1, 1) := by decide +kernel
theorem dL_isCheapest_163 : decode cL_isCheapest 163 = .ok (.goto 4, 3) := by decide +kernel
theorem dL_isCheapest_166 : decode cL_isCheapest 166 = .ok (.iconst 0, 1) := by decide +kernel
theorem dL_isCheapest_167 : decode cL_isCheapest 167 = .ok (.istore 7, 2) := by decide +kernel
theorem dL_isCheapest_169 : decode cL_isCheapest 169 = .ok (.iload 7, 2) := by decide +kernel
theorem dL_isCheapest_171 : decode cL_isCheapest 171 = .ok (.ifCond .eq 13, 3) := by decide +kernel
theorem dL_isCheapest_174 : decode cL_isCheapest 174 = .ok (.aload_n 0, 1) := by decide +kernel
theorem dL_isCheapest_175 : decode cL_isCheapest 175 = .ok (.iconst 2, 1) := by decide +kernel
theorem dL_isCheapest_176 : decode cL_isCheapest 176 = .ok (.invokevirtual 25, 3) := by decide +kernel
theorem dL_isCheapest_179 : decode cL_isCheapest 179 = .ok (.iload 5, 2) := by decide +kernel
theorem dL_isCheapest_181 : decode cL_isCheapest 181 = .ok (.if_icmp .eq 5, 3) := by decide +kernel
theorem dL_isCheapest_184 : decode cL_isCheapest 184 = .ok (.iconst 0, 1) := by decide +kernel
theorem dL_isCheapest_185 : decode cL_isCheapest 185 = .ok (.ireturn, 1) := by decide +kernel
theorem dL_isCheapest_186 : decode cL_isCheapest 186 = .ok (.iinc 2 1, 3) := by decide +kernel
theorem dL_isCheapest_189 : decode cL_isCheapest 189 = .ok (.goto (-184), 3) := by decide +kernel
theorem dL_isCheapest_192 : decode cL_isCheapest 192 = .ok (.aload_n 0, 1) := by decide +kernel
theorem dL_isCheapest_193 : decode cL_isCheapest 193 = .ok (.iconst 4, 1) := by decide +kernel
theorem dL_isCheapest_194 : decode cL_isCheapest 194 = .ok (.iconst 0, 1) := by decide +kernel
theorem dL_isCheapest_195 : decode cL_isCheapest 195 = .ok (.invokevirtual 89, 3) := by decide +kernel
theorem dL_isCheapest_198 : decode cL_isCheapest 198 = .ok (.iconst (-1), 1) := by decide +kernel
theorem dL_isCheapest_199 : decode cL_isCheapest 199 = .ok (.if_icmp .ne 17, 3) := by decide +kernel
theorem dL_isCheapest_202 : decode cL_isCheapest 202 = .ok (.aload_n 0, 1) := by decide +kernel
theorem dL_isCheapest_203 : decode cL_isCheapest 203 = .ok (.iconst 0, 1) := by decide +kernel
theorem dL_isCheapest_204 : decode cL_isCheapest 204 = .ok (.iconst 5, 1) := by decide +kernel
theorem dL_isCheapest_205 : decode cL_isCheapest 205 = .ok (.invokevirtual 89, 3) := by decide +kernel
theorem dL_isCheapest_208 : decode cL_isCheapest 208 = .ok (.iconst (-1), 1) := by decide +kernel
theorem dL_isCheapest_209 : decode cL_isCheapest 209 = .ok (.if_icmp .ne 7, 3) := by decide +kernel
theorem dL_isCheapest_212 : decode cL_isCheapest 212 = .ok (.iconst 1, 1) := by decide +kernel
theorem dL_isCheapest_213 : decode cL_isCheapest 213 = .ok (.goto 4, 3) := by decide +kernel
theorem dL_isCheapest_216 : decode cL_isCheapest 216 = .ok (.iconst 0, 1) := by decide +kernel
theorem dL_isCheapest_217 : decode cL_isCheapest 217 = .ok (.ireturn, 1) := by decide +kernel
theorem dL_areAlike_0 : decode cL_areAlike 0 = .ok (.aload_n 0, 1) := by decide +kernel
theorem dL_areAlike_1 : decode cL_areAlike 1 = .ok (.invokevirtual 92, 3) := by decide +kernel
theorem dL_areAlike_4 : decode cL_areAlike 4 = .ok (.aload_n 1, 1) := by decide +kernel
theorem dL_areAlike_5 : decode cL_areAlike 5 = .ok (.invokevirtual 92, 3) := by decide +kernel
theorem dL_areAlike_8 : decode cL_areAlike 8 = .ok (.fcmp .l, 1) := by decide +kernel
theorem dL_areAlike_9 : decode cL_areAlike 9 = .ok (.ifCond .ne 22, 3) := by decide +kernel
theorem dL_areAlike_12 : decode cL_areAlike 12 = .ok (.aload_n 0, 1) := by decide +kernel
theorem dL_areAlike_13 : decode cL_areAlike 13 = .ok (.iconst 2, 1) := by decide +kernel
theorem dL_areAlike_14 : decode cL_areAlike 14 = .ok (.iconst 0, 1) := by decide +kernel
theorem dL_areAlike_15 : decode cL_areAlike 15 = .ok (.invokevirtual 89, 3) := by decide +kernel
theorem dL_areAlike_18 : decode cL_areAlike 18 = .ok (.aload_n 1, 1) := by decide +kernel
theorem dL_areAlike_19 : decode cL_areAlike 19 = .ok (.iconst 2, 1) := by decide +kernel
theorem dL_areAlike_20 : decode cL_areAlike 20 = .ok (.iconst 0, 1) := by decide +kernel
theorem dL_areAlike_21 : decode cL_areAlike 21 = .ok (.invokevirtual 89, 3) := by decide +kernel
theorem dL_areAlike_24 : decode cL_areAlike 24 = .ok (.if_icmp .ne 7, 3) := by decide +kernel
theorem dL_areAlike_27 : decode cL_areAlike 27 = .ok (.iconst 1, 1) := by decide +kernel
theorem dL_areAlike_28 : decode cL_areAlike 28 = .ok (.goto 4, 3) := by decide +kernel
theorem dL_areAlike_31 : decode cL_areAlike 31 = .ok (.iconst 0, 1) := by decide +kernel
theorem dL_areAlike_32 : decode cL_areAlike 32 = .ok (.istore_n 2, 1) := by decide +kernel
theorem dL_areAlike_33 : decode cL_areAlike 33 = .ok (.iconst 0, 1) := by decide +kernel
theorem dL_areAlike_34 : decode cL_areAlike 34 = .ok (.istore_n 3, 1) := by decide +kernel
theorem dL_areAlike_35 : decode cL_areAlike 35 = .ok (.iload_n 3, 1) := by decide +kernel
theorem dL_areAlike_36 : decode cL_areAlike 36 = .ok (.bipush 13, 2) := by decide +kernel
theorem dL_areAlike_38 : decode cL_areAlike 38 = .ok (.if_icmp .ge 38, 3) := by decide +kernel
theorem dL_areAlike_41 : decode cL_areAlike 41 = .ok (.iload_n 2, 1) := by decide +kernel
theorem dL_areAlike_42 : decode cL_areAlike 42 = .ok (.ifCond .eq 26, 3) := by decide +kernel
theorem dL_areAlike_45 : decode cL_areAlike 45 = .ok (.iload_n 3, 1) := by decide +kernel
theorem dL_areAlike_46 : decode cL_areAlike 46 = .ok (.bipush 11, 2) := by decide +kernel
theorem dL_areAlike_48 : decode cL_areAlike 48 = .ok (.if_icmp .eq 16, 3) := by decide +kernel
theorem dL_areAlike_51 : decode cL_areAlike 51 = .ok (.aload_n 0, 1) := by decide +kernel
theorem dL_areAlike_52 : decode cL_areAlike 52 = .ok (.iload_n 3, 1) := by decide +kernel
theorem dL_areAlike_53 : decode cL_areAlike 53 = .ok (.invokevirtual 25, 3) := by decide +kernel
theorem dL_areAlike_56 : decode cL_areAlike 56 = .ok (.aload_n 1, 1) := by decide +kernel
theorem dL_areAlike_57 : decode cL_areAlike 57 = .ok (.iload_n 3, 1) := by decide +kernel
theorem dL_areAlike_58 : decode cL_areAlike 58 = .ok (.invokevirtual 25, 3) := by decide +kernel
theorem dL_areAlike_61 : decode cL_areAlike 61 = .ok (.if_icmp .ne 7, 3) := by decide +kernel
theorem dL_areAlike_64 : decode cL_areAlike 64 = .ok (.iconst 1, 1) := by decide +kernel
theorem dL_areAlike_65 : decode cL_areAlike 65 = .ok (.goto 4, 3) := by decide +kernel
theorem dL_areAlike_68 : decode cL_areAlike 68 = .ok (.iconst 0, 1) := by decide +kernel
theorem dL_areAlike_69 : decode cL_areAlike 69 = .ok (.istore_n 2, 1) := by decide +kernel
theorem dL_areAlike_70 : decode cL_areAlike 70 = .ok (.iinc 3 1, 3) := by decide +kernel
theorem dL_areAlike_73 : decode cL_areAlike 73 = .ok (.goto (-38), 3) := by decide +kernel
theorem dL_areAlike_76 : decode cL_areAlike 76 = .ok (.iconst 0, 1) := by decide +kernel
theorem dL_areAlike_77 : decode cL_areAlike 77 = .ok (.istore_n 3, 1) := by decide +kernel
theorem dL_areAlike_78 : decode cL_areAlike 78 = .ok (.iload_n 3, 1) := by decide +kernel
theorem dL_areAlike_79 : decode cL_areAlike 79 = .ok (.aload_n 0, 1) := by decide +kernel
theorem dL_areAlike_80 : decode cL_areAlike 80 = .ok (.iconst 0, 1) := by decide +kernel
theorem dL_areAlike_81 : decode cL_areAlike 81 = .ok (.invokevirtual 25, 3) := by decide +kernel
theorem dL_areAlike_84 : decode cL_areAlike 84 = .ok (.if_icmp .ge 115, 3) := by decide +kernel
theorem dL_areAlike_87 : decode cL_areAlike 87 = .ok (.iconst 0, 1) := by decide +kernel
theorem dL_areAlike_88 : decode cL_areAlike 88 = .ok (.istore 4, 2) := by decide +kernel
theorem dL_areAlike_90 : decode cL_areAlike 90 = .ok (.iload 4, 2) := by decide +kernel
theorem dL_areAlike_92 : decode cL_areAlike 92 = .ok (.iconst 5, 1) := by decide +kernel
theorem dL_areAlike_93 : decode cL_areAlike 93 = .ok (.if_icmp .ge 36, 3) := by decide +kernel
theorem dL_areAlike_96 : decode cL_areAlike 96 = .ok (.iload_n 2, 1) := by decide +kernel
theorem dL_areAlike_97 : decode cL_areAlike 97 = .ok (.ifCond .eq 24, 3) := by decide +kernel
theorem dL_areAlike_100 : decode cL_areAlike 100 = .ok (.aload_n 0, 1) := by decide +kernel
theorem dL_areAlike_101 : decode cL_areAlike 101 = .ok (.iload_n 3, 1) := by decide +kernel
theorem dL_areAlike_102 : decode cL_areAlike 102 = .ok (.iload 4, 2) := by decide +kernel
theorem dL_areAlike_104 : decode cL_areAlike 104 = .ok (.invokevirtual 71, 3) := by decide +kernel
theorem dL_areAlike_107 : decode cL_areAlike 107 = .ok (.aload_n 1, 1) := by decide +kernel
theorem dL_areAlike_108 : decode cL_areAlike 108 = .ok (.iload_n 3, 1) := by decide +kernel
theorem dL_areAlike_109 : decode cL_areAlike 109 = .ok (.iload 4, 2) := by decide +kernel
theorem dL_areAlike_111 : decode cL_areAlike 111 = .ok (.invokevirtual 71, 3) := by decide +kernel
theorem dL_areAlike_114 : decode cL_areAlike 114 = .ok (.if_icmp .ne 7, 3) := by decide +kernel
theorem dL_areAlike_117 : decode cL_areAlike 117 = .ok (.iconst 1, 1) := by decide +kernel
theorem dL_areAlike_118 : decode cL_areAlike 118 = .ok (.goto 4, 3) := by decide +kernel
theorem dL_areAlike_121 : decode cL_areAlike 121 = .ok (.iconst 0, 1) := by decide +kernel
theorem dL_areAlike_122 : decode cL_areAlike 122 = .ok (.istore_n 2, 1) := by decide +kernel
theorem dL_areAlike_123 : decode cL_areAlike 123 = .ok (.iinc 4 1, 3) := by decide +kernel
theorem dL_areAlike_126 : decode cL_areAlike 126 = .ok (.goto (-36), 3) := by decide +kernel
theorem dL_areAlike_129 : decode cL_areAlike 129 = .ok (.iconst 0, 1) := by decide +kernel
theorem dL_areAlike_130 : decode cL_areAlike 130 = .ok (.istore 4, 2) := by decide +kernel
theorem dL_areAlike_132 : decode cL_areAlike 132 = .ok (.iload 4, 2) := by decide +kernel
theorem dL_areAlike_134 : decode cL_areAlike 134 = .ok (.bipush 8, 2) := by decide +kernel
theorem dL_areAlike_136 : decode cL_areAlike 136 = .ok (.if_icmp .ge 57, 3) := by decide +kernel
theorem dL_areAlike_139 : decode cL_areAlike 139 = .ok (.iload_n 2, 1) := by decide +kernel
theorem dL_areAlike_140 : decode cL_areAlike 140 = .ok (.ifCond .eq 45, 3) := by decide +kernel
theorem dL_areAlike_143 : decode cL_areAlike 143 = .ok (.aload_n 0, 1) := by decide +kernel
theorem dL_areAlike_144 : decode cL_areAlike 144 = .ok (.iload_n 3, 1) := by decide +kernel
theorem dL_areAlike_145 : decode cL_areAlike 145 = .ok (.iload 4, 2) := by decide +kernel
theorem dL_areAlike_147 : decode cL_areAlike 147 = .ok (.iconst 0, 1) := by decide +kernel
theorem dL_areAlike_148 : decode cL_areAlike 148 = .ok (.invokevirtual 74, 3) := by decide +kernel
theorem dL_areAlike_151 : decode cL_areAlike 151 = .ok (.aload_n 1, 1) := by decide +kernel
theorem dL_areAlike_152 : decode cL_areAlike 152 = .ok (.iload_n 3, 1) := by decide +kernel
theorem dL_areAlike_153 : decode cL_areAlike 153 = .ok (.iload 4, 2) := by decide +kernel
theorem dL_areAlike_155 : decode cL_areAlike 155 = .ok (.iconst 0, 1) := by decide +kernel
theorem dL_areAlike_156 : decode cL_areAlike 156 = .ok (.invokevirtual 74, 3) := by decide +kernel
theorem dL_areAlike_159 : decode cL_areAlike 159 = .ok (.if_icmp .ne 26, 3) := by decide +kernel
theorem dL_areAlike_162 : decode cL_areAlike 162 = .ok (.aload_n 0, 1) := by decide +kernel
theorem dL_areAlike_163 : decode cL_areAlike 163 = .ok (.iload_n 3, 1) := by decide +kernel
theorem dL_areAlike_164 : decode cL_areAlike 164 = .ok (.iload 4, 2) := by decide +kernel
theorem dL_areAlike_166 : decode cL_areAlike 166 = .ok (.iconst 1, 1) := by decide +kernel
theorem dL_areAlike_167 : decode cL_areAlike 167 = .ok (.invokevirtual 74, 3) := by decide +kernel
theorem dL_areAlike_170 : decode cL_areAlike 170 = .ok (.aload_n 1, 1) := by decide +kernel
theorem dL_areAlike_171 : decode cL_areAlike 171 = .ok (.iload_n 3, 1) := by decide +kernel
theorem dL_areAlike_172 : decode cL_areAlike 172 = .ok (.iload 4, 2) := by decide +kernel
theorem dL_areAlike_174 : decode cL_areAlike 174 = .ok (.iconst 1, 1) := by decide +kernel
theorem dL_areAlike_175 : decode cL_areAlike 175 = .ok (.invokevirtual 74, 3) := by decide +kernel
theorem dL_areAlike_178 : decode cL_areAlike 178 = .ok (.if_icmp .ne 7, 3) := by decide +kernel
theorem dL_areAlike_181 : decode cL_areAlike 181 = .ok (.iconst 1, 1) := by decide +kernel
theorem dL_areAlike_182 : decode cL_areAlike 182 = .ok (.goto 4, 3) := by decide +kernel
theorem dL_areAlike_185 : decode cL_areAlike 185 = .ok (.iconst 0, 1) := by decide +kernel
theorem dL_areAlike_186 : decode cL_areAlike 186 = .ok (.istore_n 2, 1) := by decide +kernel
theorem dL_areAlike_187 : decode cL_areAlike 187 = .ok (.iinc 4 1, 3) := by decide +kernel
theorem dL_areAlike_190 : decode cL_areAlike 190 = .ok (.goto (-58), 3) := by decide +kernel
theorem dL_areAlike_193 : decode cL_areAlike 193 = .ok (.iinc 3 1, 3) := by decide +kernel
theorem dL_areAlike_196 : decode cL_areAlike 196 = .ok (.goto (-118), 3) := by decide +kernel
theorem dL_areAlike_199 : decode cL_areAlike 199 = .ok (.iload_n 2, 1) := by decide +kernel
theorem dL_areAlike_200 : decode cL_areAlike 200 = .ok (.ireturn, 1) := by decide +kernel
theorem dL_law_0 : decode cL_law 0 = .ok (.new 10, 3) := by decide +kernel
theorem dL_law_3 : decode cL_law 3 = .ok (.dup, 1) := by decide +kernel
theorem dL_law_4 : decode cL_law 4 = .ok (.invokespecial 96, 3) := by decide +kernel
theorem dL_law_7 : decode cL_law 7 = .ok (.astore_n 1, 1) := by decide +kernel
theorem dL_law_8 : decode cL_law 8 = .ok (.new 10, 3) := by decide +kernel
theorem dL_law_11 : decode cL_law 11 = .ok (.dup, 1) := by decide +kernel
theorem dL_law_12 : decode cL_law 12 = .ok (.invokespecial 96, 3) := by decide +kernel
theorem dL_law_15 : decode cL_law 15 = .ok (.astore_n 2, 1) := by decide +kernel
theorem dL_law_16 : decode cL_law 16 = .ok (.iconst 0, 1) := by decide +kernel
theorem dL_law_17 : decode cL_law 17 = .ok (.istore_n 3, 1) := by decide +kernel
theorem dL_law_18 : decode cL_law 18 = .ok (.iload_n 3, 1) := by decide +kernel
theorem dL_law_19 : decode cL_law 19 = .ok (.bipush 36, 2) := by decide +kernel
theorem dL_law_21 : decode cL_law 21 = .ok (.if_icmp .ge 149, 3) := by decide +kernel
theorem dL_law_24 : decode cL_law 24 = .ok (.aload_n 0, 1) := by decide +kernel
theorem dL_law_25 : decode cL_law 25 = .ok (.iconst 2, 1) := by decide +kernel
theorem dL_law_26 : decode cL_law 26 = .ok (.iload_n 3, 1) := by decide +kernel
theorem dL_law_27 : decode cL_law 27 = .ok (.imul, 1) := by decide +kernel
theorem dL_law_28 : decode cL_law 28 = .ok (.invokestatic 97, 3) := by decide +kernel
theorem dL_law_31 : decode cL_law 31 = .ok (.istore 4, 2) := by decide +kernel
theorem dL_law_33 : decode cL_law 33 = .ok (.aload_n 0, 1) := by decide +kernel
theorem dL_law_34 : decode cL_law 34 = .ok (.iconst 2, 1) := by decide +kernel
theorem dL_law_35 : decode cL_law 35 = .ok (.iload_n 3, 1) := by decide +kernel
theorem dL_law_36 : decode cL_law 36 = .ok (.imul, 1) := by decide +kernel
theorem dL_law_37 : decode cL_law 37 = .ok (.iconst 1, 1) := by decide +kernel
theorem dL_law_38 : decode cL_law 38 = .ok (.iadd, 1) := by decide +kernel
theorem dL_law_39 : decode cL_law 39 = .ok (.invokestatic 97, 3) := by decide +kernel
theorem dL_law_42 : decode cL_law 42 = .ok (.istore 5, 2) := by decide +kernel
theorem dL_law_44 : decode cL_law 44 = .ok (.iload 4, 2) := by decide +kernel
theorem dL_law_46 : decode cL_law 46 = .ok (.bipush 22, 2) := by decide +kernel
theorem dL_law_48 : decode cL_law 48 = .ok (.invokestatic 15, 3) := by decide +kernel
theorem dL_law_51 : decode cL_law 51 = .ok (.bipush 16, 2) := by decide +kernel
theorem dL_law_53 : decode cL_law 53 = .ok (.if_icmp .eq 22, 3) := by decide +kernel
theorem dL_law_56 : decode cL_law 56 = .ok (.aload_n 1, 1) := by decide +kernel
theorem dL_law_57 : decode cL_law 57 = .ok (.iload 4, 2) := by decide +kernel
theorem dL_law_59 : decode cL_law 59 = .ok (.iload 5, 2) := by decide +kernel
theorem dL_law_61 : decode cL_law 61 = .ok (.invokestatic 101, 3) := by decide +kernel
theorem dL_law_64 : decode cL_law 64 = .ok (.aload_n 2, 1) := by decide +kernel
theorem dL_law_65 : decode cL_law 65 = .ok (.iload 4, 2) := by decide +kernel
theorem dL_law_67 : decode cL_law 67 = .ok (.iload 5, 2) := by decide +kernel
theorem dL_law_69 : decode cL_law 69 = .ok (.invokestatic 101, 3) := by decide +kernel
theorem dL_law_72 : decode cL_law 72 = .ok (.if_icmp .ne 10, 3) := by decide +kernel
theorem dL_law_75 : decode cL_law 75 = .ok (.aload_n 1, 1) := by decide +kernel
theorem dL_law_76 : decode cL_law 76 = .ok (.invokestatic 104, 3) := by decide +kernel
theorem dL_law_79 : decode cL_law 79 = .ok (.ifCond .ne 5, 3) := by decide +kernel
theorem dL_law_82 : decode cL_law 82 = .ok (.iconst 0, 1) := by decide +kernel
theorem dL_law_83 : decode cL_law 83 = .ok (.ireturn, 1) := by decide +kernel
theorem dL_law_84 : decode cL_law 84 = .ok (.aload_n 1, 1) := by decide +kernel
theorem dL_law_85 : decode cL_law 85 = .ok (.iconst 0, 1) := by decide +kernel
theorem dL_law_86 : decode cL_law 86 = .ok (.invokevirtual 25, 3) := by decide +kernel
theorem dL_law_89 : decode cL_law 89 = .ok (.istore 6, 2) := by decide +kernel
theorem dL_law_91 : decode cL_law 91 = .ok (.aload_n 1, 1) := by decide +kernel
theorem dL_law_92 : decode cL_law 92 = .ok (.iload 5, 2) := by decide +kernel
theorem dL_law_94 : decode cL_law 94 = .ok (.iconst 4, 1) := by decide +kernel
theorem dL_law_95 : decode cL_law 95 = .ok (.ishr, 1) := by decide +kernel
theorem dL_law_96 : decode cL_law 96 = .ok (.iload 6, 2) := by decide +kernel
theorem dL_law_98 : decode cL_law 98 = .ok (.invokestatic 15, 3) := by decide +kernel
theorem dL_law_101 : decode cL_law 101 = .ok (.iload 5, 2) := by decide +kernel
theorem dL_law_103 : decode cL_law 103 = .ok (.bipush 7, 2) := by decide +kernel
theorem dL_law_105 : decode cL_law 105 = .ok (.ishr, 1) := by decide +kernel
theorem dL_law_106 : decode cL_law 106 = .ok (.iload 6, 2) := by decide +kernel
theorem dL_law_108 : decode cL_law 108 = .ok (.invokestatic 15, 3) := by decide +kernel
theorem dL_law_111 : decode cL_law 111 = .ok (.iconst 1, 1) := by decide +kernel
theorem dL_law_112 : decode cL_law 112 = .ok (.iload 5, 2) := by decide +kernel
theorem dL_law_114 : decode cL_law 114 = .ok (.bipush 10, 2) := by decide +kernel
theorem dL_law_116 : decode cL_law 116 = .ok (.ishr, 1) := by decide +kernel
theorem dL_law_117 : decode cL_law 117 = .ok (.bipush 8, 2) := by decide +kernel
theorem dL_law_119 : decode cL_law 119 = .ok (.invokestatic 15, 3) := by decide +kernel
theorem dL_law_122 : decode cL_law 122 = .ok (.iadd, 1) := by decide +kernel
theorem dL_law_123 : decode cL_law 123 = .ok (.invokestatic 108, 3) := by decide +kernel
theorem dL_law_126 : decode cL_law 126 = .ok (.ifCond .eq 36, 3) := by decide +kernel
theorem dL_law_129 : decode cL_law 129 = .ok (.aload_n 1, 1) := by decide +kernel
theorem dL_law_130 : decode cL_law 130 = .ok (.iload 5, 2) := by decide +kernel
theorem dL_law_132 : decode cL_law 132 = .ok (.bipush 13, 2) := by decide +kernel
theorem dL_law_134 : decode cL_law 134 = .ok (.ishr, 1) := by decide +kernel
theorem dL_law_135 : decode cL_law 135 = .ok (.iload 6, 2) := by decide +kernel
theorem dL_law_137 : decode cL_law 137 = .ok (.invokestatic 15, 3) := by decide +kernel
theorem dL_law_140 : decode cL_law 140 = .ok (.invokestatic 112, 3) := by decide +kernel
theorem dL_law_143 : decode cL_law 143 = .ok (.ifCond .eq 19, 3) := by decide +kernel
theorem dL_law_146 : decode cL_law 146 = .ok (.iload_n 3, 1) := by decide +kernel
theorem dL_law_147 : decode cL_law 147 = .ok (.bipush 9, 2) := by decide +kernel
theorem dL_law_149 : decode cL_law 149 = .ok (.irem, 1) := by decide +kernel
theorem dL_law_150 : decode cL_law 150 = .ok (.bipush 8, 2) := by decide +kernel
theorem dL_law_152 : decode cL_law 152 = .ok (.if_icmp .ne 12, 3) := by decide +kernel
theorem dL_law_155 : decode cL_law 155 = .ok (.aload_n 1, 1) := by decide +kernel
theorem dL_law_156 : decode cL_law 156 = .ok (.invokestatic 116, 3) := by decide +kernel
theorem dL_law_159 : decode cL_law 159 = .ok (.ifCond .ne 5, 3) := by decide +kernel
theorem dL_law_162 : decode cL_law 162 = .ok (.iconst 0, 1) := by decide +kernel
theorem dL_law_163 : decode cL_law 163 = .ok (.ireturn, 1) := by decide +kernel
theorem dL_law_164 : decode cL_law 164 = .ok (.iinc 3 1, 3) := by decide +kernel
theorem dL_law_167 : decode cL_law 167 = .ok (.goto (-149), 3) := by decide +kernel
theorem dL_law_170 : decode cL_law 170 = .ok (.aload_n 1, 1) := by decide +kernel
theorem dL_law_171 : decode cL_law 171 = .ok (.aload_n 2, 1) := by decide +kernel
theorem dL_law_172 : decode cL_law 172 = .ok (.invokestatic 119, 3) := by decide +kernel
theorem dL_law_175 : decode cL_law 175 = .ok (.ireturn, 1) := by decide +kernel
