/-! decode rows (claim/NAMES.whole.lean.txt) -/
theorem dX10_init_0 : decode cX10_init 0 = .ok (.aload_n 0, 1) := by decide +kernel
theorem dX10_init_1 : decode cX10_init 1 = .ok (.invokespecial 1, 3) := by decide +kernel
theorem dX10_init_4 : decode cX10_init 4 = .ok (.aload_n 0, 1) := by decide +kernel
theorem dX10_init_5 : decode cX10_init 5 = .ok (.sipush 202, 3) := by decide +kernel
theorem dX10_init_8 : decode cX10_init 8 = .ok (.newarray .int, 2) := by decide +kernel
theorem dX10_init_10 : decode cX10_init 10 = .ok (.putfield 9, 3) := by decide +kernel
theorem dX10_init_13 : decode cX10_init 13 = .ok (.aload_n 0, 1) := by decide +kernel
theorem dX10_init_14 : decode cX10_init 14 = .ok (.sipush 202, 3) := by decide +kernel
theorem dX10_init_17 : decode cX10_init 17 = .ok (.newarray .int, 2) := by decide +kernel
theorem dX10_init_19 : decode cX10_init 19 = .ok (.putfield 13, 3) := by decide +kernel
theorem dX10_init_22 : decode cX10_init 22 = .ok (.aload_n 0, 1) := by decide +kernel
theorem dX10_init_23 : decode cX10_init 23 = .ok (.sipush 202, 3) := by decide +kernel
theorem dX10_init_26 : decode cX10_init 26 = .ok (.newarray .int, 2) := by decide +kernel
theorem dX10_init_28 : decode cX10_init 28 = .ok (.putfield 16, 3) := by decide +kernel
theorem dX10_init_31 : decode cX10_init 31 = .ok (.aload_n 0, 1) := by decide +kernel
theorem dX10_init_32 : decode cX10_init 32 = .ok (.sipush 202, 3) := by decide +kernel
theorem dX10_init_35 : decode cX10_init 35 = .ok (.newarray .int, 2) := by decide +kernel
theorem dX10_init_37 : decode cX10_init 37 = .ok (.putfield 19, 3) := by decide +kernel
theorem dX10_init_40 : decode cX10_init 40 = .ok (.aload_n 0, 1) := by decide +kernel
theorem dX10_init_41 : decode cX10_init 41 = .ok (.sipush 1616, 3) := by decide +kernel
theorem dX10_init_44 : decode cX10_init 44 = .ok (.newarray .int, 2) := by decide +kernel
theorem dX10_init_46 : decode cX10_init 46 = .ok (.putfield 22, 3) := by decide +kernel
theorem dX10_init_49 : decode cX10_init 49 = .ok (.aload_n 0, 1) := by decide +kernel
theorem dX10_init_50 : decode cX10_init 50 = .ok (.iconst (-1), 1) := by decide +kernel
theorem dX10_init_51 : decode cX10_init 51 = .ok (.putfield 25, 3) := by decide +kernel
theorem dX10_init_54 : decode cX10_init 54 = .ok (.aload_n 0, 1) := by decide +kernel
theorem dX10_init_55 : decode cX10_init 55 = .ok (.iconst (-1), 1) := by decide +kernel
theorem dX10_init_56 : decode cX10_init 56 = .ok (.putfield 29, 3) := by decide +kernel
theorem dX10_init_59 : decode cX10_init 59 = .ok (.aload_n 0, 1) := by decide +kernel
theorem dX10_init_60 : decode cX10_init 60 = .ok (.bipush 60, 2) := by decide +kernel
theorem dX10_init_62 : decode cX10_init 62 = .ok (.newarray .int, 2) := by decide +kernel
theorem dX10_init_64 : decode cX10_init 64 = .ok (.putfield 32, 3) := by decide +kernel
theorem dX10_init_67 : decode cX10_init 67 = .ok (.aload_n 0, 1) := by decide +kernel
theorem dX10_init_68 : decode cX10_init 68 = .ok (.bipush 64, 2) := by decide +kernel
theorem dX10_init_70 : decode cX10_init 70 = .ok (.newarray .int, 2) := by decide +kernel
theorem dX10_init_72 : decode cX10_init 72 = .ok (.putfield 35, 3) := by decide +kernel
theorem dX10_init_75 : decode cX10_init 75 = .ok (.aload_n 0, 1) := by decide +kernel
theorem dX10_init_76 : decode cX10_init 76 = .ok (.bipush 64, 2) := by decide +kernel
theorem dX10_init_78 : decode cX10_init 78 = .ok (.newarray .boolean, 2) := by decide +kernel
theorem dX10_init_80 : decode cX10_init 80 = .ok (.putfield 38, 3) := by decide +kernel
theorem dX10_init_83 : decode cX10_init 83 = .ok (.aload_n 0, 1) := by decide +kernel
theorem dX10_init_84 : decode cX10_init 84 = .ok (.bipush 64, 2) := by decide +kernel
theorem dX10_init_86 : decode cX10_init 86 = .ok (.newarray .int, 2) := by decide +kernel
theorem dX10_init_88 : decode cX10_init 88 = .ok (.putfield 42, 3) := by decide +kernel
theorem dX10_init_91 : decode cX10_init 91 = .ok (.aload_n 0, 1) := by decide +kernel
theorem dX10_init_92 : decode cX10_init 92 = .ok (.bipush 64, 2) := by decide +kernel
theorem dX10_init_94 : decode cX10_init 94 = .ok (.newarray .int, 2) := by decide +kernel
theorem dX10_init_96 : decode cX10_init 96 = .ok (.putfield 45, 3) := by decide +kernel
theorem dX10_init_99 : decode cX10_init 99 = .ok (.aload_n 0, 1) := by decide +kernel
theorem dX10_init_100 : decode cX10_init 100 = .ok (.bipush 64, 2) := by decide +kernel
theorem dX10_init_102 : decode cX10_init 102 = .ok (.newarray .int, 2) := by decide +kernel
theorem dX10_init_104 : decode cX10_init 104 = .ok (.putfield 48, 3) := by decide +kernel
theorem dX10_init_107 : decode cX10_init 107 = .ok (.aload_n 0, 1) := by decide +kernel
theorem dX10_init_108 : decode cX10_init 108 = .ok (.bipush 64, 2) := by decide +kernel
theorem dX10_init_110 : decode cX10_init 110 = .ok (.newarray .boolean, 2) := by decide +kernel
theorem dX10_init_112 : decode cX10_init 112 = .ok (.putfield 51, 3) := by decide +kernel
theorem dX10_init_115 : decode cX10_init 115 = .ok (.aload_n 0, 1) := by decide +kernel
theorem dX10_init_116 : decode cX10_init 116 = .ok (.bipush 24, 2) := by decide +kernel
theorem dX10_init_118 : decode cX10_init 118 = .ok (.newarray .char, 2) := by decide +kernel
theorem dX10_init_120 : decode cX10_init 120 = .ok (.dup, 1) := by decide +kernel
theorem dX10_init_121 : decode cX10_init 121 = .ok (.iconst 0, 1) := by decide +kernel
theorem dX10_init_122 : decode cX10_init 122 = .ok (.bipush 104, 2) := by decide +kernel
theorem dX10_init_124 : decode cX10_init 124 = .ok (.castore, 1) := by decide +kernel
theorem dX10_init_125 : decode cX10_init 125 = .ok (.dup, 1) := by decide +kernel
theorem dX10_init_126 : decode cX10_init 126 = .ok (.iconst 1, 1) := by decide +kernel
theorem dX10_init_127 : decode cX10_init 127 = .ok (.bipush 101, 2) := by decide +kernel
theorem dX10_init_129 : decode cX10_init 129 = .ok (.castore, 1) := by decide +kernel
theorem dX10_init_130 : decode cX10_init 130 = .ok (.dup, 1) := by decide +kernel
theorem dX10_init_131 : decode cX10_init 131 = .ok (.iconst 2, 1) := by decide +kernel
theorem dX10_init_132 : decode cX10_init 132 = .ok (.bipush 97, 2) := by decide +kernel
theorem dX10_init_134 : decode cX10_init 134 = .ok (.castore, 1) := by decide +kernel
theorem dX10_init_135 : decode cX10_init 135 = .ok (.dup, 1) := by decide +kernel
theorem dX10_init_136 : decode cX10_init 136 = .ok (.iconst 3, 1) := by decide +kernel
theorem dX10_init_137 : decode cX10_init 137 = .ok (.bipush 116, 2) := by decide +kernel
theorem dX10_init_139 : decode cX10_init 139 = .ok (.castore, 1) := by decide +kernel
theorem dX10_init_140 : decode cX10_init 140 = .ok (.dup, 1) := by decide +kernel
theorem dX10_init_141 : decode cX10_init 141 = .ok (.iconst 4, 1) := by decide +kernel
theorem dX10_init_142 : decode cX10_init 142 = .ok (.bipush 32, 2) := by decide +kernel
theorem dX10_init_144 : decode cX10_init 144 = .ok (.castore, 1) := by decide +kernel
theorem dX10_init_145 : decode cX10_init 145 = .ok (.dup, 1) := by decide +kernel
theorem dX10_init_146 : decode cX10_init 146 = .ok (.iconst 5, 1) := by decide +kernel
theorem dX10_init_147 : decode cX10_init 147 = .ok (.bipush 103, 2) := by decide +kernel
theorem dX10_init_149 : decode cX10_init 149 = .ok (.castore, 1) := by decide +kernel
theorem dX10_init_150 : decode cX10_init 150 = .ok (.dup, 1) := by decide +kernel
theorem dX10_init_151 : decode cX10_init 151 = .ok (.bipush 6, 2) := by decide +kernel
theorem dX10_init_153 : decode cX10_init 153 = .ok (.bipush 114, 2) := by decide +kernel
theorem dX10_init_155 : decode cX10_init 155 = .ok (.castore, 1) := by decide +kernel
theorem dX10_init_156 : decode cX10_init 156 = .ok (.dup, 1) := by decide +kernel
theorem dX10_init_157 : decode cX10_init 157 = .ok (.bipush 7, 2) := by decide +kernel
theorem dX10_init_159 : decode cX10_init 159 = .ok (.bipush 111, 2) := by decide +kernel
theorem dX10_init_161 : decode cX10_init 161 = .ok (.castore, 1) := by decide +kernel
theorem dX10_init_162 : decode cX10_init 162 = .ok (.dup, 1) := by decide +kernel
theorem dX10_init_163 : decode cX10_init 163 = .ok (.bipush 8, 2) := by decide +kernel
theorem dX10_init_165 : decode cX10_init 165 = .ok (.bipush 117, 2) := by decide +kernel
theorem dX10_init_167 : decode cX10_init 167 = .ok (.castore, 1) := by decide +kernel
theorem dX10_init_168 : decode cX10_init 168 = .ok (.dup, 1) := by decide +kernel
theorem dX10_init_169 : decode cX10_init 169 = .ok (.bipush 9, 2) := by decide +kernel
theorem dX10_init_171 : decode cX10_init 171 = .ok (.bipush 110, 2) := by decide +kernel
theorem dX10_init_173 : decode cX10_init 173 = .ok (.castore, 1) := by decide +kernel
theorem dX10_init_174 : decode cX10_init 174 = .ok (.dup, 1) := by decide +kernel
theorem dX10_init_175 : decode cX10_init 175 = .ok (.bipush 10, 2) := by decide +kernel
theorem dX10_init_177 : decode cX10_init 177 = .ok (.bipush 100, 2) := by decide +kernel
theorem dX10_init_179 : decode cX10_init 179 = .ok (.castore, 1) := by decide +kernel
theorem dX10_init_180 : decode cX10_init 180 = .ok (.dup, 1) := by decide +kernel
theorem dX10_init_181 : decode cX10_init 181 = .ok (.bipush 11, 2) := by decide +kernel
theorem dX10_init_183 : decode cX10_init 183 = .ok (.bipush 32, 2) := by decide +kernel
theorem dX10_init_185 : decode cX10_init 185 = .ok (.castore, 1) := by decide +kernel
theorem dX10_init_186 : decode cX10_init 186 = .ok (.dup, 1) := by decide +kernel
theorem dX10_init_187 : decode cX10_init 187 = .ok (.bipush 12, 2) := by decide +kernel
theorem dX10_init_189 : decode cX10_init 189 = .ok (.bipush 98, 2) := by decide +kernel
theorem dX10_init_191 : decode cX10_init 191 = .ok (.castore, 1) := by decide +kernel
theorem dX10_init_192 : decode cX10_init 192 = .ok (.dup, 1) := by decide +kernel
theorem dX10_init_193 : decode cX10_init 193 = .ok (.bipush 13, 2) := by decide +kernel
theorem dX10_init_195 : decode cX10_init 195 = .ok (.bipush 111, 2) := by decide +kernel
theorem dX10_init_197 : decode cX10_init 197 = .ok (.castore, 1) := by decide +kernel
theorem dX10_init_198 : decode cX10_init 198 = .ok (.dup, 1) := by decide +kernel
theorem dX10_init_199 : decode cX10_init 199 = .ok (.bipush 14, 2) := by decide +kernel
theorem dX10_init_201 : decode cX10_init 201 = .ok (.bipush 114, 2) := by decide +kernel
theorem dX10_init_203 : decode cX10_init 203 = .ok (.castore, 1) := by decide +kernel
theorem dX10_init_204 : decode cX10_init 204 = .ok (.dup, 1) := by decide +kernel
theorem dX10_init_205 : decode cX10_init 205 = .ok (.bipush 15, 2) := by decide +kernel
theorem dX10_init_207 : decode cX10_init 207 = .ok (.bipush 100, 2) := by decide +kernel
theorem dX10_init_209 : decode cX10_init 209 = .ok (.castore, 1) := by decide +kernel
theorem dX10_init_210 : decode cX10_init 210 = .ok (.dup, 1) := by decide +kernel
theorem dX10_init_211 : decode cX10_init 211 = .ok (.bipush 16, 2) := by decide +kernel
theorem dX10_init_213 : decode cX10_init 213 = .ok (.bipush 101, 2) := by decide +kernel
theorem dX10_init_215 : decode cX10_init 215 = .ok (.castore, 1) := by decide +kernel
theorem dX10_init_216 : decode cX10_init 216 = .ok (.dup, 1) := by decide +kernel
theorem dX10_init_217 : decode cX10_init 217 = .ok (.bipush 17, 2) := by decide +kernel
theorem dX10_init_219 : decode cX10_init 219 = .ok (.bipush 114, 2) := by decide +kernel
theorem dX10_init_221 : decode cX10_init 221 = .ok (.castore, 1) := by decide +kernel
theorem dX10_init_222 : decode cX10_init 222 = .ok (.dup, 1) := by decide +kernel
theorem dX10_init_223 : decode cX10_init 223 = .ok (.bipush 18, 2) := by decide +kernel
theorem dX10_init_225 : decode cX10_init 225 = .ok (.bipush 32, 2) := by decide +kernel
theorem dX10_init_227 : decode cX10_init 227 = .ok (.castore, 1) := by decide +kernel
theorem dX10_init_228 : decode cX10_init 228 = .ok (.dup, 1) := by decide +kernel
theorem dX10_init_229 : decode cX10_init 229 = .ok (.bipush 19, 2) := by decide +kernel
theorem dX10_init_231 : decode cX10_init 231 = .ok (.bipush 112, 2) := by decide +kernel
theorem dX10_init_233 : decode cX10_init 233 = .ok (.castore, 1) := by decide +kernel
theorem dX10_init_234 : decode cX10_init 234 = .ok (.dup, 1) := by decide +kernel
theorem dX10_init_235 : decode cX10_init 235 = .ok (.bipush 20, 2) := by decide +kernel
theorem dX10_init_237 : decode cX10_init 237 = .ok (.bipush 97, 2) := by decide +kernel
theorem dX10_init_239 : decode cX10_init 239 = .ok (.castore, 1) := by decide +kernel
theorem dX10_init_240 : decode cX10_init 240 = .ok (.dup, 1) := by decide +kernel
theorem dX10_init_241 : decode cX10_init 241 = .ok (.bipush 21, 2) := by decide +kernel
theorem dX10_init_243 : decode cX10_init 243 = .ok (.bipush 115, 2) := by decide +kernel
theorem dX10_init_245 : decode cX10_init 245 = .ok (.castore, 1) := by decide +kernel
theorem dX10_init_246 : decode cX10_init 246 = .ok (.dup, 1) := by decide +kernel
theorem dX10_init_247 : decode cX10_init 247 = .ok (.bipush 22, 2) := by decide +kernel
theorem dX10_init_249 : decode cX10_init 249 = .ok (.bipush 115, 2) := by decide +kernel
theorem dX10_init_251 : decode cX10_init 251 = .ok (.castore, 1) := by decide +kernel
theorem dX10_init_252 : decode cX10_init 252 = .ok (.dup, 1) := by decide +kernel
theorem dX10_init_253 : decode cX10_init 253 = .ok (.bipush 23, 2) := by decide +kernel
theorem dX10_init_255 : decode cX10_init 255 = .ok (.bipush 32, 2) := by decide +kernel
theorem dX10_init_257 : decode cX10_init 257 = .ok (.castore, 1) := by decide +kernel
theorem dX10_init_258 : decode cX10_init 258 = .ok (.putfield 54, 3) := by decide +kernel
theorem dX10_init_261 : decode cX10_init 261 = .ok (.aload_n 0, 1) := by decide +kernel
theorem dX10_init_262 : decode cX10_init 262 = .ok (.iconst 5, 1) := by decide +kernel
theorem dX10_init_263 : decode cX10_init 263 = .ok (.newarray .int, 2) := by decide +kernel
theorem dX10_init_265 : decode cX10_init 265 = .ok (.dup, 1) := by decide +kernel
theorem dX10_init_266 : decode cX10_init 266 = .ok (.iconst 0, 1) := by decide +kernel
theorem dX10_init_267 : decode cX10_init 267 = .ok (.iconst 0, 1) := by decide +kernel
theorem dX10_init_268 : decode cX10_init 268 = .ok (.iastore, 1) := by decide +kernel
theorem dX10_init_269 : decode cX10_init 269 = .ok (.dup, 1) := by decide +kernel
theorem dX10_init_270 : decode cX10_init 270 = .ok (.iconst 1, 1) := by decide +kernel
theorem dX10_init_271 : decode cX10_init 271 = .ok (.iconst 5, 1) := by decide +kernel
theorem dX10_init_272 : decode cX10_init 272 = .ok (.iastore, 1) := by decide +kernel
theorem dX10_init_273 : decode cX10_init 273 = .ok (.dup, 1) := by decide +kernel
theorem dX10_init_274 : decode cX10_init 274 = .ok (.iconst 2, 1) := by decide +kernel
theorem dX10_init_275 : decode cX10_init 275 = .ok (.bipush 12, 2) := by decide +kernel
theorem dX10_init_277 : decode cX10_init 277 = .ok (.iastore, 1) := by decide +kernel
theorem dX10_init_278 : decode cX10_init 278 = .ok (.dup, 1) := by decide +kernel
theorem dX10_init_279 : decode cX10_init 279 = .ok (.iconst 3, 1) := by decide +kernel
theorem dX10_init_280 : decode cX10_init 280 = .ok (.bipush 19, 2) := by decide +kernel
theorem dX10_init_282 : decode cX10_init 282 = .ok (.iastore, 1) := by decide +kernel
theorem dX10_init_283 : decode cX10_init 283 = .ok (.dup, 1) := by decide +kernel
theorem dX10_init_284 : decode cX10_init 284 = .ok (.iconst 4, 1) := by decide +kernel
theorem dX10_init_285 : decode cX10_init 285 = .ok (.bipush 24, 2) := by decide +kernel
theorem dX10_init_287 : decode cX10_init 287 = .ok (.iastore, 1) := by decide +kernel
theorem dX10_init_288 : decode cX10_init 288 = .ok (.putfield 58, 3) := by decide +kernel
theorem dX10_init_291 : decode cX10_init 291 = .ok (.aload_n 0, 1) := by decide +kernel
theorem dX10_init_292 : decode cX10_init 292 = .ok (.sipush 244, 3) := by decide +kernel
theorem dX10_init_295 : decode cX10_init 295 = .ok (.newarray .int, 2) := by decide +kernel
theorem dX10_init_297 : decode cX10_init 297 = .ok (.putfield 61, 3) := by decide +kernel
theorem dX10_init_300 : decode cX10_init 300 = .ok (.aload_n 0, 1) := by decide +kernel
theorem dX10_init_301 : decode cX10_init 301 = .ok (.bipush 80, 2) := by decide +kernel
theorem dX10_init_303 : decode cX10_init 303 = .ok (.newarray .int, 2) := by decide +kernel
theorem dX10_init_305 : decode cX10_init 305 = .ok (.putfield 64, 3) := by decide +kernel
theorem dX10_init_308 : decode cX10_init 308 = .ok (.iconst 0, 1) := by decide +kernel
theorem dX10_init_309 : decode cX10_init 309 = .ok (.istore_n 1, 1) := by decide +kernel
theorem dX10_init_310 : decode cX10_init 310 = .ok (.iload_n 1, 1) := by decide +kernel
theorem dX10_init_311 : decode cX10_init 311 = .ok (.bipush 64, 2) := by decide +kernel
theorem dX10_init_313 : decode cX10_init 313 = .ok (.if_icmp .ge 21, 3) := by decide +kernel
theorem dX10_init_316 : decode cX10_init 316 = .ok (.aload_n 0, 1) := by decide +kernel
theorem dX10_init_317 : decode cX10_init 317 = .ok (.getfield 9, 3) := by decide +kernel
theorem dX10_init_320 : decode cX10_init 320 = .ok (.sipush 128, 3) := by decide +kernel
theorem dX10_init_323 : decode cX10_init 323 = .ok (.iload_n 1, 1) := by decide +kernel
theorem dX10_init_324 : decode cX10_init 324 = .ok (.iadd, 1) := by decide +kernel
theorem dX10_init_325 : decode cX10_init 325 = .ok (.bipush 46, 2) := by decide +kernel
theorem dX10_init_327 : decode cX10_init 327 = .ok (.iastore, 1) := by decide +kernel
theorem dX10_init_328 : decode cX10_init 328 = .ok (.iinc 1 1, 3) := by decide +kernel
theorem dX10_init_331 : decode cX10_init 331 = .ok (.goto (-21), 3) := by decide +kernel
theorem dX10_init_334 : decode cX10_init 334 = .ok (.return_, 1) := by decide +kernel
theorem dX10_thrown_0 : decode cX10_thrown 0 = .ok (.aload_n 0, 1) := by decide +kernel
theorem dX10_thrown_1 : decode cX10_thrown 1 = .ok (.getfield 67, 3) := by decide +kernel
theorem dX10_thrown_4 : decode cX10_thrown 4 = .ok (.ireturn, 1) := by decide +kernel
theorem dX10_throwing_0 : decode cX10_throwing 0 = .ok (.aload_n 0, 1) := by decide +kernel
theorem dX10_throwing_1 : decode cX10_throwing 1 = .ok (.iload_n 1, 1) := by decide +kernel
theorem dX10_throwing_2 : decode cX10_throwing 2 = .ok (.putfield 67, 3) := by decide +kernel
theorem dX10_throwing_5 : decode cX10_throwing 5 = .ok (.iconst (-1), 1) := by decide +kernel
theorem dX10_throwing_6 : decode cX10_throwing 6 = .ok (.ireturn, 1) := by decide +kernel
theorem dX10_refuses_0 : decode cX10_refuses 0 = .ok (.aload_n 0, 1) := by decide +kernel
theorem dX10_refuses_1 : decode cX10_refuses 1 = .ok (.iload_n 1, 1) := by decide +kernel
theorem dX10_refuses_2 : decode cX10_refuses 2 = .ok (.putfield 70, 3) := by decide +kernel
theorem dX10_refuses_5 : decode cX10_refuses 5 = .ok (.aload_n 0, 1) := by decide +kernel
theorem dX10_refuses_6 : decode cX10_refuses 6 = .ok (.iload_n 2, 1) := by decide +kernel
theorem dX10_refuses_7 : decode cX10_refuses 7 = .ok (.putfield 73, 3) := by decide +kernel
theorem dX10_refuses_10 : decode cX10_refuses 10 = .ok (.aload_n 0, 1) := by decide +kernel
theorem dX10_refuses_11 : decode cX10_refuses 11 = .ok (.iconst 3, 1) := by decide +kernel
theorem dX10_refuses_12 : decode cX10_refuses 12 = .ok (.invokevirtual 76, 3) := by decide +kernel
theorem dX10_refuses_15 : decode cX10_refuses 15 = .ok (.ireturn, 1) := by decide +kernel
theorem dX10_in_0 : decode cX10_in 0 = .ok (.lload_n 0, 1) := by decide +kernel
theorem dX10_in_1 : decode cX10_in 1 = .ok (.lload_n 2, 1) := by decide +kernel
theorem dX10_in_2 : decode cX10_in 2 = .ok (.lcmp, 1) := by decide +kernel
theorem dX10_in_3 : decode cX10_in 3 = .ok (.ifCond .lt 14, 3) := by decide +kernel
theorem dX10_in_6 : decode cX10_in 6 = .ok (.lload_n 0, 1) := by decide +kernel
theorem dX10_in_7 : decode cX10_in 7 = .ok (.lload 4, 2) := by decide +kernel
theorem dX10_in_9 : decode cX10_in 9 = .ok (.lcmp, 1) := by decide +kernel
theorem dX10_in_10 : decode cX10_in 10 = .ok (.ifCond .gt 7, 3) := by decide +kernel
theorem dX10_in_13 : decode cX10_in 13 = .ok (.iconst 1, 1) := by decide +kernel
theorem dX10_in_14 : decode cX10_in 14 = .ok (.goto 4, 3) := by decide +kernel
theorem dX10_in_17 : decode cX10_in 17 = .ok (.iconst 0, 1) := by decide +kernel
theorem dX10_in_18 : decode cX10_in 18 = .ok (.ireturn, 1) := by decide +kernel
theorem dX10_starts_0 : decode cX10_starts 0 = .ok (.aload_n 0, 1) := by decide +kernel
theorem dX10_starts_1 : decode cX10_starts 1 = .ok (.iconst 0, 1) := by decide +kernel
theorem dX10_starts_2 : decode cX10_starts 2 = .ok (.putfield 67, 3) := by decide +kernel
theorem dX10_starts_5 : decode cX10_starts 5 = .ok (.iconst 0, 1) := by decide +kernel
theorem dX10_starts_6 : decode cX10_starts 6 = .ok (.istore_n 1, 1) := by decide +kernel
theorem dX10_starts_7 : decode cX10_starts 7 = .ok (.iload_n 1, 1) := by decide +kernel
theorem dX10_starts_8 : decode cX10_starts 8 = .ok (.sipush 202, 3) := by decide +kernel
theorem dX10_starts_11 : decode cX10_starts 11 = .ok (.if_icmp .ge 21, 3) := by decide +kernel
theorem dX10_starts_14 : decode cX10_starts 14 = .ok (.aload_n 0, 1) := by decide +kernel
theorem dX10_starts_15 : decode cX10_starts 15 = .ok (.getfield 13, 3) := by decide +kernel
theorem dX10_starts_18 : decode cX10_starts 18 = .ok (.iload_n 1, 1) := by decide +kernel
theorem dX10_starts_19 : decode cX10_starts 19 = .ok (.aload_n 0, 1) := by decide +kernel
theorem dX10_starts_20 : decode cX10_starts 20 = .ok (.getfield 9, 3) := by decide +kernel
theorem dX10_starts_23 : decode cX10_starts 23 = .ok (.iload_n 1, 1) := by decide +kernel
theorem dX10_starts_24 : decode cX10_starts 24 = .ok (.iaload, 1) := by decide +kernel
theorem dX10_starts_25 : decode cX10_starts 25 = .ok (.iastore, 1) := by decide +kernel
theorem dX10_starts_26 : decode cX10_starts 26 = .ok (.iinc 1 1, 3) := by decide +kernel
theorem dX10_starts_29 : decode cX10_starts 29 = .ok (.goto (-22), 3) := by decide +kernel
theorem dX10_starts_32 : decode cX10_starts 32 = .ok (.return_, 1) := by decide +kernel
theorem dX10_changed_0 : decode cX10_changed 0 = .ok (.aload_n 0, 1) := by decide +kernel
theorem dX10_changed_1 : decode cX10_changed 1 = .ok (.getfield 67, 3) := by decide +kernel
theorem dX10_changed_4 : decode cX10_changed 4 = .ok (.ifCond .le 5, 3) := by decide +kernel
theorem dX10_changed_7 : decode cX10_changed 7 = .ok (.iload_n 1, 1) := by decide +kernel
theorem dX10_changed_8 : decode cX10_changed 8 = .ok (.ireturn, 1) := by decide +kernel
theorem dX10_changed_9 : decode cX10_changed 9 = .ok (.aload_n 0, 1) := by decide +kernel
theorem dX10_changed_10 : decode cX10_changed 10 = .ok (.getfield 80, 3) := by decide +kernel
theorem dX10_changed_13 : decode cX10_changed 13 = .ok (.bipush 8, 2) := by decide +kernel
theorem dX10_changed_15 : decode cX10_changed 15 = .ok (.if_icmp .ne 44, 3) := by decide +kernel
theorem dX10_changed_18 : decode cX10_changed 18 = .ok (.iconst 0, 1) := by decide +kernel
theorem dX10_changed_19 : decode cX10_changed 19 = .ok (.istore_n 2, 1) := by decide +kernel
theorem dX10_changed_20 : decode cX10_changed 20 = .ok (.iload_n 2, 1) := by decide +kernel
theorem dX10_changed_21 : decode cX10_changed 21 = .ok (.sipush 1414, 3) := by decide +kernel
theorem dX10_changed_24 : decode cX10_changed 24 = .ok (.if_icmp .ge 25, 3) := by decide +kernel
theorem dX10_changed_27 : decode cX10_changed 27 = .ok (.aload_n 0, 1) := by decide +kernel
theorem dX10_changed_28 : decode cX10_changed 28 = .ok (.getfield 22, 3) := by decide +kernel
theorem dX10_changed_31 : decode cX10_changed 31 = .ok (.iload_n 2, 1) := by decide +kernel
theorem dX10_changed_32 : decode cX10_changed 32 = .ok (.aload_n 0, 1) := by decide +kernel
theorem dX10_changed_33 : decode cX10_changed 33 = .ok (.getfield 22, 3) := by decide +kernel
theorem dX10_changed_36 : decode cX10_changed 36 = .ok (.iload_n 2, 1) := by decide +kernel
theorem dX10_changed_37 : decode cX10_changed 37 = .ok (.sipush 202, 3) := by decide +kernel
theorem dX10_changed_40 : decode cX10_changed 40 = .ok (.iadd, 1) := by decide +kernel
theorem dX10_changed_41 : decode cX10_changed 41 = .ok (.iaload, 1) := by decide +kernel
theorem dX10_changed_42 : decode cX10_changed 42 = .ok (.iastore, 1) := by decide +kernel
theorem dX10_changed_43 : decode cX10_changed 43 = .ok (.iinc 2 1, 3) := by decide +kernel
theorem dX10_changed_46 : decode cX10_changed 46 = .ok (.goto (-26), 3) := by decide +kernel
theorem dX10_changed_49 : decode cX10_changed 49 = .ok (.aload_n 0, 1) := by decide +kernel
theorem dX10_changed_50 : decode cX10_changed 50 = .ok (.dup, 1) := by decide +kernel
theorem dX10_changed_51 : decode cX10_changed 51 = .ok (.getfield 80, 3) := by decide +kernel
theorem dX10_changed_54 : decode cX10_changed 54 = .ok (.iconst 1, 1) := by decide +kernel
theorem dX10_changed_55 : decode cX10_changed 55 = .ok (.isub, 1) := by decide +kernel
theorem dX10_changed_56 : decode cX10_changed 56 = .ok (.putfield 80, 3) := by decide +kernel
theorem dX10_changed_59 : decode cX10_changed 59 = .ok (.iconst 0, 1) := by decide +kernel
theorem dX10_changed_60 : decode cX10_changed 60 = .ok (.istore_n 2, 1) := by decide +kernel
theorem dX10_changed_61 : decode cX10_changed 61 = .ok (.iload_n 2, 1) := by decide +kernel
theorem dX10_changed_62 : decode cX10_changed 62 = .ok (.sipush 202, 3) := by decide +kernel
theorem dX10_changed_65 : decode cX10_changed 65 = .ok (.if_icmp .ge 30, 3) := by decide +kernel
theorem dX10_changed_68 : decode cX10_changed 68 = .ok (.aload_n 0, 1) := by decide +kernel
theorem dX10_changed_69 : decode cX10_changed 69 = .ok (.getfield 22, 3) := by decide +kernel
theorem dX10_changed_72 : decode cX10_changed 72 = .ok (.sipush 202, 3) := by decide +kernel
theorem dX10_changed_75 : decode cX10_changed 75 = .ok (.aload_n 0, 1) := by decide +kernel
theorem dX10_changed_76 : decode cX10_changed 76 = .ok (.getfield 80, 3) := by decide +kernel
theorem dX10_changed_79 : decode cX10_changed 79 = .ok (.imul, 1) := by decide +kernel
theorem dX10_changed_80 : decode cX10_changed 80 = .ok (.iload_n 2, 1) := by decide +kernel
theorem dX10_changed_81 : decode cX10_changed 81 = .ok (.iadd, 1) := by decide +kernel
theorem dX10_changed_82 : decode cX10_changed 82 = .ok (.aload_n 0, 1) := by decide +kernel
theorem dX10_changed_83 : decode cX10_changed 83 = .ok (.getfield 13, 3) := by decide +kernel
theorem dX10_changed_86 : decode cX10_changed 86 = .ok (.iload_n 2, 1) := by decide +kernel
theorem dX10_changed_87 : decode cX10_changed 87 = .ok (.iaload, 1) := by decide +kernel
theorem dX10_changed_88 : decode cX10_changed 88 = .ok (.iastore, 1) := by decide +kernel
theorem dX10_changed_89 : decode cX10_changed 89 = .ok (.iinc 2 1, 3) := by decide +kernel
theorem dX10_changed_92 : decode cX10_changed 92 = .ok (.goto (-31), 3) := by decide +kernel
theorem dX10_changed_95 : decode cX10_changed 95 = .ok (.aload_n 0, 1) := by decide +kernel
theorem dX10_changed_96 : decode cX10_changed 96 = .ok (.dup, 1) := by decide +kernel
theorem dX10_changed_97 : decode cX10_changed 97 = .ok (.getfield 80, 3) := by decide +kernel
theorem dX10_changed_100 : decode cX10_changed 100 = .ok (.iconst 1, 1) := by decide +kernel
theorem dX10_changed_101 : decode cX10_changed 101 = .ok (.iadd, 1) := by decide +kernel
theorem dX10_changed_102 : decode cX10_changed 102 = .ok (.putfield 80, 3) := by decide +kernel
theorem dX10_changed_105 : decode cX10_changed 105 = .ok (.iload_n 1, 1) := by decide +kernel
theorem dX10_changed_106 : decode cX10_changed 106 = .ok (.ireturn, 1) := by decide +kernel
theorem dX10_isCell_0 : decode cX10_isCell 0 = .ok (.iload_n 0, 1) := by decide +kernel
theorem dX10_isCell_1 : decode cX10_isCell 1 = .ok (.i2l, 1) := by decide +kernel
theorem dX10_isCell_2 : decode cX10_isCell 2 = .ok (.lconst 0, 1) := by decide +kernel
theorem dX10_isCell_3 : decode cX10_isCell 3 = .ok (.ldc2_w 83, 3) := by decide +kernel
theorem dX10_isCell_6 : decode cX10_isCell 6 = .ok (.invokestatic 85, 3) := by decide +kernel
theorem dX10_isCell_9 : decode cX10_isCell 9 = .ok (.ifCond .eq 19, 3) := by decide +kernel
theorem dX10_isCell_12 : decode cX10_isCell 12 = .ok (.iload_n 1, 1) := by decide +kernel
theorem dX10_isCell_13 : decode cX10_isCell 13 = .ok (.i2l, 1) := by decide +kernel
theorem dX10_isCell_14 : decode cX10_isCell 14 = .ok (.lconst 0, 1) := by decide +kernel
theorem dX10_isCell_15 : decode cX10_isCell 15 = .ok (.ldc2_w 83, 3) := by decide +kernel
theorem dX10_isCell_18 : decode cX10_isCell 18 = .ok (.invokestatic 85, 3) := by decide +kernel
theorem dX10_isCell_21 : decode cX10_isCell 21 = .ok (.ifCond .eq 7, 3) := by decide +kernel
theorem dX10_isCell_24 : decode cX10_isCell 24 = .ok (.iconst 1, 1) := by decide +kernel
theorem dX10_isCell_25 : decode cX10_isCell 25 = .ok (.goto 4, 3) := by decide +kernel
theorem dX10_isCell_28 : decode cX10_isCell 28 = .ok (.iconst 0, 1) := by decide +kernel
theorem dX10_isCell_29 : decode cX10_isCell 29 = .ok (.ireturn, 1) := by decide +kernel
theorem dX10_isGround_0 : decode cX10_isGround 0 = .ok (.iload_n 0, 1) := by decide +kernel
theorem dX10_isGround_1 : decode cX10_isGround 1 = .ok (.bipush 46, 2) := by decide +kernel
theorem dX10_isGround_3 : decode cX10_isGround 3 = .ok (.if_icmp .eq 21, 3) := by decide +kernel
theorem dX10_isGround_6 : decode cX10_isGround 6 = .ok (.iload_n 0, 1) := by decide +kernel
theorem dX10_isGround_7 : decode cX10_isGround 7 = .ok (.bipush 58, 2) := by decide +kernel
theorem dX10_isGround_9 : decode cX10_isGround 9 = .ok (.if_icmp .eq 15, 3) := by decide +kernel
theorem dX10_isGround_12 : decode cX10_isGround 12 = .ok (.iload_n 0, 1) := by decide +kernel
theorem dX10_isGround_13 : decode cX10_isGround 13 = .ok (.bipush 126, 2) := by decide +kernel
theorem dX10_isGround_15 : decode cX10_isGround 15 = .ok (.if_icmp .eq 9, 3) := by decide +kernel
theorem dX10_isGround_18 : decode cX10_isGround 18 = .ok (.iload_n 0, 1) := by decide +kernel
theorem dX10_isGround_19 : decode cX10_isGround 19 = .ok (.bipush 35, 2) := by decide +kernel
theorem dX10_isGround_21 : decode cX10_isGround 21 = .ok (.if_icmp .ne 7, 3) := by decide +kernel
theorem dX10_isGround_24 : decode cX10_isGround 24 = .ok (.iconst 1, 1) := by decide +kernel
theorem dX10_isGround_25 : decode cX10_isGround 25 = .ok (.goto 4, 3) := by decide +kernel
theorem dX10_isGround_28 : decode cX10_isGround 28 = .ok (.iconst 0, 1) := by decide +kernel
theorem dX10_isGround_29 : decode cX10_isGround 29 = .ok (.ireturn, 1) := by decide +kernel
theorem dX10_isRock_0 : decode cX10_isRock 0 = .ok (.aload_n 0, 1) := by decide +kernel
theorem dX10_isRock_1 : decode cX10_isRock 1 = .ok (.getfield 9, 3) := by decide +kernel
theorem dX10_isRock_4 : decode cX10_isRock 4 = .ok (.sipush 128, 3) := by decide +kernel
theorem dX10_isRock_7 : decode cX10_isRock 7 = .ok (.iload_n 1, 1) := by decide +kernel
theorem dX10_isRock_8 : decode cX10_isRock 8 = .ok (.iadd, 1) := by decide +kernel
theorem dX10_isRock_9 : decode cX10_isRock 9 = .ok (.iaload, 1) := by decide +kernel
theorem dX10_isRock_10 : decode cX10_isRock 10 = .ok (.bipush 35, 2) := by decide +kernel
theorem dX10_isRock_12 : decode cX10_isRock 12 = .ok (.if_icmp .ne 7, 3) := by decide +kernel
theorem dX10_isRock_15 : decode cX10_isRock 15 = .ok (.iconst 1, 1) := by decide +kernel
theorem dX10_isRock_16 : decode cX10_isRock 16 = .ok (.goto 4, 3) := by decide +kernel
theorem dX10_isRock_19 : decode cX10_isRock 19 = .ok (.iconst 0, 1) := by decide +kernel
theorem dX10_isRock_20 : decode cX10_isRock 20 = .ok (.ireturn, 1) := by decide +kernel
theorem dX10_slow_0 : decode cX10_slow 0 = .ok (.aload_n 0, 1) := by decide +kernel
theorem dX10_slow_1 : decode cX10_slow 1 = .ok (.getfield 9, 3) := by decide +kernel
theorem dX10_slow_4 : decode cX10_slow 4 = .ok (.sipush 128, 3) := by decide +kernel
theorem dX10_slow_7 : decode cX10_slow 7 = .ok (.iload_n 1, 1) := by decide +kernel
theorem dX10_slow_8 : decode cX10_slow 8 = .ok (.iadd, 1) := by decide +kernel
theorem dX10_slow_9 : decode cX10_slow 9 = .ok (.iaload, 1) := by decide +kernel
theorem dX10_slow_10 : decode cX10_slow 10 = .ok (.bipush 58, 2) := by decide +kernel
theorem dX10_slow_12 : decode cX10_slow 12 = .ok (.if_icmp .ne 8, 3) := by decide +kernel
theorem dX10_slow_15 : decode cX10_slow 15 = .ok (.bipush 8, 2) := by decide +kernel
theorem dX10_slow_17 : decode cX10_slow 17 = .ok (.goto 23, 3) := by decide +kernel
theorem dX10_slow_20 : decode cX10_slow 20 = .ok (.aload_n 0, 1) := by decide +kernel
theorem dX10_slow_21 : decode cX10_slow 21 = .ok (.getfield 9, 3) := by decide +kernel
theorem dX10_slow_24 : decode cX10_slow 24 = .ok (.sipush 128, 3) := by decide +kernel
theorem dX10_slow_27 : decode cX10_slow 27 = .ok (.iload_n 1, 1) := by decide +kernel
theorem dX10_slow_28 : decode cX10_slow 28 = .ok (.iadd, 1) := by decide +kernel
theorem dX10_slow_29 : decode cX10_slow 29 = .ok (.iaload, 1) := by decide +kernel
theorem dX10_slow_30 : decode cX10_slow 30 = .ok (.bipush 126, 2) := by decide +kernel
theorem dX10_slow_32 : decode cX10_slow 32 = .ok (.if_icmp .ne 7, 3) := by decide +kernel
theorem dX10_slow_35 : decode cX10_slow 35 = .ok (.iconst 2, 1) := by decide +kernel
theorem dX10_slow_36 : decode cX10_slow 36 = .ok (.goto 4, 3) := by decide +kernel
theorem dX10_slow_39 : decode cX10_slow 39 = .ok (.iconst 4, 1) := by decide +kernel
theorem dX10_slow_40 : decode cX10_slow 40 = .ok (.ireturn, 1) := by decide +kernel
theorem dX10_beside_0 : decode cX10_beside 0 = .ok (.iload_n 0, 1) := by decide +kernel
theorem dX10_beside_1 : decode cX10_beside 1 = .ok (.bipush 8, 2) := by decide +kernel
theorem dX10_beside_3 : decode cX10_beside 3 = .ok (.irem, 1) := by decide +kernel
theorem dX10_beside_4 : decode cX10_beside 4 = .ok (.istore_n 2, 1) := by decide +kernel
theorem dX10_beside_5 : decode cX10_beside 5 = .ok (.iload_n 0, 1) := by decide +kernel
theorem dX10_beside_6 : decode cX10_beside 6 = .ok (.bipush 8, 2) := by decide +kernel
theorem dX10_beside_8 : decode cX10_beside 8 = .ok (.idiv, 1) := by decide +kernel
theorem dX10_beside_9 : decode cX10_beside 9 = .ok (.istore_n 3, 1) := by decide +kernel
theorem dX10_beside_10 : decode cX10_beside 10 = .ok (.iload_n 1, 1) := by decide +kernel
theorem dX10_beside_11 : decode cX10_beside 11 = .ok (.tableswitch 67 0 2 #[25, 38, 52], 25) := by decide +kernel
theorem dX10_beside_36 : decode cX10_beside 36 = .ok (.iload_n 3, 1) := by decide +kernel
theorem dX10_beside_37 : decode cX10_beside 37 = .ok (.ifCond .ne 7, 3) := by decide +kernel
theorem dX10_beside_40 : decode cX10_beside 40 = .ok (.iconst (-1), 1) := by decide +kernel
theorem dX10_beside_41 : decode cX10_beside 41 = .ok (.goto 7, 3) := by decide +kernel
theorem dX10_beside_44 : decode cX10_beside 44 = .ok (.iload_n 0, 1) := by decide +kernel
theorem dX10_beside_45 : decode cX10_beside 45 = .ok (.bipush 8, 2) := by decide +kernel
theorem dX10_beside_47 : decode cX10_beside 47 = .ok (.isub, 1) := by decide +kernel
theorem dX10_beside_48 : decode cX10_beside 48 = .ok (.ireturn, 1) := by decide +kernel
theorem dX10_beside_49 : decode cX10_beside 49 = .ok (.iload_n 2, 1) := by decide +kernel
theorem dX10_beside_50 : decode cX10_beside 50 = .ok (.bipush 7, 2) := by decide +kernel
theorem dX10_beside_52 : decode cX10_beside 52 = .ok (.if_icmp .ne 7, 3) := by decide +kernel
theorem dX10_beside_55 : decode cX10_beside 55 = .ok (.iconst (-1), 1) := by decide +kernel
theorem dX10_beside_56 : decode cX10_beside 56 = .ok (.goto 6, 3) := by decide +kernel
theorem dX10_beside_59 : decode cX10_beside 59 = .ok (.iload_n 0, 1) := by decide +kernel
theorem dX10_beside_60 : decode cX10_beside 60 = .ok (.iconst 1, 1) := by decide +kernel
theorem dX10_beside_61 : decode cX10_beside 61 = .ok (.iadd, 1) := by decide +kernel
theorem dX10_beside_62 : decode cX10_beside 62 = .ok (.ireturn, 1) := by decide +kernel
theorem dX10_beside_63 : decode cX10_beside 63 = .ok (.iload_n 3, 1) := by decide +kernel
theorem dX10_beside_64 : decode cX10_beside 64 = .ok (.bipush 7, 2) := by decide +kernel
theorem dX10_beside_66 : decode cX10_beside 66 = .ok (.if_icmp .ne 7, 3) := by decide +kernel
theorem dX10_beside_69 : decode cX10_beside 69 = .ok (.iconst (-1), 1) := by decide +kernel
theorem dX10_beside_70 : decode cX10_beside 70 = .ok (.goto 7, 3) := by decide +kernel
theorem dX10_beside_73 : decode cX10_beside 73 = .ok (.iload_n 0, 1) := by decide +kernel
theorem dX10_beside_74 : decode cX10_beside 74 = .ok (.bipush 8, 2) := by decide +kernel
theorem dX10_beside_76 : decode cX10_beside 76 = .ok (.iadd, 1) := by decide +kernel
theorem dX10_beside_77 : decode cX10_beside 77 = .ok (.ireturn, 1) := by decide +kernel
theorem dX10_beside_78 : decode cX10_beside 78 = .ok (.iload_n 2, 1) := by decide +kernel
theorem dX10_beside_79 : decode cX10_beside 79 = .ok (.ifCond .ne 7, 3) := by decide +kernel
theorem dX10_beside_82 : decode cX10_beside 82 = .ok (.iconst (-1), 1) := by decide +kernel
theorem dX10_beside_83 : decode cX10_beside 83 = .ok (.goto 6, 3) := by decide +kernel
theorem dX10_beside_86 : decode cX10_beside 86 = .ok (.iload_n 0, 1) := by decide +kernel
theorem dX10_beside_87 : decode cX10_beside 87 = .ok (.iconst 1, 1) := by decide +kernel
theorem dX10_beside_88 : decode cX10_beside 88 = .ok (.isub, 1) := by decide +kernel
theorem dX10_beside_89 : decode cX10_beside 89 = .ok (.ireturn, 1) := by decide +kernel
theorem dX10_isOf_0 : decode cX10_isOf 0 = .ok (.aload_n 0, 1) := by decide +kernel
theorem dX10_isOf_1 : decode cX10_isOf 1 = .ok (.getfield 9, 3) := by decide +kernel
theorem dX10_isOf_4 : decode cX10_isOf 4 = .ok (.iconst 0, 1) := by decide +kernel
theorem dX10_isOf_5 : decode cX10_isOf 5 = .ok (.iload_n 1, 1) := by decide +kernel
theorem dX10_isOf_6 : decode cX10_isOf 6 = .ok (.iadd, 1) := by decide +kernel
theorem dX10_isOf_7 : decode cX10_isOf 7 = .ok (.iaload, 1) := by decide +kernel
theorem dX10_isOf_8 : decode cX10_isOf 8 = .ok (.iload_n 2, 1) := by decide +kernel
theorem dX10_isOf_9 : decode cX10_isOf 9 = .ok (.if_icmp .lt 7, 3) := by decide +kernel
theorem dX10_isOf_12 : decode cX10_isOf 12 = .ok (.iconst 1, 1) := by decide +kernel
theorem dX10_isOf_13 : decode cX10_isOf 13 = .ok (.goto 4, 3) := by decide +kernel
theorem dX10_isOf_16 : decode cX10_isOf 16 = .ok (.iconst 0, 1) := by decide +kernel
theorem dX10_isOf_17 : decode cX10_isOf 17 = .ok (.ireturn, 1) := by decide +kernel
theorem dX10_flows_0 : decode cX10_flows 0 = .ok (.iconst 0, 1) := by decide +kernel
theorem dX10_flows_1 : decode cX10_flows 1 = .ok (.istore_n 1, 1) := by decide +kernel
theorem dX10_flows_2 : decode cX10_flows 2 = .ok (.iload_n 1, 1) := by decide +kernel
theorem dX10_flows_3 : decode cX10_flows 3 = .ok (.bipush 64, 2) := by decide +kernel
theorem dX10_flows_5 : decode cX10_flows 5 = .ok (.if_icmp .ge 23, 3) := by decide +kernel
theorem dX10_flows_8 : decode cX10_flows 8 = .ok (.aload_n 0, 1) := by decide +kernel
theorem dX10_flows_9 : decode cX10_flows 9 = .ok (.getfield 35, 3) := by decide +kernel
theorem dX10_flows_12 : decode cX10_flows 12 = .ok (.iload_n 1, 1) := by decide +kernel
theorem dX10_flows_13 : decode cX10_flows 13 = .ok (.aload_n 0, 1) := by decide +kernel
theorem dX10_flows_14 : decode cX10_flows 14 = .ok (.getfield 9, 3) := by decide +kernel
theorem dX10_flows_17 : decode cX10_flows 17 = .ok (.iconst 0, 1) := by decide +kernel
theorem dX10_flows_18 : decode cX10_flows 18 = .ok (.iload_n 1, 1) := by decide +kernel
theorem dX10_flows_19 : decode cX10_flows 19 = .ok (.iadd, 1) := by decide +kernel
theorem dX10_flows_20 : decode cX10_flows 20 = .ok (.iaload, 1) := by decide +kernel
theorem dX10_flows_21 : decode cX10_flows 21 = .ok (.iastore, 1) := by decide +kernel
theorem dX10_flows_22 : decode cX10_flows 22 = .ok (.iinc 1 1, 3) := by decide +kernel
theorem dX10_flows_25 : decode cX10_flows 25 = .ok (.goto (-23), 3) := by decide +kernel
theorem dX10_flows_28 : decode cX10_flows 28 = .ok (.iconst 0, 1) := by decide +kernel
theorem dX10_flows_29 : decode cX10_flows 29 = .ok (.istore_n 1, 1) := by decide +kernel
theorem dX10_flows_30 : decode cX10_flows 30 = .ok (.iload_n 1, 1) := by decide +kernel
theorem dX10_flows_31 : decode cX10_flows 31 = .ok (.bipush 64, 2) := by decide +kernel
theorem dX10_flows_33 : decode cX10_flows 33 = .ok (.if_icmp .ge 183, 3) := by decide +kernel
theorem dX10_flows_36 : decode cX10_flows 36 = .ok (.iconst 0, 1) := by decide +kernel
theorem dX10_flows_37 : decode cX10_flows 37 = .ok (.istore_n 2, 1) := by decide +kernel
theorem dX10_flows_38 : decode cX10_flows 38 = .ok (.iload_n 2, 1) := by decide +kernel
theorem dX10_flows_39 : decode cX10_flows 39 = .ok (.iconst 4, 1) := by decide +kernel
theorem dX10_flows_40 : decode cX10_flows 40 = .ok (.if_icmp .ge 170, 3) := by decide +kernel
theorem dX10_flows_43 : decode cX10_flows 43 = .ok (.aload_n 0, 1) := by decide +kernel
theorem dX10_flows_44 : decode cX10_flows 44 = .ok (.iload_n 1, 1) := by decide +kernel
theorem dX10_flows_45 : decode cX10_flows 45 = .ok (.invokevirtual 89, 3) := by decide +kernel
theorem dX10_flows_48 : decode cX10_flows 48 = .ok (.ifCond .ne 162, 3) := by decide +kernel
theorem dX10_flows_51 : decode cX10_flows 51 = .ok (.iload_n 1, 1) := by decide +kernel
theorem dX10_flows_52 : decode cX10_flows 52 = .ok (.iload_n 2, 1) := by decide +kernel
theorem dX10_flows_53 : decode cX10_flows 53 = .ok (.invokestatic 93, 3) := by decide +kernel
theorem dX10_flows_56 : decode cX10_flows 56 = .ok (.istore_n 3, 1) := by decide +kernel
theorem dX10_flows_57 : decode cX10_flows 57 = .ok (.iload_n 3, 1) := by decide +kernel
theorem dX10_flows_58 : decode cX10_flows 58 = .ok (.iconst (-1), 1) := by decide +kernel
theorem dX10_flows_59 : decode cX10_flows 59 = .ok (.if_icmp .ne 65, 3) := by decide +kernel
theorem dX10_flows_62 : decode cX10_flows 62 = .ok (.iconst 0, 1) := by decide +kernel
theorem dX10_flows_63 : decode cX10_flows 63 = .ok (.aload_n 0, 1) := by decide +kernel
theorem dX10_flows_64 : decode cX10_flows 64 = .ok (.getfield 9, 3) := by decide +kernel
theorem dX10_flows_67 : decode cX10_flows 67 = .ok (.iconst 0, 1) := by decide +kernel
theorem dX10_flows_68 : decode cX10_flows 68 = .ok (.iload_n 1, 1) := by decide +kernel
theorem dX10_flows_69 : decode cX10_flows 69 = .ok (.iadd, 1) := by decide +kernel
theorem dX10_flows_70 : decode cX10_flows 70 = .ok (.iaload, 1) := by decide +kernel
theorem dX10_flows_71 : decode cX10_flows 71 = .ok (.aload_n 0, 1) := by decide +kernel
theorem dX10_flows_72 : decode cX10_flows 72 = .ok (.getfield 9, 3) := by decide +kernel
theorem dX10_flows_75 : decode cX10_flows 75 = .ok (.sipush 192, 3) := by decide +kernel
theorem dX10_flows_78 : decode cX10_flows 78 = .ok (.iload_n 2, 1) := by decide +kernel
theorem dX10_flows_79 : decode cX10_flows 79 = .ok (.iadd, 1) := by decide +kernel
theorem dX10_flows_80 : decode cX10_flows 80 = .ok (.iaload, 1) := by decide +kernel
theorem dX10_flows_81 : decode cX10_flows 81 = .ok (.isub, 1) := by decide +kernel
theorem dX10_flows_82 : decode cX10_flows 82 = .ok (.invokestatic 97, 3) := by decide +kernel
theorem dX10_flows_85 : decode cX10_flows 85 = .ok (.iconst 2, 1) := by decide +kernel
theorem dX10_flows_86 : decode cX10_flows 86 = .ok (.aload_n 0, 1) := by decide +kernel
theorem dX10_flows_87 : decode cX10_flows 87 = .ok (.iload_n 1, 1) := by decide +kernel
theorem dX10_flows_88 : decode cX10_flows 88 = .ok (.invokevirtual 102, 3) := by decide +kernel
theorem dX10_flows_91 : decode cX10_flows 91 = .ok (.imul, 1) := by decide +kernel
theorem dX10_flows_92 : decode cX10_flows 92 = .ok (.idiv, 1) := by decide +kernel
theorem dX10_flows_93 : decode cX10_flows 93 = .ok (.istore 4, 2) := by decide +kernel
theorem dX10_flows_95 : decode cX10_flows 95 = .ok (.aload_n 0, 1) := by decide +kernel
theorem dX10_flows_96 : decode cX10_flows 96 = .ok (.getfield 35, 3) := by decide +kernel
theorem dX10_flows_99 : decode cX10_flows 99 = .ok (.iload_n 1, 1) := by decide +kernel
theorem dX10_flows_100 : decode cX10_flows 100 = .ok (.dup2, 1) := by decide +kernel
theorem dX10_flows_101 : decode cX10_flows 101 = .ok (.iaload, 1) := by decide +kernel
theorem dX10_flows_102 : decode cX10_flows 102 = .ok (.iload 4, 2) := by decide +kernel
theorem dX10_flows_104 : decode cX10_flows 104 = .ok (.isub, 1) := by decide +kernel
theorem dX10_flows_105 : decode cX10_flows 105 = .ok (.iastore, 1) := by decide +kernel
theorem dX10_flows_106 : decode cX10_flows 106 = .ok (.aload_n 0, 1) := by decide +kernel
theorem dX10_flows_107 : decode cX10_flows 107 = .ok (.getfield 9, 3) := by decide +kernel
theorem dX10_flows_110 : decode cX10_flows 110 = .ok (.sipush 196, 3) := by decide +kernel
theorem dX10_flows_113 : decode cX10_flows 113 = .ok (.iload_n 2, 1) := by decide +kernel
theorem dX10_flows_114 : decode cX10_flows 114 = .ok (.iadd, 1) := by decide +kernel
theorem dX10_flows_115 : decode cX10_flows 115 = .ok (.dup2, 1) := by decide +kernel
theorem dX10_flows_116 : decode cX10_flows 116 = .ok (.iaload, 1) := by decide +kernel
theorem dX10_flows_117 : decode cX10_flows 117 = .ok (.iload 4, 2) := by decide +kernel
theorem dX10_flows_119 : decode cX10_flows 119 = .ok (.iadd, 1) := by decide +kernel
theorem dX10_flows_120 : decode cX10_flows 120 = .ok (.iastore, 1) := by decide +kernel
theorem dX10_flows_121 : decode cX10_flows 121 = .ok (.goto 83, 3) := by decide +kernel
theorem dX10_flows_124 : decode cX10_flows 124 = .ok (.aload_n 0, 1) := by decide +kernel
theorem dX10_flows_125 : decode cX10_flows 125 = .ok (.iload_n 3, 1) := by decide +kernel
theorem dX10_flows_126 : decode cX10_flows 126 = .ok (.invokevirtual 89, 3) := by decide +kernel
theorem dX10_flows_129 : decode cX10_flows 129 = .ok (.ifCond .ne 75, 3) := by decide +kernel
theorem dX10_flows_132 : decode cX10_flows 132 = .ok (.aload_n 0, 1) := by decide +kernel
theorem dX10_flows_133 : decode cX10_flows 133 = .ok (.getfield 9, 3) := by decide +kernel
theorem dX10_flows_136 : decode cX10_flows 136 = .ok (.iconst 0, 1) := by decide +kernel
theorem dX10_flows_137 : decode cX10_flows 137 = .ok (.iload_n 1, 1) := by decide +kernel
theorem dX10_flows_138 : decode cX10_flows 138 = .ok (.iadd, 1) := by decide +kernel
theorem dX10_flows_139 : decode cX10_flows 139 = .ok (.iaload, 1) := by decide +kernel
theorem dX10_flows_140 : decode cX10_flows 140 = .ok (.aload_n 0, 1) := by decide +kernel
theorem dX10_flows_141 : decode cX10_flows 141 = .ok (.getfield 9, 3) := by decide +kernel
theorem dX10_flows_144 : decode cX10_flows 144 = .ok (.iconst 0, 1) := by decide +kernel
theorem dX10_flows_145 : decode cX10_flows 145 = .ok (.iload_n 3, 1) := by decide +kernel
theorem dX10_flows_146 : decode cX10_flows 146 = .ok (.iadd, 1) := by decide +kernel
theorem dX10_flows_147 : decode cX10_flows 147 = .ok (.iaload, 1) := by decide +kernel
theorem dX10_flows_148 : decode cX10_flows 148 = .ok (.if_icmp .le 56, 3) := by decide +kernel
theorem dX10_flows_151 : decode cX10_flows 151 = .ok (.aload_n 0, 1) := by decide +kernel
theorem dX10_flows_152 : decode cX10_flows 152 = .ok (.getfield 9, 3) := by decide +kernel
theorem dX10_flows_155 : decode cX10_flows 155 = .ok (.iconst 0, 1) := by decide +kernel
theorem dX10_flows_156 : decode cX10_flows 156 = .ok (.iload_n 1, 1) := by decide +kernel
theorem dX10_flows_157 : decode cX10_flows 157 = .ok (.iadd, 1) := by decide +kernel
theorem dX10_flows_158 : decode cX10_flows 158 = .ok (.iaload, 1) := by decide +kernel
theorem dX10_flows_159 : decode cX10_flows 159 = .ok (.aload_n 0, 1) := by decide +kernel
theorem dX10_flows_160 : decode cX10_flows 160 = .ok (.getfield 9, 3) := by decide +kernel
theorem dX10_flows_163 : decode cX10_flows 163 = .ok (.iconst 0, 1) := by decide +kernel
theorem dX10_flows_164 : decode cX10_flows 164 = .ok (.iload_n 3, 1) := by decide +kernel
theorem dX10_flows_165 : decode cX10_flows 165 = .ok (.iadd, 1) := by decide +kernel
theorem dX10_flows_166 : decode cX10_flows 166 = .ok (.iaload, 1) := by decide +kernel
theorem dX10_flows_167 : decode cX10_flows 167 = .ok (.isub, 1) := by decide +kernel
theorem dX10_flows_168 : decode cX10_flows 168 = .ok (.aload_n 0, 1) := by decide +kernel
theorem dX10_flows_169 : decode cX10_flows 169 = .ok (.iload_n 1, 1) := by decide +kernel
theorem dX10_flows_170 : decode cX10_flows 170 = .ok (.invokevirtual 102, 3) := by decide +kernel
theorem dX10_flows_173 : decode cX10_flows 173 = .ok (.aload_n 0, 1) := by decide +kernel
theorem dX10_flows_174 : decode cX10_flows 174 = .ok (.iload_n 3, 1) := by decide +kernel
theorem dX10_flows_175 : decode cX10_flows 175 = .ok (.invokevirtual 102, 3) := by decide +kernel
theorem dX10_flows_178 : decode cX10_flows 178 = .ok (.iadd, 1) := by decide +kernel
theorem dX10_flows_179 : decode cX10_flows 179 = .ok (.idiv, 1) := by decide +kernel
theorem dX10_flows_180 : decode cX10_flows 180 = .ok (.istore 4, 2) := by decide +kernel
theorem dX10_flows_182 : decode cX10_flows 182 = .ok (.aload_n 0, 1) := by decide +kernel
theorem dX10_flows_183 : decode cX10_flows 183 = .ok (.getfield 35, 3) := by decide +kernel
theorem dX10_flows_186 : decode cX10_flows 186 = .ok (.iload_n 1, 1) := by decide +kernel
theorem dX10_flows_187 : decode cX10_flows 187 = .ok (.dup2, 1) := by decide +kernel
theorem dX10_flows_188 : decode cX10_flows 188 = .ok (.iaload, 1) := by decide +kernel
theorem dX10_flows_189 : decode cX10_flows 189 = .ok (.iload 4, 2) := by decide +kernel
theorem dX10_flows_191 : decode cX10_flows 191 = .ok (.isub, 1) := by decide +kernel
theorem dX10_flows_192 : decode cX10_flows 192 = .ok (.iastore, 1) := by decide +kernel
theorem dX10_flows_193 : decode cX10_flows 193 = .ok (.aload_n 0, 1) := by decide +kernel
theorem dX10_flows_194 : decode cX10_flows 194 = .ok (.getfield 35, 3) := by decide +kernel
theorem dX10_flows_197 : decode cX10_flows 197 = .ok (.iload_n 3, 1) := by decide +kernel
theorem dX10_flows_198 : decode cX10_flows 198 = .ok (.dup2, 1) := by decide +kernel
theorem dX10_flows_199 : decode cX10_flows 199 = .ok (.iaload, 1) := by decide +kernel
theorem dX10_flows_200 : decode cX10_flows 200 = .ok (.iload 4, 2) := by decide +kernel
theorem dX10_flows_202 : decode cX10_flows 202 = .ok (.iadd, 1) := by decide +kernel
theorem dX10_flows_203 : decode cX10_flows 203 = .ok (.iastore, 1) := by decide +kernel
theorem dX10_flows_204 : decode cX10_flows 204 = .ok (.iinc 2 1, 3) := by decide +kernel
theorem dX10_flows_207 : decode cX10_flows 207 = .ok (.goto (-169), 3) := by decide +kernel
theorem dX10_flows_210 : decode cX10_flows 210 = .ok (.iinc 1 1, 3) := by decide +kernel
theorem dX10_flows_213 : decode cX10_flows 213 = .ok (.goto (-183), 3) := by decide +kernel
theorem dX10_flows_216 : decode cX10_flows 216 = .ok (.iconst 0, 1) := by decide +kernel
theorem dX10_flows_217 : decode cX10_flows 217 = .ok (.istore_n 1, 1) := by decide +kernel
theorem dX10_flows_218 : decode cX10_flows 218 = .ok (.iload_n 1, 1) := by decide +kernel
theorem dX10_flows_219 : decode cX10_flows 219 = .ok (.bipush 64, 2) := by decide +kernel
theorem dX10_flows_221 : decode cX10_flows 221 = .ok (.if_icmp .ge 23, 3) := by decide +kernel
theorem dX10_flows_224 : decode cX10_flows 224 = .ok (.aload_n 0, 1) := by decide +kernel
theorem dX10_flows_225 : decode cX10_flows 225 = .ok (.getfield 9, 3) := by decide +kernel
theorem dX10_flows_228 : decode cX10_flows 228 = .ok (.iconst 0, 1) := by decide +kernel
theorem dX10_flows_229 : decode cX10_flows 229 = .ok (.iload_n 1, 1) := by decide +kernel
theorem dX10_flows_230 : decode cX10_flows 230 = .ok (.iadd, 1) := by decide +kernel
theorem dX10_flows_231 : decode cX10_flows 231 = .ok (.aload_n 0, 1) := by decide +kernel
theorem dX10_flows_232 : decode cX10_flows 232 = .ok (.getfield 35, 3) := by decide +kernel
theorem dX10_flows_235 : decode cX10_flows 235 = .ok (.iload_n 1, 1) := by decide +kernel
theorem dX10_flows_236 : decode cX10_flows 236 = .ok (.iaload, 1) := by decide +kernel
theorem dX10_flows_237 : decode cX10_flows 237 = .ok (.iastore, 1) := by decide +kernel
theorem dX10_flows_238 : decode cX10_flows 238 = .ok (.iinc 1 1, 3) := by decide +kernel
theorem dX10_flows_241 : decode cX10_flows 241 = .ok (.goto (-23), 3) := by decide +kernel
theorem dX10_flows_244 : decode cX10_flows 244 = .ok (.return_, 1) := by decide +kernel
theorem dX10_passesTick_0 : decode cX10_passesTick 0 = .ok (.aload_n 0, 1) := by decide +kernel
theorem dX10_passesTick_1 : decode cX10_passesTick 1 = .ok (.getfield 9, 3) := by decide +kernel
theorem dX10_passesTick_4 : decode cX10_passesTick 4 = .ok (.sipush 200, 3) := by decide +kernel
theorem dX10_passesTick_7 : decode cX10_passesTick 7 = .ok (.dup2, 1) := by decide +kernel
theorem dX10_passesTick_8 : decode cX10_passesTick 8 = .ok (.iaload, 1) := by decide +kernel
theorem dX10_passesTick_9 : decode cX10_passesTick 9 = .ok (.iconst 1, 1) := by decide +kernel
theorem dX10_passesTick_10 : decode cX10_passesTick 10 = .ok (.iadd, 1) := by decide +kernel
theorem dX10_passesTick_11 : decode cX10_passesTick 11 = .ok (.iastore, 1) := by decide +kernel
theorem dX10_passesTick_12 : decode cX10_passesTick 12 = .ok (.aload_n 0, 1) := by decide +kernel
theorem dX10_passesTick_13 : decode cX10_passesTick 13 = .ok (.invokevirtual 105, 3) := by decide +kernel
theorem dX10_passesTick_16 : decode cX10_passesTick 16 = .ok (.iconst 0, 1) := by decide +kernel
theorem dX10_passesTick_17 : decode cX10_passesTick 17 = .ok (.istore_n 1, 1) := by decide +kernel
theorem dX10_passesTick_18 : decode cX10_passesTick 18 = .ok (.iload_n 1, 1) := by decide +kernel
theorem dX10_passesTick_19 : decode cX10_passesTick 19 = .ok (.bipush 64, 2) := by decide +kernel
theorem dX10_passesTick_21 : decode cX10_passesTick 21 = .ok (.if_icmp .ge 50, 3) := by decide +kernel
theorem dX10_passesTick_24 : decode cX10_passesTick 24 = .ok (.aload_n 0, 1) := by decide +kernel
theorem dX10_passesTick_25 : decode cX10_passesTick 25 = .ok (.getfield 9, 3) := by decide +kernel
theorem dX10_passesTick_28 : decode cX10_passesTick 28 = .ok (.iconst 0, 1) := by decide +kernel
theorem dX10_passesTick_29 : decode cX10_passesTick 29 = .ok (.iload_n 1, 1) := by decide +kernel
theorem dX10_passesTick_30 : decode cX10_passesTick 30 = .ok (.iadd, 1) := by decide +kernel
theorem dX10_passesTick_31 : decode cX10_passesTick 31 = .ok (.iaload, 1) := by decide +kernel
theorem dX10_passesTick_32 : decode cX10_passesTick 32 = .ok (.sipush 700, 3) := by decide +kernel
theorem dX10_passesTick_35 : decode cX10_passesTick 35 = .ok (.if_icmp .lt 30, 3) := by decide +kernel
theorem dX10_passesTick_38 : decode cX10_passesTick 38 = .ok (.aload_n 0, 1) := by decide +kernel
theorem dX10_passesTick_39 : decode cX10_passesTick 39 = .ok (.getfield 9, 3) := by decide +kernel
theorem dX10_passesTick_42 : decode cX10_passesTick 42 = .ok (.iconst 0, 1) := by decide +kernel
theorem dX10_passesTick_43 : decode cX10_passesTick 43 = .ok (.iload_n 1, 1) := by decide +kernel
theorem dX10_passesTick_44 : decode cX10_passesTick 44 = .ok (.iadd, 1) := by decide +kernel
theorem dX10_passesTick_45 : decode cX10_passesTick 45 = .ok (.dup2, 1) := by decide +kernel
theorem dX10_passesTick_46 : decode cX10_passesTick 46 = .ok (.iaload, 1) := by decide +kernel
theorem dX10_passesTick_47 : decode cX10_passesTick 47 = .ok (.bipush 100, 2) := by decide +kernel
theorem dX10_passesTick_49 : decode cX10_passesTick 49 = .ok (.isub, 1) := by decide +kernel
theorem dX10_passesTick_50 : decode cX10_passesTick 50 = .ok (.iastore, 1) := by decide +kernel
theorem dX10_passesTick_51 : decode cX10_passesTick 51 = .ok (.aload_n 0, 1) := by decide +kernel
theorem dX10_passesTick_52 : decode cX10_passesTick 52 = .ok (.getfield 9, 3) := by decide +kernel
theorem dX10_passesTick_55 : decode cX10_passesTick 55 = .ok (.bipush 64, 2) := by decide +kernel
theorem dX10_passesTick_57 : decode cX10_passesTick 57 = .ok (.iload_n 1, 1) := by decide +kernel
theorem dX10_passesTick_58 : decode cX10_passesTick 58 = .ok (.iadd, 1) := by decide +kernel
theorem dX10_passesTick_59 : decode cX10_passesTick 59 = .ok (.dup2, 1) := by decide +kernel
theorem dX10_passesTick_60 : decode cX10_passesTick 60 = .ok (.iaload, 1) := by decide +kernel
theorem dX10_passesTick_61 : decode cX10_passesTick 61 = .ok (.bipush 100, 2) := by decide +kernel
theorem dX10_passesTick_63 : decode cX10_passesTick 63 = .ok (.iadd, 1) := by decide +kernel
theorem dX10_passesTick_64 : decode cX10_passesTick 64 = .ok (.iastore, 1) := by decide +kernel
theorem dX10_passesTick_65 : decode cX10_passesTick 65 = .ok (.iinc 1 1, 3) := by decide +kernel
theorem dX10_passesTick_68 : decode cX10_passesTick 68 = .ok (.goto (-50), 3) := by decide +kernel
theorem dX10_passesTick_71 : decode cX10_passesTick 71 = .ok (.iconst 0, 1) := by decide +kernel
theorem dX10_passesTick_72 : decode cX10_passesTick 72 = .ok (.istore_n 1, 1) := by decide +kernel
theorem dX10_passesTick_73 : decode cX10_passesTick 73 = .ok (.iload_n 1, 1) := by decide +kernel
theorem dX10_passesTick_74 : decode cX10_passesTick 74 = .ok (.bipush 64, 2) := by decide +kernel
theorem dX10_passesTick_76 : decode cX10_passesTick 76 = .ok (.if_icmp .ge 103, 3) := by decide +kernel
theorem dX10_passesTick_79 : decode cX10_passesTick 79 = .ok (.iconst 0, 1) := by decide +kernel
theorem dX10_passesTick_80 : decode cX10_passesTick 80 = .ok (.istore_n 2, 1) := by decide +kernel
theorem dX10_passesTick_81 : decode cX10_passesTick 81 = .ok (.iconst 0, 1) := by decide +kernel
theorem dX10_passesTick_82 : decode cX10_passesTick 82 = .ok (.istore_n 3, 1) := by decide +kernel
theorem dX10_passesTick_83 : decode cX10_passesTick 83 = .ok (.iload_n 3, 1) := by decide +kernel
theorem dX10_passesTick_84 : decode cX10_passesTick 84 = .ok (.iconst 4, 1) := by decide +kernel
theorem dX10_passesTick_85 : decode cX10_passesTick 85 = .ok (.if_icmp .ge 47, 3) := by decide +kernel
theorem dX10_passesTick_88 : decode cX10_passesTick 88 = .ok (.iload_n 1, 1) := by decide +kernel
theorem dX10_passesTick_89 : decode cX10_passesTick 89 = .ok (.iload_n 3, 1) := by decide +kernel
theorem dX10_passesTick_90 : decode cX10_passesTick 90 = .ok (.invokestatic 93, 3) := by decide +kernel
theorem dX10_passesTick_93 : decode cX10_passesTick 93 = .ok (.istore 4, 2) := by decide +kernel
theorem dX10_passesTick_95 : decode cX10_passesTick 95 = .ok (.iload_n 2, 1) := by decide +kernel
theorem dX10_passesTick_96 : decode cX10_passesTick 96 = .ok (.ifCond .ne 24, 3) := by decide +kernel
theorem dX10_passesTick_99 : decode cX10_passesTick 99 = .ok (.iload 4, 2) := by decide +kernel
theorem dX10_passesTick_101 : decode cX10_passesTick 101 = .ok (.iconst (-1), 1) := by decide +kernel
theorem dX10_passesTick_102 : decode cX10_passesTick 102 = .ok (.if_icmp .eq 22, 3) := by decide +kernel
theorem dX10_passesTick_105 : decode cX10_passesTick 105 = .ok (.aload_n 0, 1) := by decide +kernel
theorem dX10_passesTick_106 : decode cX10_passesTick 106 = .ok (.getfield 9, 3) := by decide +kernel
theorem dX10_passesTick_109 : decode cX10_passesTick 109 = .ok (.iconst 0, 1) := by decide +kernel
theorem dX10_passesTick_110 : decode cX10_passesTick 110 = .ok (.iload 4, 2) := by decide +kernel
theorem dX10_passesTick_112 : decode cX10_passesTick 112 = .ok (.iadd, 1) := by decide +kernel
theorem dX10_passesTick_113 : decode cX10_passesTick 113 = .ok (.iaload, 1) := by decide +kernel
theorem dX10_passesTick_114 : decode cX10_passesTick 114 = .ok (.sipush 500, 3) := by decide +kernel
theorem dX10_passesTick_117 : decode cX10_passesTick 117 = .ok (.if_icmp .lt 7, 3) := by decide +kernel
theorem dX10_passesTick_120 : decode cX10_passesTick 120 = .ok (.iconst 1, 1) := by decide +kernel
theorem dX10_passesTick_121 : decode cX10_passesTick 121 = .ok (.goto 4, 3) := by decide +kernel
theorem dX10_passesTick_124 : decode cX10_passesTick 124 = .ok (.iconst 0, 1) := by decide +kernel
theorem dX10_passesTick_125 : decode cX10_passesTick 125 = .ok (.istore_n 2, 1) := by decide +kernel
theorem dX10_passesTick_126 : decode cX10_passesTick 126 = .ok (.iinc 3 1, 3) := by decide +kernel
theorem dX10_passesTick_129 : decode cX10_passesTick 129 = .ok (.goto (-46), 3) := by decide +kernel
theorem dX10_passesTick_132 : decode cX10_passesTick 132 = .ok (.aload_n 0, 1) := by decide +kernel
theorem dX10_passesTick_133 : decode cX10_passesTick 133 = .ok (.getfield 38, 3) := by decide +kernel
theorem dX10_passesTick_136 : decode cX10_passesTick 136 = .ok (.iload_n 1, 1) := by decide +kernel
theorem dX10_passesTick_137 : decode cX10_passesTick 137 = .ok (.iload_n 2, 1) := by decide +kernel
theorem dX10_passesTick_138 : decode cX10_passesTick 138 = .ok (.ifCond .eq 33, 3) := by decide +kernel
theorem dX10_passesTick_141 : decode cX10_passesTick 141 = .ok (.aload_n 0, 1) := by decide +kernel
theorem dX10_passesTick_142 : decode cX10_passesTick 142 = .ok (.getfield 9, 3) := by decide +kernel
theorem dX10_passesTick_145 : decode cX10_passesTick 145 = .ok (.bipush 64, 2) := by decide +kernel
theorem dX10_passesTick_147 : decode cX10_passesTick 147 = .ok (.iload_n 1, 1) := by decide +kernel
theorem dX10_passesTick_148 : decode cX10_passesTick 148 = .ok (.iadd, 1) := by decide +kernel
theorem dX10_passesTick_149 : decode cX10_passesTick 149 = .ok (.iaload, 1) := by decide +kernel
theorem dX10_passesTick_150 : decode cX10_passesTick 150 = .ok (.ifCond .le 21, 3) := by decide +kernel
theorem dX10_passesTick_153 : decode cX10_passesTick 153 = .ok (.aload_n 0, 1) := by decide +kernel
theorem dX10_passesTick_154 : decode cX10_passesTick 154 = .ok (.getfield 9, 3) := by decide +kernel
theorem dX10_passesTick_157 : decode cX10_passesTick 157 = .ok (.iconst 0, 1) := by decide +kernel
theorem dX10_passesTick_158 : decode cX10_passesTick 158 = .ok (.iload_n 1, 1) := by decide +kernel
theorem dX10_passesTick_159 : decode cX10_passesTick 159 = .ok (.iadd, 1) := by decide +kernel
theorem dX10_passesTick_160 : decode cX10_passesTick 160 = .ok (.iaload, 1) := by decide +kernel
theorem dX10_passesTick_161 : decode cX10_passesTick 161 = .ok (.sipush 300, 3) := by decide +kernel
theorem dX10_passesTick_164 : decode cX10_passesTick 164 = .ok (.if_icmp .ge 7, 3) := by decide +kernel
theorem dX10_passesTick_167 : decode cX10_passesTick 167 = .ok (.iconst 1, 1) := by decide +kernel
theorem dX10_passesTick_168 : decode cX10_passesTick 168 = .ok (.goto 4, 3) := by decide +kernel
theorem dX10_passesTick_171 : decode cX10_passesTick 171 = .ok (.iconst 0, 1) := by decide +kernel
theorem dX10_passesTick_172 : decode cX10_passesTick 172 = .ok (.bastore, 1) := by decide +kernel
theorem dX10_passesTick_173 : decode cX10_passesTick 173 = .ok (.iinc 1 1, 3) := by decide +kernel
theorem dX10_passesTick_176 : decode cX10_passesTick 176 = .ok (.goto (-103), 3) := by decide +kernel
theorem dX10_passesTick_179 : decode cX10_passesTick 179 = .ok (.iconst 0, 1) := by decide +kernel
theorem dX10_passesTick_180 : decode cX10_passesTick 180 = .ok (.istore_n 1, 1) := by decide +kernel
theorem dX10_passesTick_181 : decode cX10_passesTick 181 = .ok (.iconst 0, 1) := by decide +kernel
theorem dX10_passesTick_182 : decode cX10_passesTick 182 = .ok (.istore_n 2, 1) := by decide +kernel
theorem dX10_passesTick_183 : decode cX10_passesTick 183 = .ok (.iload_n 2, 1) := by decide +kernel
theorem dX10_passesTick_184 : decode cX10_passesTick 184 = .ok (.bipush 64, 2) := by decide +kernel
theorem dX10_passesTick_186 : decode cX10_passesTick 186 = .ok (.if_icmp .ge 51, 3) := by decide +kernel
theorem dX10_passesTick_189 : decode cX10_passesTick 189 = .ok (.aload_n 0, 1) := by decide +kernel
theorem dX10_passesTick_190 : decode cX10_passesTick 190 = .ok (.getfield 38, 3) := by decide +kernel
theorem dX10_passesTick_193 : decode cX10_passesTick 193 = .ok (.iload_n 2, 1) := by decide +kernel
theorem dX10_passesTick_194 : decode cX10_passesTick 194 = .ok (.baload, 1) := by decide +kernel
theorem dX10_passesTick_195 : decode cX10_passesTick 195 = .ok (.ifCond .eq 36, 3) := by decide +kernel
theorem dX10_passesTick_198 : decode cX10_passesTick 198 = .ok (.aload_n 0, 1) := by decide +kernel
theorem dX10_passesTick_199 : decode cX10_passesTick 199 = .ok (.getfield 9, 3) := by decide +kernel
theorem dX10_passesTick_202 : decode cX10_passesTick 202 = .ok (.iconst 0, 1) := by decide +kernel
theorem dX10_passesTick_203 : decode cX10_passesTick 203 = .ok (.iload_n 2, 1) := by decide +kernel
theorem dX10_passesTick_204 : decode cX10_passesTick 204 = .ok (.iadd, 1) := by decide +kernel
theorem dX10_passesTick_205 : decode cX10_passesTick 205 = .ok (.dup2, 1) := by decide +kernel
theorem dX10_passesTick_206 : decode cX10_passesTick 206 = .ok (.iaload, 1) := by decide +kernel
theorem dX10_passesTick_207 : decode cX10_passesTick 207 = .ok (.aload_n 0, 1) := by decide +kernel
theorem dX10_passesTick_208 : decode cX10_passesTick 208 = .ok (.getfield 9, 3) := by decide +kernel
theorem dX10_passesTick_211 : decode cX10_passesTick 211 = .ok (.bipush 64, 2) := by decide +kernel
theorem dX10_passesTick_213 : decode cX10_passesTick 213 = .ok (.iload_n 2, 1) := by decide +kernel
theorem dX10_passesTick_214 : decode cX10_passesTick 214 = .ok (.iadd, 1) := by decide +kernel
theorem dX10_passesTick_215 : decode cX10_passesTick 215 = .ok (.iaload, 1) := by decide +kernel
theorem dX10_passesTick_216 : decode cX10_passesTick 216 = .ok (.iadd, 1) := by decide +kernel
theorem dX10_passesTick_217 : decode cX10_passesTick 217 = .ok (.iastore, 1) := by decide +kernel
theorem dX10_passesTick_218 : decode cX10_passesTick 218 = .ok (.aload_n 0, 1) := by decide +kernel
theorem dX10_passesTick_219 : decode cX10_passesTick 219 = .ok (.getfield 9, 3) := by decide +kernel
theorem dX10_passesTick_222 : decode cX10_passesTick 222 = .ok (.bipush 64, 2) := by decide +kernel
theorem dX10_passesTick_224 : decode cX10_passesTick 224 = .ok (.iload_n 2, 1) := by decide +kernel
theorem dX10_passesTick_225 : decode cX10_passesTick 225 = .ok (.iadd, 1) := by decide +kernel
theorem dX10_passesTick_226 : decode cX10_passesTick 226 = .ok (.iconst 0, 1) := by decide +kernel
theorem dX10_passesTick_227 : decode cX10_passesTick 227 = .ok (.iastore, 1) := by decide +kernel
theorem dX10_passesTick_228 : decode cX10_passesTick 228 = .ok (.iinc 1 1, 3) := by decide +kernel
theorem dX10_passesTick_231 : decode cX10_passesTick 231 = .ok (.iinc 2 1, 3) := by decide +kernel
theorem dX10_passesTick_234 : decode cX10_passesTick 234 = .ok (.goto (-51), 3) := by decide +kernel
theorem dX10_passesTick_237 : decode cX10_passesTick 237 = .ok (.aload_n 0, 1) := by decide +kernel
theorem dX10_passesTick_238 : decode cX10_passesTick 238 = .ok (.getfield 9, 3) := by decide +kernel
theorem dX10_passesTick_241 : decode cX10_passesTick 241 = .ok (.sipush 201, 3) := by decide +kernel
theorem dX10_passesTick_244 : decode cX10_passesTick 244 = .ok (.dup2, 1) := by decide +kernel
theorem dX10_passesTick_245 : decode cX10_passesTick 245 = .ok (.iaload, 1) := by decide +kernel
theorem dX10_passesTick_246 : decode cX10_passesTick 246 = .ok (.iload_n 1, 1) := by decide +kernel
theorem dX10_passesTick_247 : decode cX10_passesTick 247 = .ok (.iadd, 1) := by decide +kernel
theorem dX10_passesTick_248 : decode cX10_passesTick 248 = .ok (.iastore, 1) := by decide +kernel
theorem dX10_passesTick_249 : decode cX10_passesTick 249 = .ok (.iload_n 1, 1) := by decide +kernel
theorem dX10_passesTick_250 : decode cX10_passesTick 250 = .ok (.ireturn, 1) := by decide +kernel
theorem dX10_groundIt_0 : decode cX10_groundIt 0 = .ok (.iload_n 1, 1) := by decide +kernel
theorem dX10_groundIt_1 : decode cX10_groundIt 1 = .ok (.iload_n 2, 1) := by decide +kernel
theorem dX10_groundIt_2 : decode cX10_groundIt 2 = .ok (.invokestatic 108, 3) := by decide +kernel
theorem dX10_groundIt_5 : decode cX10_groundIt 5 = .ok (.ifCond .ne 9, 3) := by decide +kernel
theorem dX10_groundIt_8 : decode cX10_groundIt 8 = .ok (.aload_n 0, 1) := by decide +kernel
theorem dX10_groundIt_9 : decode cX10_groundIt 9 = .ok (.iconst 1, 1) := by decide +kernel
theorem dX10_groundIt_10 : decode cX10_groundIt 10 = .ok (.invokevirtual 76, 3) := by decide +kernel
theorem dX10_groundIt_13 : decode cX10_groundIt 13 = .ok (.ireturn, 1) := by decide +kernel
theorem dX10_groundIt_14 : decode cX10_groundIt 14 = .ok (.iload_n 3, 1) := by decide +kernel
theorem dX10_groundIt_15 : decode cX10_groundIt 15 = .ok (.invokestatic 112, 3) := by decide +kernel
theorem dX10_groundIt_18 : decode cX10_groundIt 18 = .ok (.ifCond .ne 9, 3) := by decide +kernel
theorem dX10_groundIt_21 : decode cX10_groundIt 21 = .ok (.aload_n 0, 1) := by decide +kernel
theorem dX10_groundIt_22 : decode cX10_groundIt 22 = .ok (.iconst 2, 1) := by decide +kernel
theorem dX10_groundIt_23 : decode cX10_groundIt 23 = .ok (.invokevirtual 76, 3) := by decide +kernel
theorem dX10_groundIt_26 : decode cX10_groundIt 26 = .ok (.ireturn, 1) := by decide +kernel
theorem dX10_groundIt_27 : decode cX10_groundIt 27 = .ok (.bipush 8, 2) := by decide +kernel
theorem dX10_groundIt_29 : decode cX10_groundIt 29 = .ok (.iload_n 2, 1) := by decide +kernel
theorem dX10_groundIt_30 : decode cX10_groundIt 30 = .ok (.imul, 1) := by decide +kernel
theorem dX10_groundIt_31 : decode cX10_groundIt 31 = .ok (.iload_n 1, 1) := by decide +kernel
theorem dX10_groundIt_32 : decode cX10_groundIt 32 = .ok (.iadd, 1) := by decide +kernel
theorem dX10_groundIt_33 : decode cX10_groundIt 33 = .ok (.istore 4, 2) := by decide +kernel
theorem dX10_groundIt_35 : decode cX10_groundIt 35 = .ok (.aload_n 0, 1) := by decide +kernel
theorem dX10_groundIt_36 : decode cX10_groundIt 36 = .ok (.getfield 9, 3) := by decide +kernel
theorem dX10_groundIt_39 : decode cX10_groundIt 39 = .ok (.iconst 0, 1) := by decide +kernel
theorem dX10_groundIt_40 : decode cX10_groundIt 40 = .ok (.iload 4, 2) := by decide +kernel
theorem dX10_groundIt_42 : decode cX10_groundIt 42 = .ok (.iadd, 1) := by decide +kernel
theorem dX10_groundIt_43 : decode cX10_groundIt 43 = .ok (.iaload, 1) := by decide +kernel
theorem dX10_groundIt_44 : decode cX10_groundIt 44 = .ok (.aload_n 0, 1) := by decide +kernel
theorem dX10_groundIt_45 : decode cX10_groundIt 45 = .ok (.getfield 9, 3) := by decide +kernel
theorem dX10_groundIt_48 : decode cX10_groundIt 48 = .ok (.bipush 64, 2) := by decide +kernel
theorem dX10_groundIt_50 : decode cX10_groundIt 50 = .ok (.iload 4, 2) := by decide +kernel
theorem dX10_groundIt_52 : decode cX10_groundIt 52 = .ok (.iadd, 1) := by decide +kernel
theorem dX10_groundIt_53 : decode cX10_groundIt 53 = .ok (.iaload, 1) := by decide +kernel
theorem dX10_groundIt_54 : decode cX10_groundIt 54 = .ok (.iadd, 1) := by decide +kernel
theorem dX10_groundIt_55 : decode cX10_groundIt 55 = .ok (.istore 5, 2) := by decide +kernel
theorem dX10_groundIt_57 : decode cX10_groundIt 57 = .ok (.iload_n 3, 1) := by decide +kernel
theorem dX10_groundIt_58 : decode cX10_groundIt 58 = .ok (.bipush 35, 2) := by decide +kernel
theorem dX10_groundIt_60 : decode cX10_groundIt 60 = .ok (.if_icmp .ne 16, 3) := by decide +kernel
theorem dX10_groundIt_63 : decode cX10_groundIt 63 = .ok (.iload 5, 2) := by decide +kernel
theorem dX10_groundIt_65 : decode cX10_groundIt 65 = .ok (.ifCond .le 11, 3) := by decide +kernel
theorem dX10_groundIt_68 : decode cX10_groundIt 68 = .ok (.aload_n 0, 1) := by decide +kernel
theorem dX10_groundIt_69 : decode cX10_groundIt 69 = .ok (.iconst 2, 1) := by decide +kernel
theorem dX10_groundIt_70 : decode cX10_groundIt 70 = .ok (.iload 5, 2) := by decide +kernel
theorem dX10_groundIt_72 : decode cX10_groundIt 72 = .ok (.invokevirtual 115, 3) := by decide +kernel
theorem dX10_groundIt_75 : decode cX10_groundIt 75 = .ok (.ireturn, 1) := by decide +kernel
theorem dX10_groundIt_76 : decode cX10_groundIt 76 = .ok (.aload_n 0, 1) := by decide +kernel
theorem dX10_groundIt_77 : decode cX10_groundIt 77 = .ok (.getfield 9, 3) := by decide +kernel
theorem dX10_groundIt_80 : decode cX10_groundIt 80 = .ok (.sipush 128, 3) := by decide +kernel
theorem dX10_groundIt_83 : decode cX10_groundIt 83 = .ok (.iload 4, 2) := by decide +kernel
theorem dX10_groundIt_85 : decode cX10_groundIt 85 = .ok (.iadd, 1) := by decide +kernel
theorem dX10_groundIt_86 : decode cX10_groundIt 86 = .ok (.iaload, 1) := by decide +kernel
theorem dX10_groundIt_87 : decode cX10_groundIt 87 = .ok (.istore 6, 2) := by decide +kernel
theorem dX10_groundIt_89 : decode cX10_groundIt 89 = .ok (.aload_n 0, 1) := by decide +kernel
theorem dX10_groundIt_90 : decode cX10_groundIt 90 = .ok (.getfield 9, 3) := by decide +kernel
theorem dX10_groundIt_93 : decode cX10_groundIt 93 = .ok (.sipush 128, 3) := by decide +kernel
theorem dX10_groundIt_96 : decode cX10_groundIt 96 = .ok (.iload 4, 2) := by decide +kernel
theorem dX10_groundIt_98 : decode cX10_groundIt 98 = .ok (.iadd, 1) := by decide +kernel
theorem dX10_groundIt_99 : decode cX10_groundIt 99 = .ok (.iload_n 3, 1) := by decide +kernel
theorem dX10_groundIt_100 : decode cX10_groundIt 100 = .ok (.iastore, 1) := by decide +kernel
theorem dX10_groundIt_101 : decode cX10_groundIt 101 = .ok (.iload 6, 2) := by decide +kernel
theorem dX10_groundIt_103 : decode cX10_groundIt 103 = .ok (.ireturn, 1) := by decide +kernel
theorem dX10_setGround_0 : decode cX10_setGround 0 = .ok (.aload_n 0, 1) := by decide +kernel
theorem dX10_setGround_1 : decode cX10_setGround 1 = .ok (.invokevirtual 118, 3) := by decide +kernel
theorem dX10_setGround_4 : decode cX10_setGround 4 = .ok (.aload_n 0, 1) := by decide +kernel
theorem dX10_setGround_5 : decode cX10_setGround 5 = .ok (.aload_n 0, 1) := by decide +kernel
theorem dX10_setGround_6 : decode cX10_setGround 6 = .ok (.iload_n 1, 1) := by decide +kernel
theorem dX10_setGround_7 : decode cX10_setGround 7 = .ok (.iload_n 2, 1) := by decide +kernel
theorem dX10_setGround_8 : decode cX10_setGround 8 = .ok (.iload_n 3, 1) := by decide +kernel
theorem dX10_setGround_9 : decode cX10_setGround 9 = .ok (.invokevirtual 121, 3) := by decide +kernel
theorem dX10_setGround_12 : decode cX10_setGround 12 = .ok (.invokevirtual 125, 3) := by decide +kernel
theorem dX10_setGround_15 : decode cX10_setGround 15 = .ok (.i2c, 1) := by decide +kernel
theorem dX10_setGround_16 : decode cX10_setGround 16 = .ok (.ireturn, 1) := by decide +kernel
theorem dX10_heatIt_0 : decode cX10_heatIt 0 = .ok (.iload_n 1, 1) := by decide +kernel
theorem dX10_heatIt_1 : decode cX10_heatIt 1 = .ok (.iload_n 2, 1) := by decide +kernel
theorem dX10_heatIt_2 : decode cX10_heatIt 2 = .ok (.invokestatic 108, 3) := by decide +kernel
theorem dX10_heatIt_5 : decode cX10_heatIt 5 = .ok (.ifCond .ne 9, 3) := by decide +kernel
theorem dX10_heatIt_8 : decode cX10_heatIt 8 = .ok (.aload_n 0, 1) := by decide +kernel
theorem dX10_heatIt_9 : decode cX10_heatIt 9 = .ok (.iconst 1, 1) := by decide +kernel
theorem dX10_heatIt_10 : decode cX10_heatIt 10 = .ok (.invokevirtual 76, 3) := by decide +kernel
theorem dX10_heatIt_13 : decode cX10_heatIt 13 = .ok (.ireturn, 1) := by decide +kernel
theorem dX10_heatIt_14 : decode cX10_heatIt 14 = .ok (.iload_n 3, 1) := by decide +kernel
theorem dX10_heatIt_15 : decode cX10_heatIt 15 = .ok (.i2l, 1) := by decide +kernel
theorem dX10_heatIt_16 : decode cX10_heatIt 16 = .ok (.lconst 1, 1) := by decide +kernel
theorem dX10_heatIt_17 : decode cX10_heatIt 17 = .ok (.ldc2_w 128, 3) := by decide +kernel
theorem dX10_heatIt_20 : decode cX10_heatIt 20 = .ok (.invokestatic 85, 3) := by decide +kernel
theorem dX10_heatIt_23 : decode cX10_heatIt 23 = .ok (.ifCond .ne 9, 3) := by decide +kernel
theorem dX10_heatIt_26 : decode cX10_heatIt 26 = .ok (.aload_n 0, 1) := by decide +kernel
theorem dX10_heatIt_27 : decode cX10_heatIt 27 = .ok (.iconst 2, 1) := by decide +kernel
theorem dX10_heatIt_28 : decode cX10_heatIt 28 = .ok (.invokevirtual 76, 3) := by decide +kernel
theorem dX10_heatIt_31 : decode cX10_heatIt 31 = .ok (.ireturn, 1) := by decide +kernel
theorem dX10_heatIt_32 : decode cX10_heatIt 32 = .ok (.bipush 8, 2) := by decide +kernel
theorem dX10_heatIt_34 : decode cX10_heatIt 34 = .ok (.iload_n 2, 1) := by decide +kernel
theorem dX10_heatIt_35 : decode cX10_heatIt 35 = .ok (.imul, 1) := by decide +kernel
theorem dX10_heatIt_36 : decode cX10_heatIt 36 = .ok (.iload_n 1, 1) := by decide +kernel
theorem dX10_heatIt_37 : decode cX10_heatIt 37 = .ok (.iadd, 1) := by decide +kernel
theorem dX10_heatIt_38 : decode cX10_heatIt 38 = .ok (.istore 4, 2) := by decide +kernel
theorem dX10_heatIt_40 : decode cX10_heatIt 40 = .ok (.aload_n 0, 1) := by decide +kernel
theorem dX10_heatIt_41 : decode cX10_heatIt 41 = .ok (.iload 4, 2) := by decide +kernel
theorem dX10_heatIt_43 : decode cX10_heatIt 43 = .ok (.invokevirtual 89, 3) := by decide +kernel
theorem dX10_heatIt_46 : decode cX10_heatIt 46 = .ok (.ifCond .eq 11, 3) := by decide +kernel
theorem dX10_heatIt_49 : decode cX10_heatIt 49 = .ok (.aload_n 0, 1) := by decide +kernel
theorem dX10_heatIt_50 : decode cX10_heatIt 50 = .ok (.iconst 1, 1) := by decide +kernel
theorem dX10_heatIt_51 : decode cX10_heatIt 51 = .ok (.iload 4, 2) := by decide +kernel
theorem dX10_heatIt_53 : decode cX10_heatIt 53 = .ok (.invokevirtual 115, 3) := by decide +kernel
theorem dX10_heatIt_56 : decode cX10_heatIt 56 = .ok (.ireturn, 1) := by decide +kernel
theorem dX10_heatIt_57 : decode cX10_heatIt 57 = .ok (.aload_n 0, 1) := by decide +kernel
theorem dX10_heatIt_58 : decode cX10_heatIt 58 = .ok (.getfield 9, 3) := by decide +kernel
theorem dX10_heatIt_61 : decode cX10_heatIt 61 = .ok (.iconst 0, 1) := by decide +kernel
theorem dX10_heatIt_62 : decode cX10_heatIt 62 = .ok (.iload 4, 2) := by decide +kernel
theorem dX10_heatIt_64 : decode cX10_heatIt 64 = .ok (.iadd, 1) := by decide +kernel
theorem dX10_heatIt_65 : decode cX10_heatIt 65 = .ok (.iaload, 1) := by decide +kernel
theorem dX10_heatIt_66 : decode cX10_heatIt 66 = .ok (.iload_n 3, 1) := by decide +kernel
theorem dX10_heatIt_67 : decode cX10_heatIt 67 = .ok (.iadd, 1) := by decide +kernel
theorem dX10_heatIt_68 : decode cX10_heatIt 68 = .ok (.sipush 9999, 3) := by decide +kernel
theorem dX10_heatIt_71 : decode cX10_heatIt 71 = .ok (.if_icmp .le 24, 3) := by decide +kernel
theorem dX10_heatIt_74 : decode cX10_heatIt 74 = .ok (.aload_n 0, 1) := by decide +kernel
theorem dX10_heatIt_75 : decode cX10_heatIt 75 = .ok (.iconst 3, 1) := by decide +kernel
theorem dX10_heatIt_76 : decode cX10_heatIt 76 = .ok (.aload_n 0, 1) := by decide +kernel
theorem dX10_heatIt_77 : decode cX10_heatIt 77 = .ok (.getfield 9, 3) := by decide +kernel
theorem dX10_heatIt_80 : decode cX10_heatIt 80 = .ok (.iconst 0, 1) := by decide +kernel
theorem dX10_heatIt_81 : decode cX10_heatIt 81 = .ok (.iload 4, 2) := by decide +kernel
theorem dX10_heatIt_83 : decode cX10_heatIt 83 = .ok (.iadd, 1) := by decide +kernel
theorem dX10_heatIt_84 : decode cX10_heatIt 84 = .ok (.iaload, 1) := by decide +kernel
theorem dX10_heatIt_85 : decode cX10_heatIt 85 = .ok (.iload_n 3, 1) := by decide +kernel
theorem dX10_heatIt_86 : decode cX10_heatIt 86 = .ok (.iadd, 1) := by decide +kernel
theorem dX10_heatIt_87 : decode cX10_heatIt 87 = .ok (.sipush 9999, 3) := by decide +kernel
theorem dX10_heatIt_90 : decode cX10_heatIt 90 = .ok (.isub, 1) := by decide +kernel
theorem dX10_heatIt_91 : decode cX10_heatIt 91 = .ok (.invokevirtual 115, 3) := by decide +kernel
theorem dX10_heatIt_94 : decode cX10_heatIt 94 = .ok (.ireturn, 1) := by decide +kernel
theorem dX10_heatIt_95 : decode cX10_heatIt 95 = .ok (.aload_n 0, 1) := by decide +kernel
theorem dX10_heatIt_96 : decode cX10_heatIt 96 = .ok (.getfield 9, 3) := by decide +kernel
theorem dX10_heatIt_99 : decode cX10_heatIt 99 = .ok (.iconst 0, 1) := by decide +kernel
theorem dX10_heatIt_100 : decode cX10_heatIt 100 = .ok (.iload 4, 2) := by decide +kernel
theorem dX10_heatIt_102 : decode cX10_heatIt 102 = .ok (.iadd, 1) := by decide +kernel
theorem dX10_heatIt_103 : decode cX10_heatIt 103 = .ok (.dup2, 1) := by decide +kernel
theorem dX10_heatIt_104 : decode cX10_heatIt 104 = .ok (.iaload, 1) := by decide +kernel
theorem dX10_heatIt_105 : decode cX10_heatIt 105 = .ok (.iload_n 3, 1) := by decide +kernel
theorem dX10_heatIt_106 : decode cX10_heatIt 106 = .ok (.iadd, 1) := by decide +kernel
theorem dX10_heatIt_107 : decode cX10_heatIt 107 = .ok (.iastore, 1) := by decide +kernel
theorem dX10_heatIt_108 : decode cX10_heatIt 108 = .ok (.aload_n 0, 1) := by decide +kernel
theorem dX10_heatIt_109 : decode cX10_heatIt 109 = .ok (.getfield 9, 3) := by decide +kernel
theorem dX10_heatIt_112 : decode cX10_heatIt 112 = .ok (.iconst 0, 1) := by decide +kernel
theorem dX10_heatIt_113 : decode cX10_heatIt 113 = .ok (.iload 4, 2) := by decide +kernel
theorem dX10_heatIt_115 : decode cX10_heatIt 115 = .ok (.iadd, 1) := by decide +kernel
theorem dX10_heatIt_116 : decode cX10_heatIt 116 = .ok (.iaload, 1) := by decide +kernel
theorem dX10_heatIt_117 : decode cX10_heatIt 117 = .ok (.ireturn, 1) := by decide +kernel
theorem dX10_heatUp_0 : decode cX10_heatUp 0 = .ok (.aload_n 0, 1) := by decide +kernel
theorem dX10_heatUp_1 : decode cX10_heatUp 1 = .ok (.invokevirtual 118, 3) := by decide +kernel
theorem dX10_heatUp_4 : decode cX10_heatUp 4 = .ok (.aload_n 0, 1) := by decide +kernel
theorem dX10_heatUp_5 : decode cX10_heatUp 5 = .ok (.aload_n 0, 1) := by decide +kernel
theorem dX10_heatUp_6 : decode cX10_heatUp 6 = .ok (.iload_n 1, 1) := by decide +kernel
theorem dX10_heatUp_7 : decode cX10_heatUp 7 = .ok (.iload_n 2, 1) := by decide +kernel
theorem dX10_heatUp_8 : decode cX10_heatUp 8 = .ok (.iload_n 3, 1) := by decide +kernel
theorem dX10_heatUp_9 : decode cX10_heatUp 9 = .ok (.invokevirtual 130, 3) := by decide +kernel
theorem dX10_heatUp_12 : decode cX10_heatUp 12 = .ok (.invokevirtual 125, 3) := by decide +kernel
theorem dX10_heatUp_15 : decode cX10_heatUp 15 = .ok (.ireturn, 1) := by decide +kernel
theorem dX10_borderIt_0 : decode cX10_borderIt 0 = .ok (.iload_n 1, 1) := by decide +kernel
theorem dX10_borderIt_1 : decode cX10_borderIt 1 = .ok (.i2l, 1) := by decide +kernel
theorem dX10_borderIt_2 : decode cX10_borderIt 2 = .ok (.lconst 0, 1) := by decide +kernel
theorem dX10_borderIt_3 : decode cX10_borderIt 3 = .ok (.ldc2_w 133, 3) := by decide +kernel
theorem dX10_borderIt_6 : decode cX10_borderIt 6 = .ok (.invokestatic 85, 3) := by decide +kernel
theorem dX10_borderIt_9 : decode cX10_borderIt 9 = .ok (.ifCond .ne 9, 3) := by decide +kernel
theorem dX10_borderIt_12 : decode cX10_borderIt 12 = .ok (.aload_n 0, 1) := by decide +kernel
theorem dX10_borderIt_13 : decode cX10_borderIt 13 = .ok (.iconst 1, 1) := by decide +kernel
theorem dX10_borderIt_14 : decode cX10_borderIt 14 = .ok (.invokevirtual 76, 3) := by decide +kernel
theorem dX10_borderIt_17 : decode cX10_borderIt 17 = .ok (.ireturn, 1) := by decide +kernel
theorem dX10_borderIt_18 : decode cX10_borderIt 18 = .ok (.iload_n 2, 1) := by decide +kernel
theorem dX10_borderIt_19 : decode cX10_borderIt 19 = .ok (.i2l, 1) := by decide +kernel
theorem dX10_borderIt_20 : decode cX10_borderIt 20 = .ok (.lconst 0, 1) := by decide +kernel
theorem dX10_borderIt_21 : decode cX10_borderIt 21 = .ok (.ldc2_w 135, 3) := by decide +kernel
theorem dX10_borderIt_24 : decode cX10_borderIt 24 = .ok (.invokestatic 85, 3) := by decide +kernel
theorem dX10_borderIt_27 : decode cX10_borderIt 27 = .ok (.ifCond .ne 9, 3) := by decide +kernel
theorem dX10_borderIt_30 : decode cX10_borderIt 30 = .ok (.aload_n 0, 1) := by decide +kernel
theorem dX10_borderIt_31 : decode cX10_borderIt 31 = .ok (.iconst 2, 1) := by decide +kernel
theorem dX10_borderIt_32 : decode cX10_borderIt 32 = .ok (.invokevirtual 76, 3) := by decide +kernel
theorem dX10_borderIt_35 : decode cX10_borderIt 35 = .ok (.ireturn, 1) := by decide +kernel
theorem dX10_borderIt_36 : decode cX10_borderIt 36 = .ok (.aload_n 0, 1) := by decide +kernel
theorem dX10_borderIt_37 : decode cX10_borderIt 37 = .ok (.getfield 9, 3) := by decide +kernel
theorem dX10_borderIt_40 : decode cX10_borderIt 40 = .ok (.sipush 192, 3) := by decide +kernel
theorem dX10_borderIt_43 : decode cX10_borderIt 43 = .ok (.iload_n 1, 1) := by decide +kernel
theorem dX10_borderIt_44 : decode cX10_borderIt 44 = .ok (.iadd, 1) := by decide +kernel
theorem dX10_borderIt_45 : decode cX10_borderIt 45 = .ok (.iaload, 1) := by decide +kernel
theorem dX10_borderIt_46 : decode cX10_borderIt 46 = .ok (.istore_n 3, 1) := by decide +kernel
theorem dX10_borderIt_47 : decode cX10_borderIt 47 = .ok (.aload_n 0, 1) := by decide +kernel
theorem dX10_borderIt_48 : decode cX10_borderIt 48 = .ok (.getfield 9, 3) := by decide +kernel
theorem dX10_borderIt_51 : decode cX10_borderIt 51 = .ok (.sipush 192, 3) := by decide +kernel
theorem dX10_borderIt_54 : decode cX10_borderIt 54 = .ok (.iload_n 1, 1) := by decide +kernel
theorem dX10_borderIt_55 : decode cX10_borderIt 55 = .ok (.iadd, 1) := by decide +kernel
theorem dX10_borderIt_56 : decode cX10_borderIt 56 = .ok (.iload_n 2, 1) := by decide +kernel
theorem dX10_borderIt_57 : decode cX10_borderIt 57 = .ok (.iastore, 1) := by decide +kernel
theorem dX10_borderIt_58 : decode cX10_borderIt 58 = .ok (.iload_n 3, 1) := by decide +kernel
theorem dX10_borderIt_59 : decode cX10_borderIt 59 = .ok (.ireturn, 1) := by decide +kernel
theorem dX10_setBorder_0 : decode cX10_setBorder 0 = .ok (.aload_n 0, 1) := by decide +kernel
theorem dX10_setBorder_1 : decode cX10_setBorder 1 = .ok (.invokevirtual 118, 3) := by decide +kernel
theorem dX10_setBorder_4 : decode cX10_setBorder 4 = .ok (.aload_n 0, 1) := by decide +kernel
theorem dX10_setBorder_5 : decode cX10_setBorder 5 = .ok (.aload_n 0, 1) := by decide +kernel
theorem dX10_setBorder_6 : decode cX10_setBorder 6 = .ok (.iload_n 1, 1) := by decide +kernel
theorem dX10_setBorder_7 : decode cX10_setBorder 7 = .ok (.iload_n 2, 1) := by decide +kernel
theorem dX10_setBorder_8 : decode cX10_setBorder 8 = .ok (.invokevirtual 137, 3) := by decide +kernel
theorem dX10_setBorder_11 : decode cX10_setBorder 11 = .ok (.invokevirtual 125, 3) := by decide +kernel
theorem dX10_setBorder_14 : decode cX10_setBorder 14 = .ok (.ireturn, 1) := by decide +kernel
theorem dX10_ticksIt_0 : decode cX10_ticksIt 0 = .ok (.iload_n 1, 1) := by decide +kernel
theorem dX10_ticksIt_1 : decode cX10_ticksIt 1 = .ok (.i2l, 1) := by decide +kernel
theorem dX10_ticksIt_2 : decode cX10_ticksIt 2 = .ok (.lconst 1, 1) := by decide +kernel
theorem dX10_ticksIt_3 : decode cX10_ticksIt 3 = .ok (.ldc2_w 140, 3) := by decide +kernel
theorem dX10_ticksIt_6 : decode cX10_ticksIt 6 = .ok (.invokestatic 85, 3) := by decide +kernel
theorem dX10_ticksIt_9 : decode cX10_ticksIt 9 = .ok (.ifCond .ne 9, 3) := by decide +kernel
theorem dX10_ticksIt_12 : decode cX10_ticksIt 12 = .ok (.aload_n 0, 1) := by decide +kernel
theorem dX10_ticksIt_13 : decode cX10_ticksIt 13 = .ok (.iconst 1, 1) := by decide +kernel
theorem dX10_ticksIt_14 : decode cX10_ticksIt 14 = .ok (.invokevirtual 76, 3) := by decide +kernel
theorem dX10_ticksIt_17 : decode cX10_ticksIt 17 = .ok (.ireturn, 1) := by decide +kernel
theorem dX10_ticksIt_18 : decode cX10_ticksIt 18 = .ok (.iconst 0, 1) := by decide +kernel
theorem dX10_ticksIt_19 : decode cX10_ticksIt 19 = .ok (.istore_n 2, 1) := by decide +kernel
theorem dX10_ticksIt_20 : decode cX10_ticksIt 20 = .ok (.iconst 0, 1) := by decide +kernel
theorem dX10_ticksIt_21 : decode cX10_ticksIt 21 = .ok (.istore_n 3, 1) := by decide +kernel
theorem dX10_ticksIt_22 : decode cX10_ticksIt 22 = .ok (.iload_n 3, 1) := by decide +kernel
theorem dX10_ticksIt_23 : decode cX10_ticksIt 23 = .ok (.iload_n 1, 1) := by decide +kernel
theorem dX10_ticksIt_24 : decode cX10_ticksIt 24 = .ok (.if_icmp .ge 16, 3) := by decide +kernel
theorem dX10_ticksIt_27 : decode cX10_ticksIt 27 = .ok (.iload_n 2, 1) := by decide +kernel
theorem dX10_ticksIt_28 : decode cX10_ticksIt 28 = .ok (.aload_n 0, 1) := by decide +kernel
theorem dX10_ticksIt_29 : decode cX10_ticksIt 29 = .ok (.invokevirtual 142, 3) := by decide +kernel
theorem dX10_ticksIt_32 : decode cX10_ticksIt 32 = .ok (.iadd, 1) := by decide +kernel
theorem dX10_ticksIt_33 : decode cX10_ticksIt 33 = .ok (.istore_n 2, 1) := by decide +kernel
theorem dX10_ticksIt_34 : decode cX10_ticksIt 34 = .ok (.iinc 3 1, 3) := by decide +kernel
theorem dX10_ticksIt_37 : decode cX10_ticksIt 37 = .ok (.goto (-15), 3) := by decide +kernel
theorem dX10_ticksIt_40 : decode cX10_ticksIt 40 = .ok (.iload_n 2, 1) := by decide +kernel
theorem dX10_ticksIt_41 : decode cX10_ticksIt 41 = .ok (.ireturn, 1) := by decide +kernel
theorem dX10_pass_0 : decode cX10_pass 0 = .ok (.aload_n 0, 1) := by decide +kernel
theorem dX10_pass_1 : decode cX10_pass 1 = .ok (.invokevirtual 118, 3) := by decide +kernel
theorem dX10_pass_4 : decode cX10_pass 4 = .ok (.aload_n 0, 1) := by decide +kernel
theorem dX10_pass_5 : decode cX10_pass 5 = .ok (.aload_n 0, 1) := by decide +kernel
theorem dX10_pass_6 : decode cX10_pass 6 = .ok (.iload_n 1, 1) := by decide +kernel
theorem dX10_pass_7 : decode cX10_pass 7 = .ok (.invokevirtual 146, 3) := by decide +kernel
theorem dX10_pass_10 : decode cX10_pass 10 = .ok (.invokevirtual 125, 3) := by decide +kernel
theorem dX10_pass_13 : decode cX10_pass 13 = .ok (.ireturn, 1) := by decide +kernel
theorem dX10_ofCell_0 : decode cX10_ofCell 0 = .ok (.aload_n 0, 1) := by decide +kernel
theorem dX10_ofCell_1 : decode cX10_ofCell 1 = .ok (.iconst 0, 1) := by decide +kernel
theorem dX10_ofCell_2 : decode cX10_ofCell 2 = .ok (.putfield 67, 3) := by decide +kernel
theorem dX10_ofCell_5 : decode cX10_ofCell 5 = .ok (.iload_n 1, 1) := by decide +kernel
theorem dX10_ofCell_6 : decode cX10_ofCell 6 = .ok (.iload_n 2, 1) := by decide +kernel
theorem dX10_ofCell_7 : decode cX10_ofCell 7 = .ok (.invokestatic 108, 3) := by decide +kernel
theorem dX10_ofCell_10 : decode cX10_ofCell 10 = .ok (.ifCond .eq 19, 3) := by decide +kernel
theorem dX10_ofCell_13 : decode cX10_ofCell 13 = .ok (.aload_n 0, 1) := by decide +kernel
theorem dX10_ofCell_14 : decode cX10_ofCell 14 = .ok (.getfield 9, 3) := by decide +kernel
theorem dX10_ofCell_17 : decode cX10_ofCell 17 = .ok (.iload_n 3, 1) := by decide +kernel
theorem dX10_ofCell_18 : decode cX10_ofCell 18 = .ok (.bipush 8, 2) := by decide +kernel
theorem dX10_ofCell_20 : decode cX10_ofCell 20 = .ok (.iload_n 2, 1) := by decide +kernel
theorem dX10_ofCell_21 : decode cX10_ofCell 21 = .ok (.imul, 1) := by decide +kernel
theorem dX10_ofCell_22 : decode cX10_ofCell 22 = .ok (.iadd, 1) := by decide +kernel
theorem dX10_ofCell_23 : decode cX10_ofCell 23 = .ok (.iload_n 1, 1) := by decide +kernel
theorem dX10_ofCell_24 : decode cX10_ofCell 24 = .ok (.iadd, 1) := by decide +kernel
theorem dX10_ofCell_25 : decode cX10_ofCell 25 = .ok (.iaload, 1) := by decide +kernel
theorem dX10_ofCell_26 : decode cX10_ofCell 26 = .ok (.goto 8, 3) := by decide +kernel
theorem dX10_ofCell_29 : decode cX10_ofCell 29 = .ok (.aload_n 0, 1) := by decide +kernel
theorem dX10_ofCell_30 : decode cX10_ofCell 30 = .ok (.iconst 1, 1) := by decide +kernel
theorem dX10_ofCell_31 : decode cX10_ofCell 31 = .ok (.invokevirtual 76, 3) := by decide +kernel
theorem dX10_ofCell_34 : decode cX10_ofCell 34 = .ok (.ireturn, 1) := by decide +kernel
theorem dX10_groundAt_0 : decode cX10_groundAt 0 = .ok (.aload_n 0, 1) := by decide +kernel
theorem dX10_groundAt_1 : decode cX10_groundAt 1 = .ok (.iload_n 1, 1) := by decide +kernel
theorem dX10_groundAt_2 : decode cX10_groundAt 2 = .ok (.iload_n 2, 1) := by decide +kernel
theorem dX10_groundAt_3 : decode cX10_groundAt 3 = .ok (.sipush 128, 3) := by decide +kernel
theorem dX10_groundAt_6 : decode cX10_groundAt 6 = .ok (.invokevirtual 149, 3) := by decide +kernel
theorem dX10_groundAt_9 : decode cX10_groundAt 9 = .ok (.i2c, 1) := by decide +kernel
theorem dX10_groundAt_10 : decode cX10_groundAt 10 = .ok (.ireturn, 1) := by decide +kernel
theorem dX10_heatAt_0 : decode cX10_heatAt 0 = .ok (.aload_n 0, 1) := by decide +kernel
theorem dX10_heatAt_1 : decode cX10_heatAt 1 = .ok (.iload_n 1, 1) := by decide +kernel
theorem dX10_heatAt_2 : decode cX10_heatAt 2 = .ok (.iload_n 2, 1) := by decide +kernel
theorem dX10_heatAt_3 : decode cX10_heatAt 3 = .ok (.iconst 0, 1) := by decide +kernel
theorem dX10_heatAt_4 : decode cX10_heatAt 4 = .ok (.invokevirtual 149, 3) := by decide +kernel
theorem dX10_heatAt_7 : decode cX10_heatAt 7 = .ok (.ireturn, 1) := by decide +kernel
theorem dX10_embersAt_0 : decode cX10_embersAt 0 = .ok (.aload_n 0, 1) := by decide +kernel
theorem dX10_embersAt_1 : decode cX10_embersAt 1 = .ok (.iload_n 1, 1) := by decide +kernel
theorem dX10_embersAt_2 : decode cX10_embersAt 2 = .ok (.iload_n 2, 1) := by decide +kernel
theorem dX10_embersAt_3 : decode cX10_embersAt 3 = .ok (.bipush 64, 2) := by decide +kernel
theorem dX10_embersAt_5 : decode cX10_embersAt 5 = .ok (.invokevirtual 149, 3) := by decide +kernel
theorem dX10_embersAt_8 : decode cX10_embersAt 8 = .ok (.ireturn, 1) := by decide +kernel
theorem dX10_allHeat_0 : decode cX10_allHeat 0 = .ok (.aload_n 0, 1) := by decide +kernel
theorem dX10_allHeat_1 : decode cX10_allHeat 1 = .ok (.iconst 0, 1) := by decide +kernel
theorem dX10_allHeat_2 : decode cX10_allHeat 2 = .ok (.putfield 67, 3) := by decide +kernel
theorem dX10_allHeat_5 : decode cX10_allHeat 5 = .ok (.iconst 0, 1) := by decide +kernel
theorem dX10_allHeat_6 : decode cX10_allHeat 6 = .ok (.istore_n 1, 1) := by decide +kernel
theorem dX10_allHeat_7 : decode cX10_allHeat 7 = .ok (.iconst 0, 1) := by decide +kernel
theorem dX10_allHeat_8 : decode cX10_allHeat 8 = .ok (.istore_n 2, 1) := by decide +kernel
theorem dX10_allHeat_9 : decode cX10_allHeat 9 = .ok (.iload_n 2, 1) := by decide +kernel
theorem dX10_allHeat_10 : decode cX10_allHeat 10 = .ok (.bipush 64, 2) := by decide +kernel
theorem dX10_allHeat_12 : decode cX10_allHeat 12 = .ok (.if_icmp .ge 30, 3) := by decide +kernel
theorem dX10_allHeat_15 : decode cX10_allHeat 15 = .ok (.iload_n 1, 1) := by decide +kernel
theorem dX10_allHeat_16 : decode cX10_allHeat 16 = .ok (.aload_n 0, 1) := by decide +kernel
theorem dX10_allHeat_17 : decode cX10_allHeat 17 = .ok (.getfield 9, 3) := by decide +kernel
theorem dX10_allHeat_20 : decode cX10_allHeat 20 = .ok (.iconst 0, 1) := by decide +kernel
theorem dX10_allHeat_21 : decode cX10_allHeat 21 = .ok (.iload_n 2, 1) := by decide +kernel
theorem dX10_allHeat_22 : decode cX10_allHeat 22 = .ok (.iadd, 1) := by decide +kernel
theorem dX10_allHeat_23 : decode cX10_allHeat 23 = .ok (.iaload, 1) := by decide +kernel
theorem dX10_allHeat_24 : decode cX10_allHeat 24 = .ok (.aload_n 0, 1) := by decide +kernel
theorem dX10_allHeat_25 : decode cX10_allHeat 25 = .ok (.getfield 9, 3) := by decide +kernel
theorem dX10_allHeat_28 : decode cX10_allHeat 28 = .ok (.bipush 64, 2) := by decide +kernel
theorem dX10_allHeat_30 : decode cX10_allHeat 30 = .ok (.iload_n 2, 1) := by decide +kernel
theorem dX10_allHeat_31 : decode cX10_allHeat 31 = .ok (.iadd, 1) := by decide +kernel
theorem dX10_allHeat_32 : decode cX10_allHeat 32 = .ok (.iaload, 1) := by decide +kernel
theorem dX10_allHeat_33 : decode cX10_allHeat 33 = .ok (.iadd, 1) := by decide +kernel
theorem dX10_allHeat_34 : decode cX10_allHeat 34 = .ok (.iadd, 1) := by decide +kernel
theorem dX10_allHeat_35 : decode cX10_allHeat 35 = .ok (.istore_n 1, 1) := by decide +kernel
theorem dX10_allHeat_36 : decode cX10_allHeat 36 = .ok (.iinc 2 1, 3) := by decide +kernel
theorem dX10_allHeat_39 : decode cX10_allHeat 39 = .ok (.goto (-30), 3) := by decide +kernel
theorem dX10_allHeat_42 : decode cX10_allHeat 42 = .ok (.iload_n 1, 1) := by decide +kernel
theorem dX10_allHeat_43 : decode cX10_allHeat 43 = .ok (.ireturn, 1) := by decide +kernel
theorem dX10_allHeatByAccounts_0 : decode cX10_allHeatByAccounts 0 = .ok (.aload_n 0, 1) := by decide +kernel
theorem dX10_allHeatByAccounts_1 : decode cX10_allHeatByAccounts 1 = .ok (.invokevirtual 152, 3) := by decide +kernel
theorem dX10_allHeatByAccounts_4 : decode cX10_allHeatByAccounts 4 = .ok (.ireturn, 1) := by decide +kernel
theorem dX10_cellAtRank_0 : decode cX10_cellAtRank 0 = .ok (.aload_n 0, 1) := by decide +kernel
theorem dX10_cellAtRank_1 : decode cX10_cellAtRank 1 = .ok (.iconst 0, 1) := by decide +kernel
theorem dX10_cellAtRank_2 : decode cX10_cellAtRank 2 = .ok (.putfield 67, 3) := by decide +kernel
theorem dX10_cellAtRank_5 : decode cX10_cellAtRank 5 = .ok (.iconst 0, 1) := by decide +kernel
theorem dX10_cellAtRank_6 : decode cX10_cellAtRank 6 = .ok (.istore_n 2, 1) := by decide +kernel
theorem dX10_cellAtRank_7 : decode cX10_cellAtRank 7 = .ok (.iload_n 2, 1) := by decide +kernel
theorem dX10_cellAtRank_8 : decode cX10_cellAtRank 8 = .ok (.bipush 64, 2) := by decide +kernel
theorem dX10_cellAtRank_10 : decode cX10_cellAtRank 10 = .ok (.if_icmp .ge 90, 3) := by decide +kernel
theorem dX10_cellAtRank_13 : decode cX10_cellAtRank 13 = .ok (.iload_n 1, 1) := by decide +kernel
theorem dX10_cellAtRank_14 : decode cX10_cellAtRank 14 = .ok (.i2l, 1) := by decide +kernel
theorem dX10_cellAtRank_15 : decode cX10_cellAtRank 15 = .ok (.lconst 0, 1) := by decide +kernel
theorem dX10_cellAtRank_16 : decode cX10_cellAtRank 16 = .ok (.ldc2_w 155, 3) := by decide +kernel
theorem dX10_cellAtRank_19 : decode cX10_cellAtRank 19 = .ok (.invokestatic 85, 3) := by decide +kernel
theorem dX10_cellAtRank_22 : decode cX10_cellAtRank 22 = .ok (.ifCond .eq 78, 3) := by decide +kernel
theorem dX10_cellAtRank_25 : decode cX10_cellAtRank 25 = .ok (.iconst 0, 1) := by decide +kernel
theorem dX10_cellAtRank_26 : decode cX10_cellAtRank 26 = .ok (.istore_n 3, 1) := by decide +kernel
theorem dX10_cellAtRank_27 : decode cX10_cellAtRank 27 = .ok (.iconst 0, 1) := by decide +kernel
theorem dX10_cellAtRank_28 : decode cX10_cellAtRank 28 = .ok (.istore 4, 2) := by decide +kernel
theorem dX10_cellAtRank_30 : decode cX10_cellAtRank 30 = .ok (.iload 4, 2) := by decide +kernel
theorem dX10_cellAtRank_32 : decode cX10_cellAtRank 32 = .ok (.bipush 64, 2) := by decide +kernel
theorem dX10_cellAtRank_34 : decode cX10_cellAtRank 34 = .ok (.if_icmp .ge 53, 3) := by decide +kernel
theorem dX10_cellAtRank_37 : decode cX10_cellAtRank 37 = .ok (.aload_n 0, 1) := by decide +kernel
theorem dX10_cellAtRank_38 : decode cX10_cellAtRank 38 = .ok (.getfield 9, 3) := by decide +kernel
theorem dX10_cellAtRank_41 : decode cX10_cellAtRank 41 = .ok (.iconst 0, 1) := by decide +kernel
theorem dX10_cellAtRank_42 : decode cX10_cellAtRank 42 = .ok (.iload 4, 2) := by decide +kernel
theorem dX10_cellAtRank_44 : decode cX10_cellAtRank 44 = .ok (.iadd, 1) := by decide +kernel
theorem dX10_cellAtRank_45 : decode cX10_cellAtRank 45 = .ok (.iaload, 1) := by decide +kernel
theorem dX10_cellAtRank_46 : decode cX10_cellAtRank 46 = .ok (.aload_n 0, 1) := by decide +kernel
theorem dX10_cellAtRank_47 : decode cX10_cellAtRank 47 = .ok (.getfield 9, 3) := by decide +kernel
theorem dX10_cellAtRank_50 : decode cX10_cellAtRank 50 = .ok (.iconst 0, 1) := by decide +kernel
theorem dX10_cellAtRank_51 : decode cX10_cellAtRank 51 = .ok (.iload_n 2, 1) := by decide +kernel
theorem dX10_cellAtRank_52 : decode cX10_cellAtRank 52 = .ok (.iadd, 1) := by decide +kernel
theorem dX10_cellAtRank_53 : decode cX10_cellAtRank 53 = .ok (.iaload, 1) := by decide +kernel
theorem dX10_cellAtRank_54 : decode cX10_cellAtRank 54 = .ok (.isub, 1) := by decide +kernel
theorem dX10_cellAtRank_55 : decode cX10_cellAtRank 55 = .ok (.istore 5, 2) := by decide +kernel
theorem dX10_cellAtRank_57 : decode cX10_cellAtRank 57 = .ok (.iload_n 3, 1) := by decide +kernel
theorem dX10_cellAtRank_58 : decode cX10_cellAtRank 58 = .ok (.iload 5, 2) := by decide +kernel
theorem dX10_cellAtRank_60 : decode cX10_cellAtRank 60 = .ok (.ifCond .gt 14, 3) := by decide +kernel
theorem dX10_cellAtRank_63 : decode cX10_cellAtRank 63 = .ok (.iload 5, 2) := by decide +kernel
theorem dX10_cellAtRank_65 : decode cX10_cellAtRank 65 = .ok (.ifCond .ne 13, 3) := by decide +kernel
theorem dX10_cellAtRank_68 : decode cX10_cellAtRank 68 = .ok (.iload 4, 2) := by decide +kernel
theorem dX10_cellAtRank_70 : decode cX10_cellAtRank 70 = .ok (.iload_n 2, 1) := by decide +kernel
theorem dX10_cellAtRank_71 : decode cX10_cellAtRank 71 = .ok (.if_icmp .ge 7, 3) := by decide +kernel
theorem dX10_cellAtRank_74 : decode cX10_cellAtRank 74 = .ok (.iconst 1, 1) := by decide +kernel
theorem dX10_cellAtRank_75 : decode cX10_cellAtRank 75 = .ok (.goto 4, 3) := by decide +kernel
theorem dX10_cellAtRank_78 : decode cX10_cellAtRank 78 = .ok (.iconst 0, 1) := by decide +kernel
theorem dX10_cellAtRank_79 : decode cX10_cellAtRank 79 = .ok (.iadd, 1) := by decide +kernel
theorem dX10_cellAtRank_80 : decode cX10_cellAtRank 80 = .ok (.istore_n 3, 1) := by decide +kernel
theorem dX10_cellAtRank_81 : decode cX10_cellAtRank 81 = .ok (.iinc 4 1, 3) := by decide +kernel
theorem dX10_cellAtRank_84 : decode cX10_cellAtRank 84 = .ok (.goto (-54), 3) := by decide +kernel
theorem dX10_cellAtRank_87 : decode cX10_cellAtRank 87 = .ok (.iload_n 3, 1) := by decide +kernel
theorem dX10_cellAtRank_88 : decode cX10_cellAtRank 88 = .ok (.iload_n 1, 1) := by decide +kernel
theorem dX10_cellAtRank_89 : decode cX10_cellAtRank 89 = .ok (.if_icmp .ne 5, 3) := by decide +kernel
theorem dX10_cellAtRank_92 : decode cX10_cellAtRank 92 = .ok (.iload_n 2, 1) := by decide +kernel
theorem dX10_cellAtRank_93 : decode cX10_cellAtRank 93 = .ok (.ireturn, 1) := by decide +kernel
theorem dX10_cellAtRank_94 : decode cX10_cellAtRank 94 = .ok (.iinc 2 1, 3) := by decide +kernel
theorem dX10_cellAtRank_97 : decode cX10_cellAtRank 97 = .ok (.goto (-90), 3) := by decide +kernel
theorem dX10_cellAtRank_100 : decode cX10_cellAtRank 100 = .ok (.aload_n 0, 1) := by decide +kernel
theorem dX10_cellAtRank_101 : decode cX10_cellAtRank 101 = .ok (.iconst 1, 1) := by decide +kernel
theorem dX10_cellAtRank_102 : decode cX10_cellAtRank 102 = .ok (.invokevirtual 76, 3) := by decide +kernel
theorem dX10_cellAtRank_105 : decode cX10_cellAtRank 105 = .ok (.ireturn, 1) := by decide +kernel
theorem dX10_refusalReason_0 : decode cX10_refusalReason 0 = .ok (.aload_n 0, 1) := by decide +kernel
theorem dX10_refusalReason_1 : decode cX10_refusalReason 1 = .ok (.iconst 0, 1) := by decide +kernel
theorem dX10_refusalReason_2 : decode cX10_refusalReason 2 = .ok (.putfield 67, 3) := by decide +kernel
theorem dX10_refusalReason_5 : decode cX10_refusalReason 5 = .ok (.aload_n 0, 1) := by decide +kernel
theorem dX10_refusalReason_6 : decode cX10_refusalReason 6 = .ok (.getfield 70, 3) := by decide +kernel
theorem dX10_refusalReason_9 : decode cX10_refusalReason 9 = .ok (.ifCond .ne 11, 3) := by decide +kernel
theorem dX10_refusalReason_12 : decode cX10_refusalReason 12 = .ok (.aload_n 0, 1) := by decide +kernel
theorem dX10_refusalReason_13 : decode cX10_refusalReason 13 = .ok (.iconst 1, 1) := by decide +kernel
theorem dX10_refusalReason_14 : decode cX10_refusalReason 14 = .ok (.invokevirtual 76, 3) := by decide +kernel
theorem dX10_refusalReason_17 : decode cX10_refusalReason 17 = .ok (.goto 7, 3) := by decide +kernel
theorem dX10_refusalReason_20 : decode cX10_refusalReason 20 = .ok (.aload_n 0, 1) := by decide +kernel
theorem dX10_refusalReason_21 : decode cX10_refusalReason 21 = .ok (.getfield 70, 3) := by decide +kernel
theorem dX10_refusalReason_24 : decode cX10_refusalReason 24 = .ok (.ireturn, 1) := by decide +kernel
theorem dX10_refusalDetail_0 : decode cX10_refusalDetail 0 = .ok (.aload_n 0, 1) := by decide +kernel
theorem dX10_refusalDetail_1 : decode cX10_refusalDetail 1 = .ok (.iconst 0, 1) := by decide +kernel
theorem dX10_refusalDetail_2 : decode cX10_refusalDetail 2 = .ok (.putfield 67, 3) := by decide +kernel
theorem dX10_refusalDetail_5 : decode cX10_refusalDetail 5 = .ok (.aload_n 0, 1) := by decide +kernel
theorem dX10_refusalDetail_6 : decode cX10_refusalDetail 6 = .ok (.getfield 70, 3) := by decide +kernel
theorem dX10_refusalDetail_9 : decode cX10_refusalDetail 9 = .ok (.ifCond .ne 11, 3) := by decide +kernel
theorem dX10_refusalDetail_12 : decode cX10_refusalDetail 12 = .ok (.aload_n 0, 1) := by decide +kernel
theorem dX10_refusalDetail_13 : decode cX10_refusalDetail 13 = .ok (.iconst 1, 1) := by decide +kernel
theorem dX10_refusalDetail_14 : decode cX10_refusalDetail 14 = .ok (.invokevirtual 76, 3) := by decide +kernel
theorem dX10_refusalDetail_17 : decode cX10_refusalDetail 17 = .ok (.goto 7, 3) := by decide +kernel
theorem dX10_refusalDetail_20 : decode cX10_refusalDetail 20 = .ok (.aload_n 0, 1) := by decide +kernel
theorem dX10_refusalDetail_21 : decode cX10_refusalDetail 21 = .ok (.getfield 73, 3) := by decide +kernel
theorem dX10_refusalDetail_24 : decode cX10_refusalDetail 24 = .ok (.ireturn, 1) := by decide +kernel
theorem dX10_border_0 : decode cX10_border 0 = .ok (.aload_n 0, 1) := by decide +kernel
theorem dX10_border_1 : decode cX10_border 1 = .ok (.iconst 0, 1) := by decide +kernel
theorem dX10_border_2 : decode cX10_border 2 = .ok (.putfield 67, 3) := by decide +kernel
theorem dX10_border_5 : decode cX10_border 5 = .ok (.iload_n 1, 1) := by decide +kernel
theorem dX10_border_6 : decode cX10_border 6 = .ok (.i2l, 1) := by decide +kernel
theorem dX10_border_7 : decode cX10_border 7 = .ok (.lconst 0, 1) := by decide +kernel
theorem dX10_border_8 : decode cX10_border 8 = .ok (.ldc2_w 133, 3) := by decide +kernel
theorem dX10_border_11 : decode cX10_border 11 = .ok (.invokestatic 85, 3) := by decide +kernel
theorem dX10_border_14 : decode cX10_border 14 = .ok (.ifCond .eq 16, 3) := by decide +kernel
theorem dX10_border_17 : decode cX10_border 17 = .ok (.aload_n 0, 1) := by decide +kernel
theorem dX10_border_18 : decode cX10_border 18 = .ok (.getfield 9, 3) := by decide +kernel
theorem dX10_border_21 : decode cX10_border 21 = .ok (.sipush 192, 3) := by decide +kernel
theorem dX10_border_24 : decode cX10_border 24 = .ok (.iload_n 1, 1) := by decide +kernel
theorem dX10_border_25 : decode cX10_border 25 = .ok (.iadd, 1) := by decide +kernel
theorem dX10_border_26 : decode cX10_border 26 = .ok (.iaload, 1) := by decide +kernel
theorem dX10_border_27 : decode cX10_border 27 = .ok (.goto 8, 3) := by decide +kernel
theorem dX10_border_30 : decode cX10_border 30 = .ok (.aload_n 0, 1) := by decide +kernel
theorem dX10_border_31 : decode cX10_border 31 = .ok (.iconst 1, 1) := by decide +kernel
theorem dX10_border_32 : decode cX10_border 32 = .ok (.invokevirtual 76, 3) := by decide +kernel
theorem dX10_border_35 : decode cX10_border 35 = .ok (.ireturn, 1) := by decide +kernel
theorem dX10_lostBy_0 : decode cX10_lostBy 0 = .ok (.aload_n 0, 1) := by decide +kernel
theorem dX10_lostBy_1 : decode cX10_lostBy 1 = .ok (.iconst 0, 1) := by decide +kernel
theorem dX10_lostBy_2 : decode cX10_lostBy 2 = .ok (.putfield 67, 3) := by decide +kernel
theorem dX10_lostBy_5 : decode cX10_lostBy 5 = .ok (.iload_n 1, 1) := by decide +kernel
theorem dX10_lostBy_6 : decode cX10_lostBy 6 = .ok (.i2l, 1) := by decide +kernel
theorem dX10_lostBy_7 : decode cX10_lostBy 7 = .ok (.lconst 0, 1) := by decide +kernel
theorem dX10_lostBy_8 : decode cX10_lostBy 8 = .ok (.ldc2_w 133, 3) := by decide +kernel
theorem dX10_lostBy_11 : decode cX10_lostBy 11 = .ok (.invokestatic 85, 3) := by decide +kernel
theorem dX10_lostBy_14 : decode cX10_lostBy 14 = .ok (.ifCond .eq 16, 3) := by decide +kernel
theorem dX10_lostBy_17 : decode cX10_lostBy 17 = .ok (.aload_n 0, 1) := by decide +kernel
theorem dX10_lostBy_18 : decode cX10_lostBy 18 = .ok (.getfield 9, 3) := by decide +kernel
theorem dX10_lostBy_21 : decode cX10_lostBy 21 = .ok (.sipush 196, 3) := by decide +kernel
theorem dX10_lostBy_24 : decode cX10_lostBy 24 = .ok (.iload_n 1, 1) := by decide +kernel
theorem dX10_lostBy_25 : decode cX10_lostBy 25 = .ok (.iadd, 1) := by decide +kernel
theorem dX10_lostBy_26 : decode cX10_lostBy 26 = .ok (.iaload, 1) := by decide +kernel
theorem dX10_lostBy_27 : decode cX10_lostBy 27 = .ok (.goto 8, 3) := by decide +kernel
theorem dX10_lostBy_30 : decode cX10_lostBy 30 = .ok (.aload_n 0, 1) := by decide +kernel
theorem dX10_lostBy_31 : decode cX10_lostBy 31 = .ok (.iconst 1, 1) := by decide +kernel
theorem dX10_lostBy_32 : decode cX10_lostBy 32 = .ok (.invokevirtual 76, 3) := by decide +kernel
theorem dX10_lostBy_35 : decode cX10_lostBy 35 = .ok (.ireturn, 1) := by decide +kernel
theorem dX10_ticks_0 : decode cX10_ticks 0 = .ok (.aload_n 0, 1) := by decide +kernel
theorem dX10_ticks_1 : decode cX10_ticks 1 = .ok (.iconst 0, 1) := by decide +kernel
theorem dX10_ticks_2 : decode cX10_ticks 2 = .ok (.putfield 67, 3) := by decide +kernel
theorem dX10_ticks_5 : decode cX10_ticks 5 = .ok (.aload_n 0, 1) := by decide +kernel
theorem dX10_ticks_6 : decode cX10_ticks 6 = .ok (.getfield 9, 3) := by decide +kernel
theorem dX10_ticks_9 : decode cX10_ticks 9 = .ok (.sipush 200, 3) := by decide +kernel
theorem dX10_ticks_12 : decode cX10_ticks 12 = .ok (.iaload, 1) := by decide +kernel
theorem dX10_ticks_13 : decode cX10_ticks 13 = .ok (.ireturn, 1) := by decide +kernel
theorem dX10_relapses_0 : decode cX10_relapses 0 = .ok (.aload_n 0, 1) := by decide +kernel
theorem dX10_relapses_1 : decode cX10_relapses 1 = .ok (.iconst 0, 1) := by decide +kernel
theorem dX10_relapses_2 : decode cX10_relapses 2 = .ok (.putfield 67, 3) := by decide +kernel
theorem dX10_relapses_5 : decode cX10_relapses 5 = .ok (.aload_n 0, 1) := by decide +kernel
theorem dX10_relapses_6 : decode cX10_relapses 6 = .ok (.getfield 9, 3) := by decide +kernel
theorem dX10_relapses_9 : decode cX10_relapses 9 = .ok (.sipush 201, 3) := by decide +kernel
theorem dX10_relapses_12 : decode cX10_relapses 12 = .ok (.iaload, 1) := by decide +kernel
theorem dX10_relapses_13 : decode cX10_relapses 13 = .ok (.ireturn, 1) := by decide +kernel
theorem dX10_isBelow_0 : decode cX10_isBelow 0 = .ok (.iconst 1, 1) := by decide +kernel
theorem dX10_isBelow_1 : decode cX10_isBelow 1 = .ok (.istore_n 2, 1) := by decide +kernel
theorem dX10_isBelow_2 : decode cX10_isBelow 2 = .ok (.iconst 0, 1) := by decide +kernel
theorem dX10_isBelow_3 : decode cX10_isBelow 3 = .ok (.istore_n 3, 1) := by decide +kernel
theorem dX10_isBelow_4 : decode cX10_isBelow 4 = .ok (.iload_n 3, 1) := by decide +kernel
theorem dX10_isBelow_5 : decode cX10_isBelow 5 = .ok (.bipush 64, 2) := by decide +kernel
theorem dX10_isBelow_7 : decode cX10_isBelow 7 = .ok (.if_icmp .ge 31, 3) := by decide +kernel
theorem dX10_isBelow_10 : decode cX10_isBelow 10 = .ok (.iload_n 2, 1) := by decide +kernel
theorem dX10_isBelow_11 : decode cX10_isBelow 11 = .ok (.ifCond .eq 19, 3) := by decide +kernel
theorem dX10_isBelow_14 : decode cX10_isBelow 14 = .ok (.aload_n 0, 1) := by decide +kernel
theorem dX10_isBelow_15 : decode cX10_isBelow 15 = .ok (.getfield 9, 3) := by decide +kernel
theorem dX10_isBelow_18 : decode cX10_isBelow 18 = .ok (.iconst 0, 1) := by decide +kernel
theorem dX10_isBelow_19 : decode cX10_isBelow 19 = .ok (.iload_n 3, 1) := by decide +kernel
theorem dX10_isBelow_20 : decode cX10_isBelow 20 = .ok (.iadd, 1) := by decide +kernel
theorem dX10_isBelow_21 : decode cX10_isBelow 21 = .ok (.iaload, 1) := by decide +kernel
theorem dX10_isBelow_22 : decode cX10_isBelow 22 = .ok (.iload_n 1, 1) := by decide +kernel
theorem dX10_isBelow_23 : decode cX10_isBelow 23 = .ok (.if_icmp .ge 7, 3) := by decide +kernel
theorem dX10_isBelow_26 : decode cX10_isBelow 26 = .ok (.iconst 1, 1) := by decide +kernel
theorem dX10_isBelow_27 : decode cX10_isBelow 27 = .ok (.goto 4, 3) := by decide +kernel
theorem dX10_isBelow_30 : decode cX10_isBelow 30 = .ok (.iconst 0, 1) := by decide +kernel
theorem dX10_isBelow_31 : decode cX10_isBelow 31 = .ok (.istore_n 2, 1) := by decide +kernel
theorem dX10_isBelow_32 : decode cX10_isBelow 32 = .ok (.iinc 3 1, 3) := by decide +kernel
theorem dX10_isBelow_35 : decode cX10_isBelow 35 = .ok (.goto (-31), 3) := by decide +kernel
theorem dX10_isBelow_38 : decode cX10_isBelow 38 = .ok (.iload_n 2, 1) := by decide +kernel
theorem dX10_isBelow_39 : decode cX10_isBelow 39 = .ok (.ireturn, 1) := by decide +kernel
theorem dX10_ticksUntilBelow_0 : decode cX10_ticksUntilBelow 0 = .ok (.aload_n 0, 1) := by decide +kernel
theorem dX10_ticksUntilBelow_1 : decode cX10_ticksUntilBelow 1 = .ok (.iconst 0, 1) := by decide +kernel
theorem dX10_ticksUntilBelow_2 : decode cX10_ticksUntilBelow 2 = .ok (.putfield 67, 3) := by decide +kernel
theorem dX10_ticksUntilBelow_5 : decode cX10_ticksUntilBelow 5 = .ok (.iload_n 1, 1) := by decide +kernel
theorem dX10_ticksUntilBelow_6 : decode cX10_ticksUntilBelow 6 = .ok (.i2l, 1) := by decide +kernel
theorem dX10_ticksUntilBelow_7 : decode cX10_ticksUntilBelow 7 = .ok (.lconst 1, 1) := by decide +kernel
theorem dX10_ticksUntilBelow_8 : decode cX10_ticksUntilBelow 8 = .ok (.ldc2_w 135, 3) := by decide +kernel
theorem dX10_ticksUntilBelow_11 : decode cX10_ticksUntilBelow 11 = .ok (.invokestatic 85, 3) := by decide +kernel
theorem dX10_ticksUntilBelow_14 : decode cX10_ticksUntilBelow 14 = .ok (.ifCond .ne 9, 3) := by decide +kernel
theorem dX10_ticksUntilBelow_17 : decode cX10_ticksUntilBelow 17 = .ok (.aload_n 0, 1) := by decide +kernel
theorem dX10_ticksUntilBelow_18 : decode cX10_ticksUntilBelow 18 = .ok (.iconst 1, 1) := by decide +kernel
theorem dX10_ticksUntilBelow_19 : decode cX10_ticksUntilBelow 19 = .ok (.invokevirtual 76, 3) := by decide +kernel
theorem dX10_ticksUntilBelow_22 : decode cX10_ticksUntilBelow 22 = .ok (.ireturn, 1) := by decide +kernel
theorem dX10_ticksUntilBelow_23 : decode cX10_ticksUntilBelow 23 = .ok (.iconst 0, 1) := by decide +kernel
theorem dX10_ticksUntilBelow_24 : decode cX10_ticksUntilBelow 24 = .ok (.istore_n 2, 1) := by decide +kernel
theorem dX10_ticksUntilBelow_25 : decode cX10_ticksUntilBelow 25 = .ok (.iload_n 2, 1) := by decide +kernel
theorem dX10_ticksUntilBelow_26 : decode cX10_ticksUntilBelow 26 = .ok (.sipush 202, 3) := by decide +kernel
theorem dX10_ticksUntilBelow_29 : decode cX10_ticksUntilBelow 29 = .ok (.if_icmp .ge 21, 3) := by decide +kernel
theorem dX10_ticksUntilBelow_32 : decode cX10_ticksUntilBelow 32 = .ok (.aload_n 0, 1) := by decide +kernel
theorem dX10_ticksUntilBelow_33 : decode cX10_ticksUntilBelow 33 = .ok (.getfield 16, 3) := by decide +kernel
theorem dX10_ticksUntilBelow_36 : decode cX10_ticksUntilBelow 36 = .ok (.iload_n 2, 1) := by decide +kernel
theorem dX10_ticksUntilBelow_37 : decode cX10_ticksUntilBelow 37 = .ok (.aload_n 0, 1) := by decide +kernel
theorem dX10_ticksUntilBelow_38 : decode cX10_ticksUntilBelow 38 = .ok (.getfield 9, 3) := by decide +kernel
theorem dX10_ticksUntilBelow_41 : decode cX10_ticksUntilBelow 41 = .ok (.iload_n 2, 1) := by decide +kernel
theorem dX10_ticksUntilBelow_42 : decode cX10_ticksUntilBelow 42 = .ok (.iaload, 1) := by decide +kernel
theorem dX10_ticksUntilBelow_43 : decode cX10_ticksUntilBelow 43 = .ok (.iastore, 1) := by decide +kernel
theorem dX10_ticksUntilBelow_44 : decode cX10_ticksUntilBelow 44 = .ok (.iinc 2 1, 3) := by decide +kernel
theorem dX10_ticksUntilBelow_47 : decode cX10_ticksUntilBelow 47 = .ok (.goto (-22), 3) := by decide +kernel
theorem dX10_ticksUntilBelow_50 : decode cX10_ticksUntilBelow 50 = .ok (.iconst 0, 1) := by decide +kernel
theorem dX10_ticksUntilBelow_51 : decode cX10_ticksUntilBelow 51 = .ok (.istore_n 2, 1) := by decide +kernel
theorem dX10_ticksUntilBelow_52 : decode cX10_ticksUntilBelow 52 = .ok (.iload_n 2, 1) := by decide +kernel
theorem dX10_ticksUntilBelow_53 : decode cX10_ticksUntilBelow 53 = .ok (.bipush 20, 2) := by decide +kernel
theorem dX10_ticksUntilBelow_55 : decode cX10_ticksUntilBelow 55 = .ok (.if_icmp .gt 22, 3) := by decide +kernel
theorem dX10_ticksUntilBelow_58 : decode cX10_ticksUntilBelow 58 = .ok (.aload_n 0, 1) := by decide +kernel
theorem dX10_ticksUntilBelow_59 : decode cX10_ticksUntilBelow 59 = .ok (.iload_n 1, 1) := by decide +kernel
theorem dX10_ticksUntilBelow_60 : decode cX10_ticksUntilBelow 60 = .ok (.invokevirtual 157, 3) := by decide +kernel
theorem dX10_ticksUntilBelow_63 : decode cX10_ticksUntilBelow 63 = .ok (.ifCond .ne 14, 3) := by decide +kernel
theorem dX10_ticksUntilBelow_66 : decode cX10_ticksUntilBelow 66 = .ok (.aload_n 0, 1) := by decide +kernel
theorem dX10_ticksUntilBelow_67 : decode cX10_ticksUntilBelow 67 = .ok (.invokevirtual 142, 3) := by decide +kernel
theorem dX10_ticksUntilBelow_70 : decode cX10_ticksUntilBelow 70 = .ok (.pop, 1) := by decide +kernel
theorem dX10_ticksUntilBelow_71 : decode cX10_ticksUntilBelow 71 = .ok (.iinc 2 1, 3) := by decide +kernel
theorem dX10_ticksUntilBelow_74 : decode cX10_ticksUntilBelow 74 = .ok (.goto (-22), 3) := by decide +kernel
theorem dX10_ticksUntilBelow_77 : decode cX10_ticksUntilBelow 77 = .ok (.iconst 0, 1) := by decide +kernel
theorem dX10_ticksUntilBelow_78 : decode cX10_ticksUntilBelow 78 = .ok (.istore_n 3, 1) := by decide +kernel
theorem dX10_ticksUntilBelow_79 : decode cX10_ticksUntilBelow 79 = .ok (.iload_n 3, 1) := by decide +kernel
theorem dX10_ticksUntilBelow_80 : decode cX10_ticksUntilBelow 80 = .ok (.sipush 202, 3) := by decide +kernel
theorem dX10_ticksUntilBelow_83 : decode cX10_ticksUntilBelow 83 = .ok (.if_icmp .ge 21, 3) := by decide +kernel
theorem dX10_ticksUntilBelow_86 : decode cX10_ticksUntilBelow 86 = .ok (.aload_n 0, 1) := by decide +kernel
theorem dX10_ticksUntilBelow_87 : decode cX10_ticksUntilBelow 87 = .ok (.getfield 9, 3) := by decide +kernel
theorem dX10_ticksUntilBelow_90 : decode cX10_ticksUntilBelow 90 = .ok (.iload_n 3, 1) := by decide +kernel
theorem dX10_ticksUntilBelow_91 : decode cX10_ticksUntilBelow 91 = .ok (.aload_n 0, 1) := by decide +kernel
theorem dX10_ticksUntilBelow_92 : decode cX10_ticksUntilBelow 92 = .ok (.getfield 16, 3) := by decide +kernel
theorem dX10_ticksUntilBelow_95 : decode cX10_ticksUntilBelow 95 = .ok (.iload_n 3, 1) := by decide +kernel
theorem dX10_ticksUntilBelow_96 : decode cX10_ticksUntilBelow 96 = .ok (.iaload, 1) := by decide +kernel
theorem dX10_ticksUntilBelow_97 : decode cX10_ticksUntilBelow 97 = .ok (.iastore, 1) := by decide +kernel
theorem dX10_ticksUntilBelow_98 : decode cX10_ticksUntilBelow 98 = .ok (.iinc 3 1, 3) := by decide +kernel
theorem dX10_ticksUntilBelow_101 : decode cX10_ticksUntilBelow 101 = .ok (.goto (-22), 3) := by decide +kernel
theorem dX10_ticksUntilBelow_104 : decode cX10_ticksUntilBelow 104 = .ok (.iload_n 2, 1) := by decide +kernel
theorem dX10_ticksUntilBelow_105 : decode cX10_ticksUntilBelow 105 = .ok (.bipush 20, 2) := by decide +kernel
theorem dX10_ticksUntilBelow_107 : decode cX10_ticksUntilBelow 107 = .ok (.if_icmp .le 11, 3) := by decide +kernel
theorem dX10_ticksUntilBelow_110 : decode cX10_ticksUntilBelow 110 = .ok (.aload_n 0, 1) := by decide +kernel
theorem dX10_ticksUntilBelow_111 : decode cX10_ticksUntilBelow 111 = .ok (.iconst 2, 1) := by decide +kernel
theorem dX10_ticksUntilBelow_112 : decode cX10_ticksUntilBelow 112 = .ok (.invokevirtual 76, 3) := by decide +kernel
theorem dX10_ticksUntilBelow_115 : decode cX10_ticksUntilBelow 115 = .ok (.goto 4, 3) := by decide +kernel
theorem dX10_ticksUntilBelow_118 : decode cX10_ticksUntilBelow 118 = .ok (.iload_n 2, 1) := by decide +kernel
theorem dX10_ticksUntilBelow_119 : decode cX10_ticksUntilBelow 119 = .ok (.ireturn, 1) := by decide +kernel
theorem dX10_touches_0 : decode cX10_touches 0 = .ok (.iload_n 0, 1) := by decide +kernel
theorem dX10_touches_1 : decode cX10_touches 1 = .ok (.bipush 8, 2) := by decide +kernel
theorem dX10_touches_3 : decode cX10_touches 3 = .ok (.irem, 1) := by decide +kernel
theorem dX10_touches_4 : decode cX10_touches 4 = .ok (.iload_n 1, 1) := by decide +kernel
theorem dX10_touches_5 : decode cX10_touches 5 = .ok (.bipush 8, 2) := by decide +kernel
theorem dX10_touches_7 : decode cX10_touches 7 = .ok (.irem, 1) := by decide +kernel
theorem dX10_touches_8 : decode cX10_touches 8 = .ok (.isub, 1) := by decide +kernel
theorem dX10_touches_9 : decode cX10_touches 9 = .ok (.invokestatic 160, 3) := by decide +kernel
theorem dX10_touches_12 : decode cX10_touches 12 = .ok (.istore_n 3, 1) := by decide +kernel
theorem dX10_touches_13 : decode cX10_touches 13 = .ok (.iload_n 0, 1) := by decide +kernel
theorem dX10_touches_14 : decode cX10_touches 14 = .ok (.bipush 8, 2) := by decide +kernel
theorem dX10_touches_16 : decode cX10_touches 16 = .ok (.idiv, 1) := by decide +kernel
theorem dX10_touches_17 : decode cX10_touches 17 = .ok (.iload_n 1, 1) := by decide +kernel
theorem dX10_touches_18 : decode cX10_touches 18 = .ok (.bipush 8, 2) := by decide +kernel
theorem dX10_touches_20 : decode cX10_touches 20 = .ok (.idiv, 1) := by decide +kernel
theorem dX10_touches_21 : decode cX10_touches 21 = .ok (.isub, 1) := by decide +kernel
theorem dX10_touches_22 : decode cX10_touches 22 = .ok (.invokestatic 160, 3) := by decide +kernel
theorem dX10_touches_25 : decode cX10_touches 25 = .ok (.istore 4, 2) := by decide +kernel
theorem dX10_touches_27 : decode cX10_touches 27 = .ok (.iload_n 2, 1) := by decide +kernel
theorem dX10_touches_28 : decode cX10_touches 28 = .ok (.ifCond .eq 22, 3) := by decide +kernel
theorem dX10_touches_31 : decode cX10_touches 31 = .ok (.iload_n 3, 1) := by decide +kernel
theorem dX10_touches_32 : decode cX10_touches 32 = .ok (.iconst 1, 1) := by decide +kernel
theorem dX10_touches_33 : decode cX10_touches 33 = .ok (.if_icmp .gt 13, 3) := by decide +kernel
theorem dX10_touches_36 : decode cX10_touches 36 = .ok (.iload 4, 2) := by decide +kernel
theorem dX10_touches_38 : decode cX10_touches 38 = .ok (.iconst 1, 1) := by decide +kernel
theorem dX10_touches_39 : decode cX10_touches 39 = .ok (.if_icmp .gt 7, 3) := by decide +kernel
theorem dX10_touches_42 : decode cX10_touches 42 = .ok (.iconst 1, 1) := by decide +kernel
theorem dX10_touches_43 : decode cX10_touches 43 = .ok (.goto 20, 3) := by decide +kernel
theorem dX10_touches_46 : decode cX10_touches 46 = .ok (.iconst 0, 1) := by decide +kernel
theorem dX10_touches_47 : decode cX10_touches 47 = .ok (.goto 16, 3) := by decide +kernel
theorem dX10_touches_50 : decode cX10_touches 50 = .ok (.iload_n 3, 1) := by decide +kernel
theorem dX10_touches_51 : decode cX10_touches 51 = .ok (.iload 4, 2) := by decide +kernel
theorem dX10_touches_53 : decode cX10_touches 53 = .ok (.iadd, 1) := by decide +kernel
theorem dX10_touches_54 : decode cX10_touches 54 = .ok (.iconst 1, 1) := by decide +kernel
theorem dX10_touches_55 : decode cX10_touches 55 = .ok (.if_icmp .ne 7, 3) := by decide +kernel
theorem dX10_touches_58 : decode cX10_touches 58 = .ok (.iconst 1, 1) := by decide +kernel
theorem dX10_touches_59 : decode cX10_touches 59 = .ok (.goto 4, 3) := by decide +kernel
theorem dX10_touches_62 : decode cX10_touches 62 = .ok (.iconst 0, 1) := by decide +kernel
theorem dX10_touches_63 : decode cX10_touches 63 = .ok (.ireturn, 1) := by decide +kernel
theorem dX10_spreads_0 : decode cX10_spreads 0 = .ok (.iconst 0, 1) := by decide +kernel
theorem dX10_spreads_1 : decode cX10_spreads 1 = .ok (.istore 4, 2) := by decide +kernel
theorem dX10_spreads_3 : decode cX10_spreads 3 = .ok (.iload 4, 2) := by decide +kernel
theorem dX10_spreads_5 : decode cX10_spreads 5 = .ok (.bipush 64, 2) := by decide +kernel
theorem dX10_spreads_7 : decode cX10_spreads 7 = .ok (.if_icmp .ge 33, 3) := by decide +kernel
theorem dX10_spreads_10 : decode cX10_spreads 10 = .ok (.aload_n 0, 1) := by decide +kernel
theorem dX10_spreads_11 : decode cX10_spreads 11 = .ok (.getfield 42, 3) := by decide +kernel
theorem dX10_spreads_14 : decode cX10_spreads 14 = .ok (.iload 4, 2) := by decide +kernel
theorem dX10_spreads_16 : decode cX10_spreads 16 = .ok (.aload_n 0, 1) := by decide +kernel
theorem dX10_spreads_17 : decode cX10_spreads 17 = .ok (.iload 4, 2) := by decide +kernel
theorem dX10_spreads_19 : decode cX10_spreads 19 = .ok (.iload_n 1, 1) := by decide +kernel
theorem dX10_spreads_20 : decode cX10_spreads 20 = .ok (.invokevirtual 163, 3) := by decide +kernel
theorem dX10_spreads_23 : decode cX10_spreads 23 = .ok (.iload_n 2, 1) := by decide +kernel
theorem dX10_spreads_24 : decode cX10_spreads 24 = .ok (.if_icmp .ne 8, 3) := by decide +kernel
theorem dX10_spreads_27 : decode cX10_spreads 27 = .ok (.iload 4, 2) := by decide +kernel
theorem dX10_spreads_29 : decode cX10_spreads 29 = .ok (.goto 4, 3) := by decide +kernel
theorem dX10_spreads_32 : decode cX10_spreads 32 = .ok (.iconst (-1), 1) := by decide +kernel
theorem dX10_spreads_33 : decode cX10_spreads 33 = .ok (.iastore, 1) := by decide +kernel
theorem dX10_spreads_34 : decode cX10_spreads 34 = .ok (.iinc 4 1, 3) := by decide +kernel
theorem dX10_spreads_37 : decode cX10_spreads 37 = .ok (.goto (-34), 3) := by decide +kernel
theorem dX10_spreads_40 : decode cX10_spreads 40 = .ok (.iconst 1, 1) := by decide +kernel
theorem dX10_spreads_41 : decode cX10_spreads 41 = .ok (.istore 4, 2) := by decide +kernel
theorem dX10_spreads_43 : decode cX10_spreads 43 = .ok (.iload 4, 2) := by decide +kernel
theorem dX10_spreads_45 : decode cX10_spreads 45 = .ok (.ifCond .eq 108, 3) := by decide +kernel
theorem dX10_spreads_48 : decode cX10_spreads 48 = .ok (.iconst 0, 1) := by decide +kernel
theorem dX10_spreads_49 : decode cX10_spreads 49 = .ok (.istore 4, 2) := by decide +kernel
theorem dX10_spreads_51 : decode cX10_spreads 51 = .ok (.iconst 0, 1) := by decide +kernel
theorem dX10_spreads_52 : decode cX10_spreads 52 = .ok (.istore 5, 2) := by decide +kernel
theorem dX10_spreads_54 : decode cX10_spreads 54 = .ok (.iload 5, 2) := by decide +kernel
theorem dX10_spreads_56 : decode cX10_spreads 56 = .ok (.bipush 64, 2) := by decide +kernel
theorem dX10_spreads_58 : decode cX10_spreads 58 = .ok (.if_icmp .ge 92, 3) := by decide +kernel
theorem dX10_spreads_61 : decode cX10_spreads 61 = .ok (.iconst 0, 1) := by decide +kernel
theorem dX10_spreads_62 : decode cX10_spreads 62 = .ok (.istore 6, 2) := by decide +kernel
theorem dX10_spreads_64 : decode cX10_spreads 64 = .ok (.iload 6, 2) := by decide +kernel
theorem dX10_spreads_66 : decode cX10_spreads 66 = .ok (.bipush 64, 2) := by decide +kernel
theorem dX10_spreads_68 : decode cX10_spreads 68 = .ok (.if_icmp .ge 76, 3) := by decide +kernel
theorem dX10_spreads_71 : decode cX10_spreads 71 = .ok (.aload_n 0, 1) := by decide +kernel
theorem dX10_spreads_72 : decode cX10_spreads 72 = .ok (.getfield 42, 3) := by decide +kernel
theorem dX10_spreads_75 : decode cX10_spreads 75 = .ok (.iload 5, 2) := by decide +kernel
theorem dX10_spreads_77 : decode cX10_spreads 77 = .ok (.iaload, 1) := by decide +kernel
theorem dX10_spreads_78 : decode cX10_spreads 78 = .ok (.iconst (-1), 1) := by decide +kernel
theorem dX10_spreads_79 : decode cX10_spreads 79 = .ok (.if_icmp .eq 59, 3) := by decide +kernel
theorem dX10_spreads_82 : decode cX10_spreads 82 = .ok (.aload_n 0, 1) := by decide +kernel
theorem dX10_spreads_83 : decode cX10_spreads 83 = .ok (.getfield 42, 3) := by decide +kernel
theorem dX10_spreads_86 : decode cX10_spreads 86 = .ok (.iload 6, 2) := by decide +kernel
theorem dX10_spreads_88 : decode cX10_spreads 88 = .ok (.iaload, 1) := by decide +kernel
theorem dX10_spreads_89 : decode cX10_spreads 89 = .ok (.iconst (-1), 1) := by decide +kernel
theorem dX10_spreads_90 : decode cX10_spreads 90 = .ok (.if_icmp .eq 48, 3) := by decide +kernel
theorem dX10_spreads_93 : decode cX10_spreads 93 = .ok (.aload_n 0, 1) := by decide +kernel
theorem dX10_spreads_94 : decode cX10_spreads 94 = .ok (.getfield 42, 3) := by decide +kernel
theorem dX10_spreads_97 : decode cX10_spreads 97 = .ok (.iload 6, 2) := by decide +kernel
theorem dX10_spreads_99 : decode cX10_spreads 99 = .ok (.iaload, 1) := by decide +kernel
theorem dX10_spreads_100 : decode cX10_spreads 100 = .ok (.aload_n 0, 1) := by decide +kernel
theorem dX10_spreads_101 : decode cX10_spreads 101 = .ok (.getfield 42, 3) := by decide +kernel
theorem dX10_spreads_104 : decode cX10_spreads 104 = .ok (.iload 5, 2) := by decide +kernel
theorem dX10_spreads_106 : decode cX10_spreads 106 = .ok (.iaload, 1) := by decide +kernel
theorem dX10_spreads_107 : decode cX10_spreads 107 = .ok (.if_icmp .ge 31, 3) := by decide +kernel
theorem dX10_spreads_110 : decode cX10_spreads 110 = .ok (.iload 5, 2) := by decide +kernel
theorem dX10_spreads_112 : decode cX10_spreads 112 = .ok (.iload 6, 2) := by decide +kernel
theorem dX10_spreads_114 : decode cX10_spreads 114 = .ok (.iload_n 3, 1) := by decide +kernel
theorem dX10_spreads_115 : decode cX10_spreads 115 = .ok (.invokestatic 166, 3) := by decide +kernel
theorem dX10_spreads_118 : decode cX10_spreads 118 = .ok (.ifCond .eq 20, 3) := by decide +kernel
theorem dX10_spreads_121 : decode cX10_spreads 121 = .ok (.aload_n 0, 1) := by decide +kernel
theorem dX10_spreads_122 : decode cX10_spreads 122 = .ok (.getfield 42, 3) := by decide +kernel
theorem dX10_spreads_125 : decode cX10_spreads 125 = .ok (.iload 5, 2) := by decide +kernel
theorem dX10_spreads_127 : decode cX10_spreads 127 = .ok (.aload_n 0, 1) := by decide +kernel
theorem dX10_spreads_128 : decode cX10_spreads 128 = .ok (.getfield 42, 3) := by decide +kernel
theorem dX10_spreads_131 : decode cX10_spreads 131 = .ok (.iload 6, 2) := by decide +kernel
theorem dX10_spreads_133 : decode cX10_spreads 133 = .ok (.iaload, 1) := by decide +kernel
theorem dX10_spreads_134 : decode cX10_spreads 134 = .ok (.iastore, 1) := by decide +kernel
theorem dX10_spreads_135 : decode cX10_spreads 135 = .ok (.iconst 1, 1) := by decide +kernel
theorem dX10_spreads_136 : decode cX10_spreads 136 = .ok (.istore 4, 2) := by decide +kernel
theorem dX10_spreads_138 : decode cX10_spreads 138 = .ok (.iinc 6 1, 3) := by decide +kernel
theorem dX10_spreads_141 : decode cX10_spreads 141 = .ok (.goto (-77), 3) := by decide +kernel
theorem dX10_spreads_144 : decode cX10_spreads 144 = .ok (.iinc 5 1, 3) := by decide +kernel
theorem dX10_spreads_147 : decode cX10_spreads 147 = .ok (.goto (-93), 3) := by decide +kernel
theorem dX10_spreads_150 : decode cX10_spreads 150 = .ok (.goto (-107), 3) := by decide +kernel
theorem dX10_spreads_153 : decode cX10_spreads 153 = .ok (.return_, 1) := by decide +kernel
theorem dX10_cellBits_0 : decode cX10_cellBits 0 = .ok (.aload_n 0, 1) := by decide +kernel
theorem dX10_cellBits_1 : decode cX10_cellBits 1 = .ok (.iconst 0, 1) := by decide +kernel
theorem dX10_cellBits_2 : decode cX10_cellBits 2 = .ok (.putfield 67, 3) := by decide +kernel
theorem dX10_cellBits_5 : decode cX10_cellBits 5 = .ok (.iload_n 1, 1) := by decide +kernel
theorem dX10_cellBits_6 : decode cX10_cellBits 6 = .ok (.i2l, 1) := by decide +kernel
theorem dX10_cellBits_7 : decode cX10_cellBits 7 = .ok (.lconst 1, 1) := by decide +kernel
theorem dX10_cellBits_8 : decode cX10_cellBits 8 = .ok (.ldc2_w 135, 3) := by decide +kernel
theorem dX10_cellBits_11 : decode cX10_cellBits 11 = .ok (.invokestatic 85, 3) := by decide +kernel
theorem dX10_cellBits_14 : decode cX10_cellBits 14 = .ok (.ifCond .ne 10, 3) := by decide +kernel
theorem dX10_cellBits_17 : decode cX10_cellBits 17 = .ok (.aload_n 0, 1) := by decide +kernel
theorem dX10_cellBits_18 : decode cX10_cellBits 18 = .ok (.iconst 1, 1) := by decide +kernel
theorem dX10_cellBits_19 : decode cX10_cellBits 19 = .ok (.invokevirtual 76, 3) := by decide +kernel
theorem dX10_cellBits_22 : decode cX10_cellBits 22 = .ok (.i2l, 1) := by decide +kernel
theorem dX10_cellBits_23 : decode cX10_cellBits 23 = .ok (.lreturn, 1) := by decide +kernel
theorem dX10_cellBits_24 : decode cX10_cellBits 24 = .ok (.lconst 0, 1) := by decide +kernel
theorem dX10_cellBits_25 : decode cX10_cellBits 25 = .ok (.lstore_n 2, 1) := by decide +kernel
theorem dX10_cellBits_26 : decode cX10_cellBits 26 = .ok (.iconst 0, 1) := by decide +kernel
theorem dX10_cellBits_27 : decode cX10_cellBits 27 = .ok (.istore 4, 2) := by decide +kernel
theorem dX10_cellBits_29 : decode cX10_cellBits 29 = .ok (.iload 4, 2) := by decide +kernel
theorem dX10_cellBits_31 : decode cX10_cellBits 31 = .ok (.bipush 64, 2) := by decide +kernel
theorem dX10_cellBits_33 : decode cX10_cellBits 33 = .ok (.if_icmp .ge 30, 3) := by decide +kernel
theorem dX10_cellBits_36 : decode cX10_cellBits 36 = .ok (.lload_n 2, 1) := by decide +kernel
theorem dX10_cellBits_37 : decode cX10_cellBits 37 = .ok (.aload_n 0, 1) := by decide +kernel
theorem dX10_cellBits_38 : decode cX10_cellBits 38 = .ok (.iload 4, 2) := by decide +kernel
theorem dX10_cellBits_40 : decode cX10_cellBits 40 = .ok (.iload_n 1, 1) := by decide +kernel
theorem dX10_cellBits_41 : decode cX10_cellBits 41 = .ok (.invokevirtual 163, 3) := by decide +kernel
theorem dX10_cellBits_44 : decode cX10_cellBits 44 = .ok (.ifCond .eq 10, 3) := by decide +kernel
theorem dX10_cellBits_47 : decode cX10_cellBits 47 = .ok (.lconst 1, 1) := by decide +kernel
theorem dX10_cellBits_48 : decode cX10_cellBits 48 = .ok (.iload 4, 2) := by decide +kernel
theorem dX10_cellBits_50 : decode cX10_cellBits 50 = .ok (.lshl, 1) := by decide +kernel
theorem dX10_cellBits_51 : decode cX10_cellBits 51 = .ok (.goto 4, 3) := by decide +kernel
theorem dX10_cellBits_54 : decode cX10_cellBits 54 = .ok (.lconst 0, 1) := by decide +kernel
theorem dX10_cellBits_55 : decode cX10_cellBits 55 = .ok (.lor, 1) := by decide +kernel
theorem dX10_cellBits_56 : decode cX10_cellBits 56 = .ok (.lstore_n 2, 1) := by decide +kernel
theorem dX10_cellBits_57 : decode cX10_cellBits 57 = .ok (.iinc 4 1, 3) := by decide +kernel
theorem dX10_cellBits_60 : decode cX10_cellBits 60 = .ok (.goto (-31), 3) := by decide +kernel
theorem dX10_cellBits_63 : decode cX10_cellBits 63 = .ok (.lload_n 2, 1) := by decide +kernel
theorem dX10_cellBits_64 : decode cX10_cellBits 64 = .ok (.lreturn, 1) := by decide +kernel
theorem dX10_regions_0 : decode cX10_regions 0 = .ok (.aload_n 0, 1) := by decide +kernel
theorem dX10_regions_1 : decode cX10_regions 1 = .ok (.iconst 0, 1) := by decide +kernel
theorem dX10_regions_2 : decode cX10_regions 2 = .ok (.putfield 67, 3) := by decide +kernel
theorem dX10_regions_5 : decode cX10_regions 5 = .ok (.iload_n 1, 1) := by decide +kernel
theorem dX10_regions_6 : decode cX10_regions 6 = .ok (.i2l, 1) := by decide +kernel
theorem dX10_regions_7 : decode cX10_regions 7 = .ok (.lconst 1, 1) := by decide +kernel
theorem dX10_regions_8 : decode cX10_regions 8 = .ok (.ldc2_w 135, 3) := by decide +kernel
theorem dX10_regions_11 : decode cX10_regions 11 = .ok (.invokestatic 85, 3) := by decide +kernel
theorem dX10_regions_14 : decode cX10_regions 14 = .ok (.ifCond .ne 9, 3) := by decide +kernel
theorem dX10_regions_17 : decode cX10_regions 17 = .ok (.aload_n 0, 1) := by decide +kernel
theorem dX10_regions_18 : decode cX10_regions 18 = .ok (.iconst 1, 1) := by decide +kernel
theorem dX10_regions_19 : decode cX10_regions 19 = .ok (.invokevirtual 76, 3) := by decide +kernel
theorem dX10_regions_22 : decode cX10_regions 22 = .ok (.ireturn, 1) := by decide +kernel
theorem dX10_regions_23 : decode cX10_regions 23 = .ok (.aload_n 0, 1) := by decide +kernel
theorem dX10_regions_24 : decode cX10_regions 24 = .ok (.iload_n 1, 1) := by decide +kernel
theorem dX10_regions_25 : decode cX10_regions 25 = .ok (.iconst 1, 1) := by decide +kernel
theorem dX10_regions_26 : decode cX10_regions 26 = .ok (.iconst 0, 1) := by decide +kernel
theorem dX10_regions_27 : decode cX10_regions 27 = .ok (.invokevirtual 170, 3) := by decide +kernel
theorem dX10_regions_30 : decode cX10_regions 30 = .ok (.iconst 0, 1) := by decide +kernel
theorem dX10_regions_31 : decode cX10_regions 31 = .ok (.istore_n 2, 1) := by decide +kernel
theorem dX10_regions_32 : decode cX10_regions 32 = .ok (.iconst 0, 1) := by decide +kernel
theorem dX10_regions_33 : decode cX10_regions 33 = .ok (.istore_n 3, 1) := by decide +kernel
theorem dX10_regions_34 : decode cX10_regions 34 = .ok (.iload_n 3, 1) := by decide +kernel
theorem dX10_regions_35 : decode cX10_regions 35 = .ok (.bipush 64, 2) := by decide +kernel
theorem dX10_regions_37 : decode cX10_regions 37 = .ok (.if_icmp .ge 27, 3) := by decide +kernel
theorem dX10_regions_40 : decode cX10_regions 40 = .ok (.iload_n 2, 1) := by decide +kernel
theorem dX10_regions_41 : decode cX10_regions 41 = .ok (.aload_n 0, 1) := by decide +kernel
theorem dX10_regions_42 : decode cX10_regions 42 = .ok (.getfield 42, 3) := by decide +kernel
theorem dX10_regions_45 : decode cX10_regions 45 = .ok (.iload_n 3, 1) := by decide +kernel
theorem dX10_regions_46 : decode cX10_regions 46 = .ok (.iaload, 1) := by decide +kernel
theorem dX10_regions_47 : decode cX10_regions 47 = .ok (.iload_n 3, 1) := by decide +kernel
theorem dX10_regions_48 : decode cX10_regions 48 = .ok (.if_icmp .ne 7, 3) := by decide +kernel
theorem dX10_regions_51 : decode cX10_regions 51 = .ok (.iconst 1, 1) := by decide +kernel
theorem dX10_regions_52 : decode cX10_regions 52 = .ok (.goto 4, 3) := by decide +kernel
theorem dX10_regions_55 : decode cX10_regions 55 = .ok (.iconst 0, 1) := by decide +kernel
theorem dX10_regions_56 : decode cX10_regions 56 = .ok (.iadd, 1) := by decide +kernel
theorem dX10_regions_57 : decode cX10_regions 57 = .ok (.istore_n 2, 1) := by decide +kernel
theorem dX10_regions_58 : decode cX10_regions 58 = .ok (.iinc 3 1, 3) := by decide +kernel
theorem dX10_regions_61 : decode cX10_regions 61 = .ok (.goto (-27), 3) := by decide +kernel
theorem dX10_regions_64 : decode cX10_regions 64 = .ok (.iload_n 2, 1) := by decide +kernel
theorem dX10_regions_65 : decode cX10_regions 65 = .ok (.ireturn, 1) := by decide +kernel
theorem dX10_regionsByUnions_0 : decode cX10_regionsByUnions 0 = .ok (.aload_n 0, 1) := by decide +kernel
theorem dX10_regionsByUnions_1 : decode cX10_regionsByUnions 1 = .ok (.iload_n 1, 1) := by decide +kernel
theorem dX10_regionsByUnions_2 : decode cX10_regionsByUnions 2 = .ok (.invokevirtual 174, 3) := by decide +kernel
theorem dX10_regionsByUnions_5 : decode cX10_regionsByUnions 5 = .ok (.ireturn, 1) := by decide +kernel
theorem dX10_isAtEdge_0 : decode cX10_isAtEdge 0 = .ok (.iconst 0, 1) := by decide +kernel
theorem dX10_isAtEdge_1 : decode cX10_isAtEdge 1 = .ok (.istore_n 2, 1) := by decide +kernel
theorem dX10_isAtEdge_2 : decode cX10_isAtEdge 2 = .ok (.iconst 0, 1) := by decide +kernel
theorem dX10_isAtEdge_3 : decode cX10_isAtEdge 3 = .ok (.istore_n 3, 1) := by decide +kernel
theorem dX10_isAtEdge_4 : decode cX10_isAtEdge 4 = .ok (.iload_n 3, 1) := by decide +kernel
theorem dX10_isAtEdge_5 : decode cX10_isAtEdge 5 = .ok (.bipush 64, 2) := by decide +kernel
theorem dX10_isAtEdge_7 : decode cX10_isAtEdge 7 = .ok (.if_icmp .ge 73, 3) := by decide +kernel
theorem dX10_isAtEdge_10 : decode cX10_isAtEdge 10 = .ok (.iload_n 3, 1) := by decide +kernel
theorem dX10_isAtEdge_11 : decode cX10_isAtEdge 11 = .ok (.bipush 8, 2) := by decide +kernel
theorem dX10_isAtEdge_13 : decode cX10_isAtEdge 13 = .ok (.irem, 1) := by decide +kernel
theorem dX10_isAtEdge_14 : decode cX10_isAtEdge 14 = .ok (.ifCond .eq 28, 3) := by decide +kernel
theorem dX10_isAtEdge_17 : decode cX10_isAtEdge 17 = .ok (.iload_n 3, 1) := by decide +kernel
theorem dX10_isAtEdge_18 : decode cX10_isAtEdge 18 = .ok (.bipush 8, 2) := by decide +kernel
theorem dX10_isAtEdge_20 : decode cX10_isAtEdge 20 = .ok (.irem, 1) := by decide +kernel
theorem dX10_isAtEdge_21 : decode cX10_isAtEdge 21 = .ok (.bipush 7, 2) := by decide +kernel
theorem dX10_isAtEdge_23 : decode cX10_isAtEdge 23 = .ok (.if_icmp .eq 19, 3) := by decide +kernel
theorem dX10_isAtEdge_26 : decode cX10_isAtEdge 26 = .ok (.iload_n 3, 1) := by decide +kernel
theorem dX10_isAtEdge_27 : decode cX10_isAtEdge 27 = .ok (.bipush 8, 2) := by decide +kernel
theorem dX10_isAtEdge_29 : decode cX10_isAtEdge 29 = .ok (.idiv, 1) := by decide +kernel
theorem dX10_isAtEdge_30 : decode cX10_isAtEdge 30 = .ok (.ifCond .eq 12, 3) := by decide +kernel
theorem dX10_isAtEdge_33 : decode cX10_isAtEdge 33 = .ok (.iload_n 3, 1) := by decide +kernel
theorem dX10_isAtEdge_34 : decode cX10_isAtEdge 34 = .ok (.bipush 8, 2) := by decide +kernel
theorem dX10_isAtEdge_36 : decode cX10_isAtEdge 36 = .ok (.idiv, 1) := by decide +kernel
theorem dX10_isAtEdge_37 : decode cX10_isAtEdge 37 = .ok (.bipush 7, 2) := by decide +kernel
theorem dX10_isAtEdge_39 : decode cX10_isAtEdge 39 = .ok (.if_icmp .ne 7, 3) := by decide +kernel
theorem dX10_isAtEdge_42 : decode cX10_isAtEdge 42 = .ok (.iconst 1, 1) := by decide +kernel
theorem dX10_isAtEdge_43 : decode cX10_isAtEdge 43 = .ok (.goto 4, 3) := by decide +kernel
theorem dX10_isAtEdge_46 : decode cX10_isAtEdge 46 = .ok (.iconst 0, 1) := by decide +kernel
theorem dX10_isAtEdge_47 : decode cX10_isAtEdge 47 = .ok (.istore 4, 2) := by decide +kernel
theorem dX10_isAtEdge_49 : decode cX10_isAtEdge 49 = .ok (.iload_n 2, 1) := by decide +kernel
theorem dX10_isAtEdge_50 : decode cX10_isAtEdge 50 = .ok (.ifCond .ne 18, 3) := by decide +kernel
theorem dX10_isAtEdge_53 : decode cX10_isAtEdge 53 = .ok (.aload_n 0, 1) := by decide +kernel
theorem dX10_isAtEdge_54 : decode cX10_isAtEdge 54 = .ok (.getfield 42, 3) := by decide +kernel
theorem dX10_isAtEdge_57 : decode cX10_isAtEdge 57 = .ok (.iload_n 3, 1) := by decide +kernel
theorem dX10_isAtEdge_58 : decode cX10_isAtEdge 58 = .ok (.iaload, 1) := by decide +kernel
theorem dX10_isAtEdge_59 : decode cX10_isAtEdge 59 = .ok (.iload_n 1, 1) := by decide +kernel
theorem dX10_isAtEdge_60 : decode cX10_isAtEdge 60 = .ok (.if_icmp .ne 12, 3) := by decide +kernel
theorem dX10_isAtEdge_63 : decode cX10_isAtEdge 63 = .ok (.iload 4, 2) := by decide +kernel
theorem dX10_isAtEdge_65 : decode cX10_isAtEdge 65 = .ok (.ifCond .eq 7, 3) := by decide +kernel
theorem dX10_isAtEdge_68 : decode cX10_isAtEdge 68 = .ok (.iconst 1, 1) := by decide +kernel
theorem dX10_isAtEdge_69 : decode cX10_isAtEdge 69 = .ok (.goto 4, 3) := by decide +kernel
theorem dX10_isAtEdge_72 : decode cX10_isAtEdge 72 = .ok (.iconst 0, 1) := by decide +kernel
theorem dX10_isAtEdge_73 : decode cX10_isAtEdge 73 = .ok (.istore_n 2, 1) := by decide +kernel
theorem dX10_isAtEdge_74 : decode cX10_isAtEdge 74 = .ok (.iinc 3 1, 3) := by decide +kernel
theorem dX10_isAtEdge_77 : decode cX10_isAtEdge 77 = .ok (.goto (-73), 3) := by decide +kernel
theorem dX10_isAtEdge_80 : decode cX10_isAtEdge 80 = .ok (.iload_n 2, 1) := by decide +kernel
theorem dX10_isAtEdge_81 : decode cX10_isAtEdge 81 = .ok (.ireturn, 1) := by decide +kernel
theorem dX10_holes_0 : decode cX10_holes 0 = .ok (.aload_n 0, 1) := by decide +kernel
theorem dX10_holes_1 : decode cX10_holes 1 = .ok (.iconst 0, 1) := by decide +kernel
theorem dX10_holes_2 : decode cX10_holes 2 = .ok (.putfield 67, 3) := by decide +kernel
theorem dX10_holes_5 : decode cX10_holes 5 = .ok (.iload_n 1, 1) := by decide +kernel
theorem dX10_holes_6 : decode cX10_holes 6 = .ok (.i2l, 1) := by decide +kernel
theorem dX10_holes_7 : decode cX10_holes 7 = .ok (.lconst 1, 1) := by decide +kernel
theorem dX10_holes_8 : decode cX10_holes 8 = .ok (.ldc2_w 135, 3) := by decide +kernel
theorem dX10_holes_11 : decode cX10_holes 11 = .ok (.invokestatic 85, 3) := by decide +kernel
theorem dX10_holes_14 : decode cX10_holes 14 = .ok (.ifCond .ne 9, 3) := by decide +kernel
theorem dX10_holes_17 : decode cX10_holes 17 = .ok (.aload_n 0, 1) := by decide +kernel
theorem dX10_holes_18 : decode cX10_holes 18 = .ok (.iconst 1, 1) := by decide +kernel
theorem dX10_holes_19 : decode cX10_holes 19 = .ok (.invokevirtual 76, 3) := by decide +kernel
theorem dX10_holes_22 : decode cX10_holes 22 = .ok (.ireturn, 1) := by decide +kernel
theorem dX10_holes_23 : decode cX10_holes 23 = .ok (.aload_n 0, 1) := by decide +kernel
theorem dX10_holes_24 : decode cX10_holes 24 = .ok (.iload_n 1, 1) := by decide +kernel
theorem dX10_holes_25 : decode cX10_holes 25 = .ok (.iconst 0, 1) := by decide +kernel
theorem dX10_holes_26 : decode cX10_holes 26 = .ok (.iconst 1, 1) := by decide +kernel
theorem dX10_holes_27 : decode cX10_holes 27 = .ok (.invokevirtual 170, 3) := by decide +kernel
theorem dX10_holes_30 : decode cX10_holes 30 = .ok (.iconst 0, 1) := by decide +kernel
theorem dX10_holes_31 : decode cX10_holes 31 = .ok (.istore_n 2, 1) := by decide +kernel
theorem dX10_holes_32 : decode cX10_holes 32 = .ok (.iconst 0, 1) := by decide +kernel
theorem dX10_holes_33 : decode cX10_holes 33 = .ok (.istore_n 3, 1) := by decide +kernel
theorem dX10_holes_34 : decode cX10_holes 34 = .ok (.iload_n 3, 1) := by decide +kernel
theorem dX10_holes_35 : decode cX10_holes 35 = .ok (.bipush 64, 2) := by decide +kernel
theorem dX10_holes_37 : decode cX10_holes 37 = .ok (.if_icmp .ge 35, 3) := by decide +kernel
theorem dX10_holes_40 : decode cX10_holes 40 = .ok (.iload_n 2, 1) := by decide +kernel
theorem dX10_holes_41 : decode cX10_holes 41 = .ok (.aload_n 0, 1) := by decide +kernel
theorem dX10_holes_42 : decode cX10_holes 42 = .ok (.getfield 42, 3) := by decide +kernel
theorem dX10_holes_45 : decode cX10_holes 45 = .ok (.iload_n 3, 1) := by decide +kernel
theorem dX10_holes_46 : decode cX10_holes 46 = .ok (.iaload, 1) := by decide +kernel
theorem dX10_holes_47 : decode cX10_holes 47 = .ok (.iload_n 3, 1) := by decide +kernel
theorem dX10_holes_48 : decode cX10_holes 48 = .ok (.if_icmp .ne 15, 3) := by decide +kernel
theorem dX10_holes_51 : decode cX10_holes 51 = .ok (.aload_n 0, 1) := by decide +kernel
theorem dX10_holes_52 : decode cX10_holes 52 = .ok (.iload_n 3, 1) := by decide +kernel
theorem dX10_holes_53 : decode cX10_holes 53 = .ok (.invokevirtual 177, 3) := by decide +kernel
theorem dX10_holes_56 : decode cX10_holes 56 = .ok (.ifCond .ne 7, 3) := by decide +kernel
theorem dX10_holes_59 : decode cX10_holes 59 = .ok (.iconst 1, 1) := by decide +kernel
theorem dX10_holes_60 : decode cX10_holes 60 = .ok (.goto 4, 3) := by decide +kernel
theorem dX10_holes_63 : decode cX10_holes 63 = .ok (.iconst 0, 1) := by decide +kernel
theorem dX10_holes_64 : decode cX10_holes 64 = .ok (.iadd, 1) := by decide +kernel
theorem dX10_holes_65 : decode cX10_holes 65 = .ok (.istore_n 2, 1) := by decide +kernel
theorem dX10_holes_66 : decode cX10_holes 66 = .ok (.iinc 3 1, 3) := by decide +kernel
theorem dX10_holes_69 : decode cX10_holes 69 = .ok (.goto (-35), 3) := by decide +kernel
theorem dX10_holes_72 : decode cX10_holes 72 = .ok (.iload_n 2, 1) := by decide +kernel
theorem dX10_holes_73 : decode cX10_holes 73 = .ok (.ireturn, 1) := by decide +kernel
theorem dX10_holesBySquares_0 : decode cX10_holesBySquares 0 = .ok (.aload_n 0, 1) := by decide +kernel
theorem dX10_holesBySquares_1 : decode cX10_holesBySquares 1 = .ok (.iload_n 1, 1) := by decide +kernel
theorem dX10_holesBySquares_2 : decode cX10_holesBySquares 2 = .ok (.invokevirtual 180, 3) := by decide +kernel
theorem dX10_holesBySquares_5 : decode cX10_holesBySquares 5 = .ok (.ireturn, 1) := by decide +kernel
theorem dX10_contourLength_0 : decode cX10_contourLength 0 = .ok (.aload_n 0, 1) := by decide +kernel
theorem dX10_contourLength_1 : decode cX10_contourLength 1 = .ok (.iconst 0, 1) := by decide +kernel
theorem dX10_contourLength_2 : decode cX10_contourLength 2 = .ok (.putfield 67, 3) := by decide +kernel
theorem dX10_contourLength_5 : decode cX10_contourLength 5 = .ok (.iload_n 1, 1) := by decide +kernel
theorem dX10_contourLength_6 : decode cX10_contourLength 6 = .ok (.i2l, 1) := by decide +kernel
theorem dX10_contourLength_7 : decode cX10_contourLength 7 = .ok (.lconst 1, 1) := by decide +kernel
theorem dX10_contourLength_8 : decode cX10_contourLength 8 = .ok (.ldc2_w 135, 3) := by decide +kernel
theorem dX10_contourLength_11 : decode cX10_contourLength 11 = .ok (.invokestatic 85, 3) := by decide +kernel
theorem dX10_contourLength_14 : decode cX10_contourLength 14 = .ok (.ifCond .ne 9, 3) := by decide +kernel
theorem dX10_contourLength_17 : decode cX10_contourLength 17 = .ok (.aload_n 0, 1) := by decide +kernel
theorem dX10_contourLength_18 : decode cX10_contourLength 18 = .ok (.iconst 1, 1) := by decide +kernel
theorem dX10_contourLength_19 : decode cX10_contourLength 19 = .ok (.invokevirtual 76, 3) := by decide +kernel
theorem dX10_contourLength_22 : decode cX10_contourLength 22 = .ok (.ireturn, 1) := by decide +kernel
theorem dX10_contourLength_23 : decode cX10_contourLength 23 = .ok (.iconst 0, 1) := by decide +kernel
theorem dX10_contourLength_24 : decode cX10_contourLength 24 = .ok (.istore_n 2, 1) := by decide +kernel
theorem dX10_contourLength_25 : decode cX10_contourLength 25 = .ok (.iconst 0, 1) := by decide +kernel
theorem dX10_contourLength_26 : decode cX10_contourLength 26 = .ok (.istore_n 3, 1) := by decide +kernel
theorem dX10_contourLength_27 : decode cX10_contourLength 27 = .ok (.iload_n 3, 1) := by decide +kernel
theorem dX10_contourLength_28 : decode cX10_contourLength 28 = .ok (.bipush 64, 2) := by decide +kernel
theorem dX10_contourLength_30 : decode cX10_contourLength 30 = .ok (.if_icmp .ge 65, 3) := by decide +kernel
theorem dX10_contourLength_33 : decode cX10_contourLength 33 = .ok (.iconst 0, 1) := by decide +kernel
theorem dX10_contourLength_34 : decode cX10_contourLength 34 = .ok (.istore 4, 2) := by decide +kernel
theorem dX10_contourLength_36 : decode cX10_contourLength 36 = .ok (.iload 4, 2) := by decide +kernel
theorem dX10_contourLength_38 : decode cX10_contourLength 38 = .ok (.iconst 4, 1) := by decide +kernel
theorem dX10_contourLength_39 : decode cX10_contourLength 39 = .ok (.if_icmp .ge 50, 3) := by decide +kernel
theorem dX10_contourLength_42 : decode cX10_contourLength 42 = .ok (.aload_n 0, 1) := by decide +kernel
theorem dX10_contourLength_43 : decode cX10_contourLength 43 = .ok (.iload_n 3, 1) := by decide +kernel
theorem dX10_contourLength_44 : decode cX10_contourLength 44 = .ok (.iload_n 1, 1) := by decide +kernel
theorem dX10_contourLength_45 : decode cX10_contourLength 45 = .ok (.invokevirtual 163, 3) := by decide +kernel
theorem dX10_contourLength_48 : decode cX10_contourLength 48 = .ok (.ifCond .eq 41, 3) := by decide +kernel
theorem dX10_contourLength_51 : decode cX10_contourLength 51 = .ok (.iload_n 3, 1) := by decide +kernel
theorem dX10_contourLength_52 : decode cX10_contourLength 52 = .ok (.iload 4, 2) := by decide +kernel
theorem dX10_contourLength_54 : decode cX10_contourLength 54 = .ok (.invokestatic 93, 3) := by decide +kernel
theorem dX10_contourLength_57 : decode cX10_contourLength 57 = .ok (.istore 5, 2) := by decide +kernel
theorem dX10_contourLength_59 : decode cX10_contourLength 59 = .ok (.iload_n 2, 1) := by decide +kernel
theorem dX10_contourLength_60 : decode cX10_contourLength 60 = .ok (.iload 5, 2) := by decide +kernel
theorem dX10_contourLength_62 : decode cX10_contourLength 62 = .ok (.iconst (-1), 1) := by decide +kernel
theorem dX10_contourLength_63 : decode cX10_contourLength 63 = .ok (.if_icmp .eq 13, 3) := by decide +kernel
theorem dX10_contourLength_66 : decode cX10_contourLength 66 = .ok (.aload_n 0, 1) := by decide +kernel
theorem dX10_contourLength_67 : decode cX10_contourLength 67 = .ok (.iload 5, 2) := by decide +kernel
theorem dX10_contourLength_69 : decode cX10_contourLength 69 = .ok (.iload_n 1, 1) := by decide +kernel
theorem dX10_contourLength_70 : decode cX10_contourLength 70 = .ok (.invokevirtual 163, 3) := by decide +kernel
theorem dX10_contourLength_73 : decode cX10_contourLength 73 = .ok (.ifCond .ne 7, 3) := by decide +kernel
theorem dX10_contourLength_76 : decode cX10_contourLength 76 = .ok (.iconst 1, 1) := by decide +kernel
theorem dX10_contourLength_77 : decode cX10_contourLength 77 = .ok (.goto 4, 3) := by decide +kernel
theorem dX10_contourLength_80 : decode cX10_contourLength 80 = .ok (.iconst 0, 1) := by decide +kernel
theorem dX10_contourLength_81 : decode cX10_contourLength 81 = .ok (.iadd, 1) := by decide +kernel
theorem dX10_contourLength_82 : decode cX10_contourLength 82 = .ok (.istore_n 2, 1) := by decide +kernel
theorem dX10_contourLength_83 : decode cX10_contourLength 83 = .ok (.iinc 4 1, 3) := by decide +kernel
theorem dX10_contourLength_86 : decode cX10_contourLength 86 = .ok (.goto (-50), 3) := by decide +kernel
theorem dX10_contourLength_89 : decode cX10_contourLength 89 = .ok (.iinc 3 1, 3) := by decide +kernel
theorem dX10_contourLength_92 : decode cX10_contourLength 92 = .ok (.goto (-65), 3) := by decide +kernel
theorem dX10_contourLength_95 : decode cX10_contourLength 95 = .ok (.iload_n 2, 1) := by decide +kernel
theorem dX10_contourLength_96 : decode cX10_contourLength 96 = .ok (.ireturn, 1) := by decide +kernel
theorem dX10_contourLengthByPairs_0 : decode cX10_contourLengthByPairs 0 = .ok (.aload_n 0, 1) := by decide +kernel
theorem dX10_contourLengthByPairs_1 : decode cX10_contourLengthByPairs 1 = .ok (.iload_n 1, 1) := by decide +kernel
theorem dX10_contourLengthByPairs_2 : decode cX10_contourLengthByPairs 2 = .ok (.invokevirtual 183, 3) := by decide +kernel
theorem dX10_contourLengthByPairs_5 : decode cX10_contourLengthByPairs 5 = .ok (.ireturn, 1) := by decide +kernel
theorem dX10_regionSize_0 : decode cX10_regionSize 0 = .ok (.aload_n 0, 1) := by decide +kernel
theorem dX10_regionSize_1 : decode cX10_regionSize 1 = .ok (.iconst 0, 1) := by decide +kernel
theorem dX10_regionSize_2 : decode cX10_regionSize 2 = .ok (.putfield 67, 3) := by decide +kernel
theorem dX10_regionSize_5 : decode cX10_regionSize 5 = .ok (.iload_n 1, 1) := by decide +kernel
theorem dX10_regionSize_6 : decode cX10_regionSize 6 = .ok (.iload_n 2, 1) := by decide +kernel
theorem dX10_regionSize_7 : decode cX10_regionSize 7 = .ok (.invokestatic 108, 3) := by decide +kernel
theorem dX10_regionSize_10 : decode cX10_regionSize 10 = .ok (.ifCond .ne 9, 3) := by decide +kernel
theorem dX10_regionSize_13 : decode cX10_regionSize 13 = .ok (.aload_n 0, 1) := by decide +kernel
theorem dX10_regionSize_14 : decode cX10_regionSize 14 = .ok (.iconst 1, 1) := by decide +kernel
theorem dX10_regionSize_15 : decode cX10_regionSize 15 = .ok (.invokevirtual 76, 3) := by decide +kernel
theorem dX10_regionSize_18 : decode cX10_regionSize 18 = .ok (.ireturn, 1) := by decide +kernel
theorem dX10_regionSize_19 : decode cX10_regionSize 19 = .ok (.iload_n 3, 1) := by decide +kernel
theorem dX10_regionSize_20 : decode cX10_regionSize 20 = .ok (.i2l, 1) := by decide +kernel
theorem dX10_regionSize_21 : decode cX10_regionSize 21 = .ok (.lconst 1, 1) := by decide +kernel
theorem dX10_regionSize_22 : decode cX10_regionSize 22 = .ok (.ldc2_w 135, 3) := by decide +kernel
theorem dX10_regionSize_25 : decode cX10_regionSize 25 = .ok (.invokestatic 85, 3) := by decide +kernel
theorem dX10_regionSize_28 : decode cX10_regionSize 28 = .ok (.ifCond .ne 9, 3) := by decide +kernel
theorem dX10_regionSize_31 : decode cX10_regionSize 31 = .ok (.aload_n 0, 1) := by decide +kernel
theorem dX10_regionSize_32 : decode cX10_regionSize 32 = .ok (.iconst 2, 1) := by decide +kernel
theorem dX10_regionSize_33 : decode cX10_regionSize 33 = .ok (.invokevirtual 76, 3) := by decide +kernel
theorem dX10_regionSize_36 : decode cX10_regionSize 36 = .ok (.ireturn, 1) := by decide +kernel
theorem dX10_regionSize_37 : decode cX10_regionSize 37 = .ok (.aload_n 0, 1) := by decide +kernel
theorem dX10_regionSize_38 : decode cX10_regionSize 38 = .ok (.iload_n 3, 1) := by decide +kernel
theorem dX10_regionSize_39 : decode cX10_regionSize 39 = .ok (.iconst 1, 1) := by decide +kernel
theorem dX10_regionSize_40 : decode cX10_regionSize 40 = .ok (.iconst 0, 1) := by decide +kernel
theorem dX10_regionSize_41 : decode cX10_regionSize 41 = .ok (.invokevirtual 170, 3) := by decide +kernel
theorem dX10_regionSize_44 : decode cX10_regionSize 44 = .ok (.aload_n 0, 1) := by decide +kernel
theorem dX10_regionSize_45 : decode cX10_regionSize 45 = .ok (.getfield 42, 3) := by decide +kernel
theorem dX10_regionSize_48 : decode cX10_regionSize 48 = .ok (.bipush 8, 2) := by decide +kernel
theorem dX10_regionSize_50 : decode cX10_regionSize 50 = .ok (.iload_n 2, 1) := by decide +kernel
theorem dX10_regionSize_51 : decode cX10_regionSize 51 = .ok (.imul, 1) := by decide +kernel
theorem dX10_regionSize_52 : decode cX10_regionSize 52 = .ok (.iload_n 1, 1) := by decide +kernel
theorem dX10_regionSize_53 : decode cX10_regionSize 53 = .ok (.iadd, 1) := by decide +kernel
theorem dX10_regionSize_54 : decode cX10_regionSize 54 = .ok (.iaload, 1) := by decide +kernel
theorem dX10_regionSize_55 : decode cX10_regionSize 55 = .ok (.istore 4, 2) := by decide +kernel
theorem dX10_regionSize_57 : decode cX10_regionSize 57 = .ok (.iconst 0, 1) := by decide +kernel
theorem dX10_regionSize_58 : decode cX10_regionSize 58 = .ok (.istore 5, 2) := by decide +kernel
theorem dX10_regionSize_60 : decode cX10_regionSize 60 = .ok (.iconst 0, 1) := by decide +kernel
theorem dX10_regionSize_61 : decode cX10_regionSize 61 = .ok (.istore 6, 2) := by decide +kernel
theorem dX10_regionSize_63 : decode cX10_regionSize 63 = .ok (.iload 6, 2) := by decide +kernel
theorem dX10_regionSize_65 : decode cX10_regionSize 65 = .ok (.bipush 64, 2) := by decide +kernel
theorem dX10_regionSize_67 : decode cX10_regionSize 67 = .ok (.if_icmp .ge 37, 3) := by decide +kernel
theorem dX10_regionSize_70 : decode cX10_regionSize 70 = .ok (.iload 5, 2) := by decide +kernel
theorem dX10_regionSize_72 : decode cX10_regionSize 72 = .ok (.iload 4, 2) := by decide +kernel
theorem dX10_regionSize_74 : decode cX10_regionSize 74 = .ok (.iconst (-1), 1) := by decide +kernel
theorem dX10_regionSize_75 : decode cX10_regionSize 75 = .ok (.if_icmp .eq 19, 3) := by decide +kernel
theorem dX10_regionSize_78 : decode cX10_regionSize 78 = .ok (.aload_n 0, 1) := by decide +kernel
theorem dX10_regionSize_79 : decode cX10_regionSize 79 = .ok (.getfield 42, 3) := by decide +kernel
theorem dX10_regionSize_82 : decode cX10_regionSize 82 = .ok (.iload 6, 2) := by decide +kernel
theorem dX10_regionSize_84 : decode cX10_regionSize 84 = .ok (.iaload, 1) := by decide +kernel
theorem dX10_regionSize_85 : decode cX10_regionSize 85 = .ok (.iload 4, 2) := by decide +kernel
theorem dX10_regionSize_87 : decode cX10_regionSize 87 = .ok (.if_icmp .ne 7, 3) := by decide +kernel
theorem dX10_regionSize_90 : decode cX10_regionSize 90 = .ok (.iconst 1, 1) := by decide +kernel
theorem dX10_regionSize_91 : decode cX10_regionSize 91 = .ok (.goto 4, 3) := by decide +kernel
theorem dX10_regionSize_94 : decode cX10_regionSize 94 = .ok (.iconst 0, 1) := by decide +kernel
theorem dX10_regionSize_95 : decode cX10_regionSize 95 = .ok (.iadd, 1) := by decide +kernel
theorem dX10_regionSize_96 : decode cX10_regionSize 96 = .ok (.istore 5, 2) := by decide +kernel
theorem dX10_regionSize_98 : decode cX10_regionSize 98 = .ok (.iinc 6 1, 3) := by decide +kernel
theorem dX10_regionSize_101 : decode cX10_regionSize 101 = .ok (.goto (-38), 3) := by decide +kernel
theorem dX10_regionSize_104 : decode cX10_regionSize 104 = .ok (.iload 5, 2) := by decide +kernel
theorem dX10_regionSize_106 : decode cX10_regionSize 106 = .ok (.ireturn, 1) := by decide +kernel
theorem dX10_coolestPeak_0 : decode cX10_coolestPeak 0 = .ok (.aload_n 0, 1) := by decide +kernel
theorem dX10_coolestPeak_1 : decode cX10_coolestPeak 1 = .ok (.iconst 0, 1) := by decide +kernel
theorem dX10_coolestPeak_2 : decode cX10_coolestPeak 2 = .ok (.putfield 67, 3) := by decide +kernel
theorem dX10_coolestPeak_5 : decode cX10_coolestPeak 5 = .ok (.iload_n 1, 1) := by decide +kernel
theorem dX10_coolestPeak_6 : decode cX10_coolestPeak 6 = .ok (.iload_n 2, 1) := by decide +kernel
theorem dX10_coolestPeak_7 : decode cX10_coolestPeak 7 = .ok (.invokestatic 108, 3) := by decide +kernel
theorem dX10_coolestPeak_10 : decode cX10_coolestPeak 10 = .ok (.ifCond .eq 12, 3) := by decide +kernel
theorem dX10_coolestPeak_13 : decode cX10_coolestPeak 13 = .ok (.iload_n 3, 1) := by decide +kernel
theorem dX10_coolestPeak_14 : decode cX10_coolestPeak 14 = .ok (.iload 4, 2) := by decide +kernel
theorem dX10_coolestPeak_16 : decode cX10_coolestPeak 16 = .ok (.invokestatic 108, 3) := by decide +kernel
theorem dX10_coolestPeak_19 : decode cX10_coolestPeak 19 = .ok (.ifCond .ne 9, 3) := by decide +kernel
theorem dX10_coolestPeak_22 : decode cX10_coolestPeak 22 = .ok (.aload_n 0, 1) := by decide +kernel
theorem dX10_coolestPeak_23 : decode cX10_coolestPeak 23 = .ok (.iconst 1, 1) := by decide +kernel
theorem dX10_coolestPeak_24 : decode cX10_coolestPeak 24 = .ok (.invokevirtual 76, 3) := by decide +kernel
theorem dX10_coolestPeak_27 : decode cX10_coolestPeak 27 = .ok (.ireturn, 1) := by decide +kernel
theorem dX10_coolestPeak_28 : decode cX10_coolestPeak 28 = .ok (.bipush 8, 2) := by decide +kernel
theorem dX10_coolestPeak_30 : decode cX10_coolestPeak 30 = .ok (.iload_n 2, 1) := by decide +kernel
theorem dX10_coolestPeak_31 : decode cX10_coolestPeak 31 = .ok (.imul, 1) := by decide +kernel
theorem dX10_coolestPeak_32 : decode cX10_coolestPeak 32 = .ok (.iload_n 1, 1) := by decide +kernel
theorem dX10_coolestPeak_33 : decode cX10_coolestPeak 33 = .ok (.iadd, 1) := by decide +kernel
theorem dX10_coolestPeak_34 : decode cX10_coolestPeak 34 = .ok (.istore 5, 2) := by decide +kernel
theorem dX10_coolestPeak_36 : decode cX10_coolestPeak 36 = .ok (.iconst 0, 1) := by decide +kernel
theorem dX10_coolestPeak_37 : decode cX10_coolestPeak 37 = .ok (.istore 6, 2) := by decide +kernel
theorem dX10_coolestPeak_39 : decode cX10_coolestPeak 39 = .ok (.iload 6, 2) := by decide +kernel
theorem dX10_coolestPeak_41 : decode cX10_coolestPeak 41 = .ok (.bipush 64, 2) := by decide +kernel
theorem dX10_coolestPeak_43 : decode cX10_coolestPeak 43 = .ok (.if_icmp .ge 45, 3) := by decide +kernel
theorem dX10_coolestPeak_46 : decode cX10_coolestPeak 46 = .ok (.aload_n 0, 1) := by decide +kernel
theorem dX10_coolestPeak_47 : decode cX10_coolestPeak 47 = .ok (.getfield 45, 3) := by decide +kernel
theorem dX10_coolestPeak_50 : decode cX10_coolestPeak 50 = .ok (.iload 6, 2) := by decide +kernel
theorem dX10_coolestPeak_52 : decode cX10_coolestPeak 52 = .ok (.iload 6, 2) := by decide +kernel
theorem dX10_coolestPeak_54 : decode cX10_coolestPeak 54 = .ok (.iload 5, 2) := by decide +kernel
theorem dX10_coolestPeak_56 : decode cX10_coolestPeak 56 = .ok (.if_icmp .ne 24, 3) := by decide +kernel
theorem dX10_coolestPeak_59 : decode cX10_coolestPeak 59 = .ok (.aload_n 0, 1) := by decide +kernel
theorem dX10_coolestPeak_60 : decode cX10_coolestPeak 60 = .ok (.iload 6, 2) := by decide +kernel
theorem dX10_coolestPeak_62 : decode cX10_coolestPeak 62 = .ok (.invokevirtual 89, 3) := by decide +kernel
theorem dX10_coolestPeak_65 : decode cX10_coolestPeak 65 = .ok (.ifCond .ne 15, 3) := by decide +kernel
theorem dX10_coolestPeak_68 : decode cX10_coolestPeak 68 = .ok (.aload_n 0, 1) := by decide +kernel
theorem dX10_coolestPeak_69 : decode cX10_coolestPeak 69 = .ok (.getfield 9, 3) := by decide +kernel
theorem dX10_coolestPeak_72 : decode cX10_coolestPeak 72 = .ok (.iconst 0, 1) := by decide +kernel
theorem dX10_coolestPeak_73 : decode cX10_coolestPeak 73 = .ok (.iload 6, 2) := by decide +kernel
theorem dX10_coolestPeak_75 : decode cX10_coolestPeak 75 = .ok (.iadd, 1) := by decide +kernel
theorem dX10_coolestPeak_76 : decode cX10_coolestPeak 76 = .ok (.iaload, 1) := by decide +kernel
theorem dX10_coolestPeak_77 : decode cX10_coolestPeak 77 = .ok (.goto 4, 3) := by decide +kernel
theorem dX10_coolestPeak_80 : decode cX10_coolestPeak 80 = .ok (.iconst (-1), 1) := by decide +kernel
theorem dX10_coolestPeak_81 : decode cX10_coolestPeak 81 = .ok (.iastore, 1) := by decide +kernel
theorem dX10_coolestPeak_82 : decode cX10_coolestPeak 82 = .ok (.iinc 6 1, 3) := by decide +kernel
theorem dX10_coolestPeak_85 : decode cX10_coolestPeak 85 = .ok (.goto (-46), 3) := by decide +kernel
theorem dX10_coolestPeak_88 : decode cX10_coolestPeak 88 = .ok (.iconst 1, 1) := by decide +kernel
theorem dX10_coolestPeak_89 : decode cX10_coolestPeak 89 = .ok (.istore 6, 2) := by decide +kernel
theorem dX10_coolestPeak_91 : decode cX10_coolestPeak 91 = .ok (.iload 6, 2) := by decide +kernel
theorem dX10_coolestPeak_93 : decode cX10_coolestPeak 93 = .ok (.ifCond .eq 141, 3) := by decide +kernel
theorem dX10_coolestPeak_96 : decode cX10_coolestPeak 96 = .ok (.iconst 0, 1) := by decide +kernel
theorem dX10_coolestPeak_97 : decode cX10_coolestPeak 97 = .ok (.istore 6, 2) := by decide +kernel
theorem dX10_coolestPeak_99 : decode cX10_coolestPeak 99 = .ok (.iconst 0, 1) := by decide +kernel
theorem dX10_coolestPeak_100 : decode cX10_coolestPeak 100 = .ok (.istore 7, 2) := by decide +kernel
theorem dX10_coolestPeak_102 : decode cX10_coolestPeak 102 = .ok (.iload 7, 2) := by decide +kernel
theorem dX10_coolestPeak_104 : decode cX10_coolestPeak 104 = .ok (.bipush 64, 2) := by decide +kernel
theorem dX10_coolestPeak_106 : decode cX10_coolestPeak 106 = .ok (.if_icmp .ge 125, 3) := by decide +kernel
theorem dX10_coolestPeak_109 : decode cX10_coolestPeak 109 = .ok (.iconst 0, 1) := by decide +kernel
theorem dX10_coolestPeak_110 : decode cX10_coolestPeak 110 = .ok (.istore 8, 2) := by decide +kernel
theorem dX10_coolestPeak_112 : decode cX10_coolestPeak 112 = .ok (.iload 8, 2) := by decide +kernel
theorem dX10_coolestPeak_114 : decode cX10_coolestPeak 114 = .ok (.iconst 4, 1) := by decide +kernel
theorem dX10_coolestPeak_115 : decode cX10_coolestPeak 115 = .ok (.if_icmp .ge 110, 3) := by decide +kernel
theorem dX10_coolestPeak_118 : decode cX10_coolestPeak 118 = .ok (.aload_n 0, 1) := by decide +kernel
theorem dX10_coolestPeak_119 : decode cX10_coolestPeak 119 = .ok (.iload 7, 2) := by decide +kernel
theorem dX10_coolestPeak_121 : decode cX10_coolestPeak 121 = .ok (.invokevirtual 89, 3) := by decide +kernel
theorem dX10_coolestPeak_124 : decode cX10_coolestPeak 124 = .ok (.ifCond .ne 101, 3) := by decide +kernel
theorem dX10_coolestPeak_127 : decode cX10_coolestPeak 127 = .ok (.iload 7, 2) := by decide +kernel
theorem dX10_coolestPeak_129 : decode cX10_coolestPeak 129 = .ok (.iload 8, 2) := by decide +kernel
theorem dX10_coolestPeak_131 : decode cX10_coolestPeak 131 = .ok (.invokestatic 93, 3) := by decide +kernel
theorem dX10_coolestPeak_134 : decode cX10_coolestPeak 134 = .ok (.istore 9, 2) := by decide +kernel
theorem dX10_coolestPeak_136 : decode cX10_coolestPeak 136 = .ok (.iload 9, 2) := by decide +kernel
theorem dX10_coolestPeak_138 : decode cX10_coolestPeak 138 = .ok (.iconst (-1), 1) := by decide +kernel
theorem dX10_coolestPeak_139 : decode cX10_coolestPeak 139 = .ok (.if_icmp .eq 14, 3) := by decide +kernel
theorem dX10_coolestPeak_142 : decode cX10_coolestPeak 142 = .ok (.aload_n 0, 1) := by decide +kernel
theorem dX10_coolestPeak_143 : decode cX10_coolestPeak 143 = .ok (.getfield 45, 3) := by decide +kernel
theorem dX10_coolestPeak_146 : decode cX10_coolestPeak 146 = .ok (.iload 9, 2) := by decide +kernel
theorem dX10_coolestPeak_148 : decode cX10_coolestPeak 148 = .ok (.iaload, 1) := by decide +kernel
theorem dX10_coolestPeak_149 : decode cX10_coolestPeak 149 = .ok (.iconst (-1), 1) := by decide +kernel
theorem dX10_coolestPeak_150 : decode cX10_coolestPeak 150 = .ok (.if_icmp .ne 7, 3) := by decide +kernel
theorem dX10_coolestPeak_153 : decode cX10_coolestPeak 153 = .ok (.iconst (-1), 1) := by decide +kernel
theorem dX10_coolestPeak_154 : decode cX10_coolestPeak 154 = .ok (.goto 22, 3) := by decide +kernel
theorem dX10_coolestPeak_157 : decode cX10_coolestPeak 157 = .ok (.aload_n 0, 1) := by decide +kernel
theorem dX10_coolestPeak_158 : decode cX10_coolestPeak 158 = .ok (.getfield 45, 3) := by decide +kernel
theorem dX10_coolestPeak_161 : decode cX10_coolestPeak 161 = .ok (.iload 9, 2) := by decide +kernel
theorem dX10_coolestPeak_163 : decode cX10_coolestPeak 163 = .ok (.iaload, 1) := by decide +kernel
theorem dX10_coolestPeak_164 : decode cX10_coolestPeak 164 = .ok (.aload_n 0, 1) := by decide +kernel
theorem dX10_coolestPeak_165 : decode cX10_coolestPeak 165 = .ok (.getfield 9, 3) := by decide +kernel
theorem dX10_coolestPeak_168 : decode cX10_coolestPeak 168 = .ok (.iconst 0, 1) := by decide +kernel
theorem dX10_coolestPeak_169 : decode cX10_coolestPeak 169 = .ok (.iload 7, 2) := by decide +kernel
theorem dX10_coolestPeak_171 : decode cX10_coolestPeak 171 = .ok (.iadd, 1) := by decide +kernel
theorem dX10_coolestPeak_172 : decode cX10_coolestPeak 172 = .ok (.iaload, 1) := by decide +kernel
theorem dX10_coolestPeak_173 : decode cX10_coolestPeak 173 = .ok (.invokestatic 97, 3) := by decide +kernel
theorem dX10_coolestPeak_176 : decode cX10_coolestPeak 176 = .ok (.istore 10, 2) := by decide +kernel
theorem dX10_coolestPeak_178 : decode cX10_coolestPeak 178 = .ok (.iload 10, 2) := by decide +kernel
theorem dX10_coolestPeak_180 : decode cX10_coolestPeak 180 = .ok (.iconst (-1), 1) := by decide +kernel
theorem dX10_coolestPeak_181 : decode cX10_coolestPeak 181 = .ok (.if_icmp .eq 38, 3) := by decide +kernel
theorem dX10_coolestPeak_184 : decode cX10_coolestPeak 184 = .ok (.aload_n 0, 1) := by decide +kernel
theorem dX10_coolestPeak_185 : decode cX10_coolestPeak 185 = .ok (.getfield 45, 3) := by decide +kernel
theorem dX10_coolestPeak_188 : decode cX10_coolestPeak 188 = .ok (.iload 7, 2) := by decide +kernel
theorem dX10_coolestPeak_190 : decode cX10_coolestPeak 190 = .ok (.iaload, 1) := by decide +kernel
theorem dX10_coolestPeak_191 : decode cX10_coolestPeak 191 = .ok (.iconst (-1), 1) := by decide +kernel
theorem dX10_coolestPeak_192 : decode cX10_coolestPeak 192 = .ok (.if_icmp .eq 15, 3) := by decide +kernel
theorem dX10_coolestPeak_195 : decode cX10_coolestPeak 195 = .ok (.iload 10, 2) := by decide +kernel
theorem dX10_coolestPeak_197 : decode cX10_coolestPeak 197 = .ok (.aload_n 0, 1) := by decide +kernel
theorem dX10_coolestPeak_198 : decode cX10_coolestPeak 198 = .ok (.getfield 45, 3) := by decide +kernel
theorem dX10_coolestPeak_201 : decode cX10_coolestPeak 201 = .ok (.iload 7, 2) := by decide +kernel
theorem dX10_coolestPeak_203 : decode cX10_coolestPeak 203 = .ok (.iaload, 1) := by decide +kernel
theorem dX10_coolestPeak_204 : decode cX10_coolestPeak 204 = .ok (.if_icmp .ge 15, 3) := by decide +kernel
theorem dX10_coolestPeak_207 : decode cX10_coolestPeak 207 = .ok (.aload_n 0, 1) := by decide +kernel
theorem dX10_coolestPeak_208 : decode cX10_coolestPeak 208 = .ok (.getfield 45, 3) := by decide +kernel
theorem dX10_coolestPeak_211 : decode cX10_coolestPeak 211 = .ok (.iload 7, 2) := by decide +kernel
theorem dX10_coolestPeak_213 : decode cX10_coolestPeak 213 = .ok (.iload 10, 2) := by decide +kernel
theorem dX10_coolestPeak_215 : decode cX10_coolestPeak 215 = .ok (.iastore, 1) := by decide +kernel
theorem dX10_coolestPeak_216 : decode cX10_coolestPeak 216 = .ok (.iconst 1, 1) := by decide +kernel
theorem dX10_coolestPeak_217 : decode cX10_coolestPeak 217 = .ok (.istore 6, 2) := by decide +kernel
theorem dX10_coolestPeak_219 : decode cX10_coolestPeak 219 = .ok (.iinc 8 1, 3) := by decide +kernel
theorem dX10_coolestPeak_222 : decode cX10_coolestPeak 222 = .ok (.goto (-110), 3) := by decide +kernel
theorem dX10_coolestPeak_225 : decode cX10_coolestPeak 225 = .ok (.iinc 7 1, 3) := by decide +kernel
theorem dX10_coolestPeak_228 : decode cX10_coolestPeak 228 = .ok (.goto (-126), 3) := by decide +kernel
theorem dX10_coolestPeak_231 : decode cX10_coolestPeak 231 = .ok (.goto (-140), 3) := by decide +kernel
theorem dX10_coolestPeak_234 : decode cX10_coolestPeak 234 = .ok (.aload_n 0, 1) := by decide +kernel
theorem dX10_coolestPeak_235 : decode cX10_coolestPeak 235 = .ok (.getfield 45, 3) := by decide +kernel
theorem dX10_coolestPeak_238 : decode cX10_coolestPeak 238 = .ok (.bipush 8, 2) := by decide +kernel
theorem dX10_coolestPeak_240 : decode cX10_coolestPeak 240 = .ok (.iload 4, 2) := by decide +kernel
theorem dX10_coolestPeak_242 : decode cX10_coolestPeak 242 = .ok (.imul, 1) := by decide +kernel
theorem dX10_coolestPeak_243 : decode cX10_coolestPeak 243 = .ok (.iload_n 3, 1) := by decide +kernel
theorem dX10_coolestPeak_244 : decode cX10_coolestPeak 244 = .ok (.iadd, 1) := by decide +kernel
theorem dX10_coolestPeak_245 : decode cX10_coolestPeak 245 = .ok (.iaload, 1) := by decide +kernel
theorem dX10_coolestPeak_246 : decode cX10_coolestPeak 246 = .ok (.istore 7, 2) := by decide +kernel
theorem dX10_coolestPeak_248 : decode cX10_coolestPeak 248 = .ok (.iload 7, 2) := by decide +kernel
theorem dX10_coolestPeak_250 : decode cX10_coolestPeak 250 = .ok (.iconst (-1), 1) := by decide +kernel
theorem dX10_coolestPeak_251 : decode cX10_coolestPeak 251 = .ok (.if_icmp .ne 11, 3) := by decide +kernel
theorem dX10_coolestPeak_254 : decode cX10_coolestPeak 254 = .ok (.aload_n 0, 1) := by decide +kernel
theorem dX10_coolestPeak_255 : decode cX10_coolestPeak 255 = .ok (.iconst 2, 1) := by decide +kernel
theorem dX10_coolestPeak_256 : decode cX10_coolestPeak 256 = .ok (.invokevirtual 76, 3) := by decide +kernel
theorem dX10_coolestPeak_259 : decode cX10_coolestPeak 259 = .ok (.goto 5, 3) := by decide +kernel
theorem dX10_coolestPeak_262 : decode cX10_coolestPeak 262 = .ok (.iload 7, 2) := by decide +kernel
theorem dX10_coolestPeak_264 : decode cX10_coolestPeak 264 = .ok (.ireturn, 1) := by decide +kernel
theorem dX10_coolestPeakByTrying_0 : decode cX10_coolestPeakByTrying 0 = .ok (.aload_n 0, 1) := by decide +kernel
theorem dX10_coolestPeakByTrying_1 : decode cX10_coolestPeakByTrying 1 = .ok (.iload_n 1, 1) := by decide +kernel
theorem dX10_coolestPeakByTrying_2 : decode cX10_coolestPeakByTrying 2 = .ok (.iload_n 2, 1) := by decide +kernel
theorem dX10_coolestPeakByTrying_3 : decode cX10_coolestPeakByTrying 3 = .ok (.iload_n 3, 1) := by decide +kernel
theorem dX10_coolestPeakByTrying_4 : decode cX10_coolestPeakByTrying 4 = .ok (.iload 4, 2) := by decide +kernel
theorem dX10_coolestPeakByTrying_6 : decode cX10_coolestPeakByTrying 6 = .ok (.invokevirtual 186, 3) := by decide +kernel
theorem dX10_coolestPeakByTrying_9 : decode cX10_coolestPeakByTrying 9 = .ok (.ireturn, 1) := by decide +kernel
theorem dX10_orders_0 : decode cX10_orders 0 = .ok (.aload_n 0, 1) := by decide +kernel
theorem dX10_orders_1 : decode cX10_orders 1 = .ok (.iconst 0, 1) := by decide +kernel
theorem dX10_orders_2 : decode cX10_orders 2 = .ok (.putfield 190, 3) := by decide +kernel
theorem dX10_orders_5 : decode cX10_orders 5 = .ok (.iconst 0, 1) := by decide +kernel
theorem dX10_orders_6 : decode cX10_orders 6 = .ok (.istore_n 1, 1) := by decide +kernel
theorem dX10_orders_7 : decode cX10_orders 7 = .ok (.iload_n 1, 1) := by decide +kernel
theorem dX10_orders_8 : decode cX10_orders 8 = .ok (.bipush 64, 2) := by decide +kernel
theorem dX10_orders_10 : decode cX10_orders 10 = .ok (.if_icmp .ge 89, 3) := by decide +kernel
theorem dX10_orders_13 : decode cX10_orders 13 = .ok (.aload_n 0, 1) := by decide +kernel
theorem dX10_orders_14 : decode cX10_orders 14 = .ok (.iload_n 1, 1) := by decide +kernel
theorem dX10_orders_15 : decode cX10_orders 15 = .ok (.invokevirtual 89, 3) := by decide +kernel
theorem dX10_orders_18 : decode cX10_orders 18 = .ok (.ifCond .ne 75, 3) := by decide +kernel
theorem dX10_orders_21 : decode cX10_orders 21 = .ok (.aload_n 0, 1) := by decide +kernel
theorem dX10_orders_22 : decode cX10_orders 22 = .ok (.getfield 190, 3) := by decide +kernel
theorem dX10_orders_25 : decode cX10_orders 25 = .ok (.istore_n 2, 1) := by decide +kernel
theorem dX10_orders_26 : decode cX10_orders 26 = .ok (.iload_n 2, 1) := by decide +kernel
theorem dX10_orders_27 : decode cX10_orders 27 = .ok (.ifCond .le 49, 3) := by decide +kernel
theorem dX10_orders_30 : decode cX10_orders 30 = .ok (.aload_n 0, 1) := by decide +kernel
theorem dX10_orders_31 : decode cX10_orders 31 = .ok (.getfield 9, 3) := by decide +kernel
theorem dX10_orders_34 : decode cX10_orders 34 = .ok (.iconst 0, 1) := by decide +kernel
theorem dX10_orders_35 : decode cX10_orders 35 = .ok (.aload_n 0, 1) := by decide +kernel
theorem dX10_orders_36 : decode cX10_orders 36 = .ok (.getfield 48, 3) := by decide +kernel
theorem dX10_orders_39 : decode cX10_orders 39 = .ok (.iload_n 2, 1) := by decide +kernel
theorem dX10_orders_40 : decode cX10_orders 40 = .ok (.iconst 1, 1) := by decide +kernel
theorem dX10_orders_41 : decode cX10_orders 41 = .ok (.isub, 1) := by decide +kernel
theorem dX10_orders_42 : decode cX10_orders 42 = .ok (.iaload, 1) := by decide +kernel
theorem dX10_orders_43 : decode cX10_orders 43 = .ok (.iadd, 1) := by decide +kernel
theorem dX10_orders_44 : decode cX10_orders 44 = .ok (.iaload, 1) := by decide +kernel
theorem dX10_orders_45 : decode cX10_orders 45 = .ok (.aload_n 0, 1) := by decide +kernel
theorem dX10_orders_46 : decode cX10_orders 46 = .ok (.getfield 9, 3) := by decide +kernel
theorem dX10_orders_49 : decode cX10_orders 49 = .ok (.iconst 0, 1) := by decide +kernel
theorem dX10_orders_50 : decode cX10_orders 50 = .ok (.iload_n 1, 1) := by decide +kernel
theorem dX10_orders_51 : decode cX10_orders 51 = .ok (.iadd, 1) := by decide +kernel
theorem dX10_orders_52 : decode cX10_orders 52 = .ok (.iaload, 1) := by decide +kernel
theorem dX10_orders_53 : decode cX10_orders 53 = .ok (.if_icmp .le 23, 3) := by decide +kernel
theorem dX10_orders_56 : decode cX10_orders 56 = .ok (.aload_n 0, 1) := by decide +kernel
theorem dX10_orders_57 : decode cX10_orders 57 = .ok (.getfield 48, 3) := by decide +kernel
theorem dX10_orders_60 : decode cX10_orders 60 = .ok (.iload_n 2, 1) := by decide +kernel
theorem dX10_orders_61 : decode cX10_orders 61 = .ok (.aload_n 0, 1) := by decide +kernel
theorem dX10_orders_62 : decode cX10_orders 62 = .ok (.getfield 48, 3) := by decide +kernel
theorem dX10_orders_65 : decode cX10_orders 65 = .ok (.iload_n 2, 1) := by decide +kernel
theorem dX10_orders_66 : decode cX10_orders 66 = .ok (.iconst 1, 1) := by decide +kernel
theorem dX10_orders_67 : decode cX10_orders 67 = .ok (.isub, 1) := by decide +kernel
theorem dX10_orders_68 : decode cX10_orders 68 = .ok (.iaload, 1) := by decide +kernel
theorem dX10_orders_69 : decode cX10_orders 69 = .ok (.iastore, 1) := by decide +kernel
theorem dX10_orders_70 : decode cX10_orders 70 = .ok (.iinc 2 (-1), 3) := by decide +kernel
theorem dX10_orders_73 : decode cX10_orders 73 = .ok (.goto (-47), 3) := by decide +kernel
theorem dX10_orders_76 : decode cX10_orders 76 = .ok (.aload_n 0, 1) := by decide +kernel
theorem dX10_orders_77 : decode cX10_orders 77 = .ok (.getfield 48, 3) := by decide +kernel
theorem dX10_orders_80 : decode cX10_orders 80 = .ok (.iload_n 2, 1) := by decide +kernel
theorem dX10_orders_81 : decode cX10_orders 81 = .ok (.iload_n 1, 1) := by decide +kernel
theorem dX10_orders_82 : decode cX10_orders 82 = .ok (.iastore, 1) := by decide +kernel
theorem dX10_orders_83 : decode cX10_orders 83 = .ok (.aload_n 0, 1) := by decide +kernel
theorem dX10_orders_84 : decode cX10_orders 84 = .ok (.dup, 1) := by decide +kernel
theorem dX10_orders_85 : decode cX10_orders 85 = .ok (.getfield 190, 3) := by decide +kernel
theorem dX10_orders_88 : decode cX10_orders 88 = .ok (.iconst 1, 1) := by decide +kernel
theorem dX10_orders_89 : decode cX10_orders 89 = .ok (.iadd, 1) := by decide +kernel
theorem dX10_orders_90 : decode cX10_orders 90 = .ok (.putfield 190, 3) := by decide +kernel
theorem dX10_orders_93 : decode cX10_orders 93 = .ok (.iinc 1 1, 3) := by decide +kernel
theorem dX10_orders_96 : decode cX10_orders 96 = .ok (.goto (-89), 3) := by decide +kernel
theorem dX10_orders_99 : decode cX10_orders 99 = .ok (.return_, 1) := by decide +kernel
theorem dX10_gap_0 : decode cX10_gap 0 = .ok (.aload_n 0, 1) := by decide +kernel
theorem dX10_gap_1 : decode cX10_gap 1 = .ok (.getfield 9, 3) := by decide +kernel
theorem dX10_gap_4 : decode cX10_gap 4 = .ok (.iconst 0, 1) := by decide +kernel
theorem dX10_gap_5 : decode cX10_gap 5 = .ok (.aload_n 0, 1) := by decide +kernel
theorem dX10_gap_6 : decode cX10_gap 6 = .ok (.getfield 48, 3) := by decide +kernel
theorem dX10_gap_9 : decode cX10_gap 9 = .ok (.iload_n 1, 1) := by decide +kernel
theorem dX10_gap_10 : decode cX10_gap 10 = .ok (.iaload, 1) := by decide +kernel
theorem dX10_gap_11 : decode cX10_gap 11 = .ok (.iadd, 1) := by decide +kernel
theorem dX10_gap_12 : decode cX10_gap 12 = .ok (.iaload, 1) := by decide +kernel
theorem dX10_gap_13 : decode cX10_gap 13 = .ok (.aload_n 0, 1) := by decide +kernel
theorem dX10_gap_14 : decode cX10_gap 14 = .ok (.getfield 9, 3) := by decide +kernel
theorem dX10_gap_17 : decode cX10_gap 17 = .ok (.iconst 0, 1) := by decide +kernel
theorem dX10_gap_18 : decode cX10_gap 18 = .ok (.aload_n 0, 1) := by decide +kernel
theorem dX10_gap_19 : decode cX10_gap 19 = .ok (.getfield 48, 3) := by decide +kernel
theorem dX10_gap_22 : decode cX10_gap 22 = .ok (.iload_n 1, 1) := by decide +kernel
theorem dX10_gap_23 : decode cX10_gap 23 = .ok (.iconst 1, 1) := by decide +kernel
theorem dX10_gap_24 : decode cX10_gap 24 = .ok (.isub, 1) := by decide +kernel
theorem dX10_gap_25 : decode cX10_gap 25 = .ok (.iaload, 1) := by decide +kernel
theorem dX10_gap_26 : decode cX10_gap 26 = .ok (.iadd, 1) := by decide +kernel
theorem dX10_gap_27 : decode cX10_gap 27 = .ok (.iaload, 1) := by decide +kernel
theorem dX10_gap_28 : decode cX10_gap 28 = .ok (.isub, 1) := by decide +kernel
theorem dX10_gap_29 : decode cX10_gap 29 = .ok (.ireturn, 1) := by decide +kernel
theorem dX10_divides_0 : decode cX10_divides 0 = .ok (.aload_n 0, 1) := by decide +kernel
theorem dX10_divides_1 : decode cX10_divides 1 = .ok (.invokevirtual 193, 3) := by decide +kernel
theorem dX10_divides_4 : decode cX10_divides 4 = .ok (.iload_n 1, 1) := by decide +kernel
theorem dX10_divides_5 : decode cX10_divides 5 = .ok (.i2l, 1) := by decide +kernel
theorem dX10_divides_6 : decode cX10_divides 6 = .ok (.lconst 1, 1) := by decide +kernel
theorem dX10_divides_7 : decode cX10_divides 7 = .ok (.ldc2_w 196, 3) := by decide +kernel
theorem dX10_divides_10 : decode cX10_divides 10 = .ok (.invokestatic 85, 3) := by decide +kernel
theorem dX10_divides_13 : decode cX10_divides 13 = .ok (.ifCond .ne 5, 3) := by decide +kernel
theorem dX10_divides_16 : decode cX10_divides 16 = .ok (.iload_n 2, 1) := by decide +kernel
theorem dX10_divides_17 : decode cX10_divides 17 = .ok (.ireturn, 1) := by decide +kernel
theorem dX10_divides_18 : decode cX10_divides 18 = .ok (.aload_n 0, 1) := by decide +kernel
theorem dX10_divides_19 : decode cX10_divides 19 = .ok (.getfield 190, 3) := by decide +kernel
theorem dX10_divides_22 : decode cX10_divides 22 = .ok (.iload_n 1, 1) := by decide +kernel
theorem dX10_divides_23 : decode cX10_divides 23 = .ok (.if_icmp .ge 7, 3) := by decide +kernel
theorem dX10_divides_26 : decode cX10_divides 26 = .ok (.iload_n 2, 1) := by decide +kernel
theorem dX10_divides_27 : decode cX10_divides 27 = .ok (.iconst 1, 1) := by decide +kernel
theorem dX10_divides_28 : decode cX10_divides 28 = .ok (.iadd, 1) := by decide +kernel
theorem dX10_divides_29 : decode cX10_divides 29 = .ok (.ireturn, 1) := by decide +kernel
theorem dX10_divides_30 : decode cX10_divides 30 = .ok (.iconst 0, 1) := by decide +kernel
theorem dX10_divides_31 : decode cX10_divides 31 = .ok (.istore_n 3, 1) := by decide +kernel
theorem dX10_divides_32 : decode cX10_divides 32 = .ok (.iload_n 3, 1) := by decide +kernel
theorem dX10_divides_33 : decode cX10_divides 33 = .ok (.aload_n 0, 1) := by decide +kernel
theorem dX10_divides_34 : decode cX10_divides 34 = .ok (.getfield 190, 3) := by decide +kernel
theorem dX10_divides_37 : decode cX10_divides 37 = .ok (.if_icmp .ge 24, 3) := by decide +kernel
theorem dX10_divides_40 : decode cX10_divides 40 = .ok (.aload_n 0, 1) := by decide +kernel
theorem dX10_divides_41 : decode cX10_divides 41 = .ok (.getfield 51, 3) := by decide +kernel
theorem dX10_divides_44 : decode cX10_divides 44 = .ok (.iload_n 3, 1) := by decide +kernel
theorem dX10_divides_45 : decode cX10_divides 45 = .ok (.iload_n 3, 1) := by decide +kernel
theorem dX10_divides_46 : decode cX10_divides 46 = .ok (.ifCond .ne 7, 3) := by decide +kernel
theorem dX10_divides_49 : decode cX10_divides 49 = .ok (.iconst 1, 1) := by decide +kernel
theorem dX10_divides_50 : decode cX10_divides 50 = .ok (.goto 4, 3) := by decide +kernel
theorem dX10_divides_53 : decode cX10_divides 53 = .ok (.iconst 0, 1) := by decide +kernel
theorem dX10_divides_54 : decode cX10_divides 54 = .ok (.bastore, 1) := by decide +kernel
theorem dX10_divides_55 : decode cX10_divides 55 = .ok (.iinc 3 1, 3) := by decide +kernel
theorem dX10_divides_58 : decode cX10_divides 58 = .ok (.goto (-26), 3) := by decide +kernel
theorem dX10_divides_61 : decode cX10_divides 61 = .ok (.iconst 1, 1) := by decide +kernel
theorem dX10_divides_62 : decode cX10_divides 62 = .ok (.istore_n 3, 1) := by decide +kernel
theorem dX10_divides_63 : decode cX10_divides 63 = .ok (.iload_n 3, 1) := by decide +kernel
theorem dX10_divides_64 : decode cX10_divides 64 = .ok (.iload_n 1, 1) := by decide +kernel
theorem dX10_divides_65 : decode cX10_divides 65 = .ok (.if_icmp .ge 78, 3) := by decide +kernel
theorem dX10_divides_68 : decode cX10_divides 68 = .ok (.iconst (-1), 1) := by decide +kernel
theorem dX10_divides_69 : decode cX10_divides 69 = .ok (.istore 4, 2) := by decide +kernel
theorem dX10_divides_71 : decode cX10_divides 71 = .ok (.iconst 1, 1) := by decide +kernel
theorem dX10_divides_72 : decode cX10_divides 72 = .ok (.istore 5, 2) := by decide +kernel
theorem dX10_divides_74 : decode cX10_divides 74 = .ok (.iload 5, 2) := by decide +kernel
theorem dX10_divides_76 : decode cX10_divides 76 = .ok (.aload_n 0, 1) := by decide +kernel
theorem dX10_divides_77 : decode cX10_divides 77 = .ok (.getfield 190, 3) := by decide +kernel
theorem dX10_divides_80 : decode cX10_divides 80 = .ok (.if_icmp .ge 49, 3) := by decide +kernel
theorem dX10_divides_83 : decode cX10_divides 83 = .ok (.aload_n 0, 1) := by decide +kernel
theorem dX10_divides_84 : decode cX10_divides 84 = .ok (.getfield 51, 3) := by decide +kernel
theorem dX10_divides_87 : decode cX10_divides 87 = .ok (.iload 5, 2) := by decide +kernel
theorem dX10_divides_89 : decode cX10_divides 89 = .ok (.baload, 1) := by decide +kernel
theorem dX10_divides_90 : decode cX10_divides 90 = .ok (.ifCond .ne 29, 3) := by decide +kernel
theorem dX10_divides_93 : decode cX10_divides 93 = .ok (.iload 4, 2) := by decide +kernel
theorem dX10_divides_95 : decode cX10_divides 95 = .ok (.iconst (-1), 1) := by decide +kernel
theorem dX10_divides_96 : decode cX10_divides 96 = .ok (.if_icmp .eq 18, 3) := by decide +kernel
theorem dX10_divides_99 : decode cX10_divides 99 = .ok (.aload_n 0, 1) := by decide +kernel
theorem dX10_divides_100 : decode cX10_divides 100 = .ok (.iload 5, 2) := by decide +kernel
theorem dX10_divides_102 : decode cX10_divides 102 = .ok (.invokevirtual 198, 3) := by decide +kernel
theorem dX10_divides_105 : decode cX10_divides 105 = .ok (.aload_n 0, 1) := by decide +kernel
theorem dX10_divides_106 : decode cX10_divides 106 = .ok (.iload 4, 2) := by decide +kernel
theorem dX10_divides_108 : decode cX10_divides 108 = .ok (.invokevirtual 198, 3) := by decide +kernel
theorem dX10_divides_111 : decode cX10_divides 111 = .ok (.if_icmp .le 8, 3) := by decide +kernel
theorem dX10_divides_114 : decode cX10_divides 114 = .ok (.iload 5, 2) := by decide +kernel
theorem dX10_divides_116 : decode cX10_divides 116 = .ok (.goto 5, 3) := by decide +kernel
theorem dX10_divides_119 : decode cX10_divides 119 = .ok (.iload 4, 2) := by decide +kernel
theorem dX10_divides_121 : decode cX10_divides 121 = .ok (.istore 4, 2) := by decide +kernel
theorem dX10_divides_123 : decode cX10_divides 123 = .ok (.iinc 5 1, 3) := by decide +kernel
theorem dX10_divides_126 : decode cX10_divides 126 = .ok (.goto (-52), 3) := by decide +kernel
theorem dX10_divides_129 : decode cX10_divides 129 = .ok (.aload_n 0, 1) := by decide +kernel
theorem dX10_divides_130 : decode cX10_divides 130 = .ok (.getfield 51, 3) := by decide +kernel
theorem dX10_divides_133 : decode cX10_divides 133 = .ok (.iload 4, 2) := by decide +kernel
theorem dX10_divides_135 : decode cX10_divides 135 = .ok (.iconst 1, 1) := by decide +kernel
theorem dX10_divides_136 : decode cX10_divides 136 = .ok (.bastore, 1) := by decide +kernel
theorem dX10_divides_137 : decode cX10_divides 137 = .ok (.iinc 3 1, 3) := by decide +kernel
theorem dX10_divides_140 : decode cX10_divides 140 = .ok (.goto (-77), 3) := by decide +kernel
theorem dX10_divides_143 : decode cX10_divides 143 = .ok (.iconst 0, 1) := by decide +kernel
theorem dX10_divides_144 : decode cX10_divides 144 = .ok (.ireturn, 1) := by decide +kernel
theorem dX10_legendSpread_0 : decode cX10_legendSpread 0 = .ok (.aload_n 0, 1) := by decide +kernel
theorem dX10_legendSpread_1 : decode cX10_legendSpread 1 = .ok (.aload_n 0, 1) := by decide +kernel
theorem dX10_legendSpread_2 : decode cX10_legendSpread 2 = .ok (.iload_n 1, 1) := by decide +kernel
theorem dX10_legendSpread_3 : decode cX10_legendSpread 3 = .ok (.iconst 1, 1) := by decide +kernel
theorem dX10_legendSpread_4 : decode cX10_legendSpread 4 = .ok (.invokevirtual 201, 3) := by decide +kernel
theorem dX10_legendSpread_7 : decode cX10_legendSpread 7 = .ok (.putfield 67, 3) := by decide +kernel
theorem dX10_legendSpread_10 : decode cX10_legendSpread 10 = .ok (.aload_n 0, 1) := by decide +kernel
theorem dX10_legendSpread_11 : decode cX10_legendSpread 11 = .ok (.getfield 67, 3) := by decide +kernel
theorem dX10_legendSpread_14 : decode cX10_legendSpread 14 = .ok (.ifCond .le 7, 3) := by decide +kernel
theorem dX10_legendSpread_17 : decode cX10_legendSpread 17 = .ok (.iconst (-1), 1) := by decide +kernel
theorem dX10_legendSpread_18 : decode cX10_legendSpread 18 = .ok (.goto 4, 3) := by decide +kernel
theorem dX10_legendSpread_21 : decode cX10_legendSpread 21 = .ok (.iconst 0, 1) := by decide +kernel
theorem dX10_legendSpread_22 : decode cX10_legendSpread 22 = .ok (.istore_n 2, 1) := by decide +kernel
theorem dX10_legendSpread_23 : decode cX10_legendSpread 23 = .ok (.iconst 1, 1) := by decide +kernel
theorem dX10_legendSpread_24 : decode cX10_legendSpread 24 = .ok (.istore_n 3, 1) := by decide +kernel
theorem dX10_legendSpread_25 : decode cX10_legendSpread 25 = .ok (.iload_n 3, 1) := by decide +kernel
theorem dX10_legendSpread_26 : decode cX10_legendSpread 26 = .ok (.aload_n 0, 1) := by decide +kernel
theorem dX10_legendSpread_27 : decode cX10_legendSpread 27 = .ok (.getfield 190, 3) := by decide +kernel
theorem dX10_legendSpread_30 : decode cX10_legendSpread 30 = .ok (.if_icmp .ge 37, 3) := by decide +kernel
theorem dX10_legendSpread_33 : decode cX10_legendSpread 33 = .ok (.aload_n 0, 1) := by decide +kernel
theorem dX10_legendSpread_34 : decode cX10_legendSpread 34 = .ok (.getfield 67, 3) := by decide +kernel
theorem dX10_legendSpread_37 : decode cX10_legendSpread 37 = .ok (.ifCond .ne 30, 3) := by decide +kernel
theorem dX10_legendSpread_40 : decode cX10_legendSpread 40 = .ok (.iload_n 2, 1) := by decide +kernel
theorem dX10_legendSpread_41 : decode cX10_legendSpread 41 = .ok (.aload_n 0, 1) := by decide +kernel
theorem dX10_legendSpread_42 : decode cX10_legendSpread 42 = .ok (.getfield 51, 3) := by decide +kernel
theorem dX10_legendSpread_45 : decode cX10_legendSpread 45 = .ok (.iload_n 3, 1) := by decide +kernel
theorem dX10_legendSpread_46 : decode cX10_legendSpread 46 = .ok (.baload, 1) := by decide +kernel
theorem dX10_legendSpread_47 : decode cX10_legendSpread 47 = .ok (.ifCond .eq 7, 3) := by decide +kernel
theorem dX10_legendSpread_50 : decode cX10_legendSpread 50 = .ok (.iconst 0, 1) := by decide +kernel
theorem dX10_legendSpread_51 : decode cX10_legendSpread 51 = .ok (.goto 8, 3) := by decide +kernel
theorem dX10_legendSpread_54 : decode cX10_legendSpread 54 = .ok (.aload_n 0, 1) := by decide +kernel
theorem dX10_legendSpread_55 : decode cX10_legendSpread 55 = .ok (.iload_n 3, 1) := by decide +kernel
theorem dX10_legendSpread_56 : decode cX10_legendSpread 56 = .ok (.invokevirtual 198, 3) := by decide +kernel
theorem dX10_legendSpread_59 : decode cX10_legendSpread 59 = .ok (.iadd, 1) := by decide +kernel
theorem dX10_legendSpread_60 : decode cX10_legendSpread 60 = .ok (.istore_n 2, 1) := by decide +kernel
theorem dX10_legendSpread_61 : decode cX10_legendSpread 61 = .ok (.iinc 3 1, 3) := by decide +kernel
theorem dX10_legendSpread_64 : decode cX10_legendSpread 64 = .ok (.goto (-39), 3) := by decide +kernel
theorem dX10_legendSpread_67 : decode cX10_legendSpread 67 = .ok (.iload_n 2, 1) := by decide +kernel
theorem dX10_legendSpread_68 : decode cX10_legendSpread 68 = .ok (.ireturn, 1) := by decide +kernel
theorem dX10_legendSpreadByTable_0 : decode cX10_legendSpreadByTable 0 = .ok (.aload_n 0, 1) := by decide +kernel
theorem dX10_legendSpreadByTable_1 : decode cX10_legendSpreadByTable 1 = .ok (.iload_n 1, 1) := by decide +kernel
theorem dX10_legendSpreadByTable_2 : decode cX10_legendSpreadByTable 2 = .ok (.invokevirtual 204, 3) := by decide +kernel
theorem dX10_legendSpreadByTable_5 : decode cX10_legendSpreadByTable 5 = .ok (.ireturn, 1) := by decide +kernel
theorem dX10_classBegin_0 : decode cX10_classBegin 0 = .ok (.aload_n 0, 1) := by decide +kernel
theorem dX10_classBegin_1 : decode cX10_classBegin 1 = .ok (.aload_n 0, 1) := by decide +kernel
theorem dX10_classBegin_2 : decode cX10_classBegin 2 = .ok (.iload_n 1, 1) := by decide +kernel
theorem dX10_classBegin_3 : decode cX10_classBegin 3 = .ok (.iconst 1, 1) := by decide +kernel
theorem dX10_classBegin_4 : decode cX10_classBegin 4 = .ok (.invokevirtual 201, 3) := by decide +kernel
theorem dX10_classBegin_7 : decode cX10_classBegin 7 = .ok (.putfield 67, 3) := by decide +kernel
theorem dX10_classBegin_10 : decode cX10_classBegin 10 = .ok (.iconst (-1), 1) := by decide +kernel
theorem dX10_classBegin_11 : decode cX10_classBegin 11 = .ok (.istore_n 3, 1) := by decide +kernel
theorem dX10_classBegin_12 : decode cX10_classBegin 12 = .ok (.iconst 0, 1) := by decide +kernel
theorem dX10_classBegin_13 : decode cX10_classBegin 13 = .ok (.istore 4, 2) := by decide +kernel
theorem dX10_classBegin_15 : decode cX10_classBegin 15 = .ok (.iload 4, 2) := by decide +kernel
theorem dX10_classBegin_17 : decode cX10_classBegin 17 = .ok (.aload_n 0, 1) := by decide +kernel
theorem dX10_classBegin_18 : decode cX10_classBegin 18 = .ok (.getfield 190, 3) := by decide +kernel
theorem dX10_classBegin_21 : decode cX10_classBegin 21 = .ok (.if_icmp .ge 54, 3) := by decide +kernel
theorem dX10_classBegin_24 : decode cX10_classBegin 24 = .ok (.aload_n 0, 1) := by decide +kernel
theorem dX10_classBegin_25 : decode cX10_classBegin 25 = .ok (.getfield 67, 3) := by decide +kernel
theorem dX10_classBegin_28 : decode cX10_classBegin 28 = .ok (.ifCond .ne 47, 3) := by decide +kernel
theorem dX10_classBegin_31 : decode cX10_classBegin 31 = .ok (.iload_n 3, 1) := by decide +kernel
theorem dX10_classBegin_32 : decode cX10_classBegin 32 = .ok (.aload_n 0, 1) := by decide +kernel
theorem dX10_classBegin_33 : decode cX10_classBegin 33 = .ok (.getfield 51, 3) := by decide +kernel
theorem dX10_classBegin_36 : decode cX10_classBegin 36 = .ok (.iload 4, 2) := by decide +kernel
theorem dX10_classBegin_38 : decode cX10_classBegin 38 = .ok (.baload, 1) := by decide +kernel
theorem dX10_classBegin_39 : decode cX10_classBegin 39 = .ok (.ifCond .eq 7, 3) := by decide +kernel
theorem dX10_classBegin_42 : decode cX10_classBegin 42 = .ok (.iconst 1, 1) := by decide +kernel
theorem dX10_classBegin_43 : decode cX10_classBegin 43 = .ok (.goto 4, 3) := by decide +kernel
theorem dX10_classBegin_46 : decode cX10_classBegin 46 = .ok (.iconst 0, 1) := by decide +kernel
theorem dX10_classBegin_47 : decode cX10_classBegin 47 = .ok (.iadd, 1) := by decide +kernel
theorem dX10_classBegin_48 : decode cX10_classBegin 48 = .ok (.istore_n 3, 1) := by decide +kernel
theorem dX10_classBegin_49 : decode cX10_classBegin 49 = .ok (.iload_n 3, 1) := by decide +kernel
theorem dX10_classBegin_50 : decode cX10_classBegin 50 = .ok (.iload_n 2, 1) := by decide +kernel
theorem dX10_classBegin_51 : decode cX10_classBegin 51 = .ok (.if_icmp .ne 18, 3) := by decide +kernel
theorem dX10_classBegin_54 : decode cX10_classBegin 54 = .ok (.aload_n 0, 1) := by decide +kernel
theorem dX10_classBegin_55 : decode cX10_classBegin 55 = .ok (.getfield 9, 3) := by decide +kernel
theorem dX10_classBegin_58 : decode cX10_classBegin 58 = .ok (.iconst 0, 1) := by decide +kernel
theorem dX10_classBegin_59 : decode cX10_classBegin 59 = .ok (.aload_n 0, 1) := by decide +kernel
theorem dX10_classBegin_60 : decode cX10_classBegin 60 = .ok (.getfield 48, 3) := by decide +kernel
theorem dX10_classBegin_63 : decode cX10_classBegin 63 = .ok (.iload 4, 2) := by decide +kernel
theorem dX10_classBegin_65 : decode cX10_classBegin 65 = .ok (.iaload, 1) := by decide +kernel
theorem dX10_classBegin_66 : decode cX10_classBegin 66 = .ok (.iadd, 1) := by decide +kernel
theorem dX10_classBegin_67 : decode cX10_classBegin 67 = .ok (.iaload, 1) := by decide +kernel
theorem dX10_classBegin_68 : decode cX10_classBegin 68 = .ok (.ireturn, 1) := by decide +kernel
theorem dX10_classBegin_69 : decode cX10_classBegin 69 = .ok (.iinc 4 1, 3) := by decide +kernel
theorem dX10_classBegin_72 : decode cX10_classBegin 72 = .ok (.goto (-57), 3) := by decide +kernel
theorem dX10_classBegin_75 : decode cX10_classBegin 75 = .ok (.aload_n 0, 1) := by decide +kernel
theorem dX10_classBegin_76 : decode cX10_classBegin 76 = .ok (.getfield 67, 3) := by decide +kernel
theorem dX10_classBegin_79 : decode cX10_classBegin 79 = .ok (.ifCond .le 7, 3) := by decide +kernel
theorem dX10_classBegin_82 : decode cX10_classBegin 82 = .ok (.iconst (-1), 1) := by decide +kernel
theorem dX10_classBegin_83 : decode cX10_classBegin 83 = .ok (.goto 8, 3) := by decide +kernel
theorem dX10_classBegin_86 : decode cX10_classBegin 86 = .ok (.aload_n 0, 1) := by decide +kernel
theorem dX10_classBegin_87 : decode cX10_classBegin 87 = .ok (.iconst 3, 1) := by decide +kernel
theorem dX10_classBegin_88 : decode cX10_classBegin 88 = .ok (.invokevirtual 76, 3) := by decide +kernel
theorem dX10_classBegin_91 : decode cX10_classBegin 91 = .ok (.ireturn, 1) := by decide +kernel
theorem dX10_classOf_0 : decode cX10_classOf 0 = .ok (.aload_n 0, 1) := by decide +kernel
theorem dX10_classOf_1 : decode cX10_classOf 1 = .ok (.iload_n 1, 1) := by decide +kernel
theorem dX10_classOf_2 : decode cX10_classOf 2 = .ok (.iload_n 2, 1) := by decide +kernel
theorem dX10_classOf_3 : decode cX10_classOf 3 = .ok (.invokestatic 108, 3) := by decide +kernel
theorem dX10_classOf_6 : decode cX10_classOf 6 = .ok (.ifCond .eq 12, 3) := by decide +kernel
theorem dX10_classOf_9 : decode cX10_classOf 9 = .ok (.aload_n 0, 1) := by decide +kernel
theorem dX10_classOf_10 : decode cX10_classOf 10 = .ok (.iload_n 3, 1) := by decide +kernel
theorem dX10_classOf_11 : decode cX10_classOf 11 = .ok (.iconst 2, 1) := by decide +kernel
theorem dX10_classOf_12 : decode cX10_classOf 12 = .ok (.invokevirtual 201, 3) := by decide +kernel
theorem dX10_classOf_15 : decode cX10_classOf 15 = .ok (.goto 4, 3) := by decide +kernel
theorem dX10_classOf_18 : decode cX10_classOf 18 = .ok (.iconst 1, 1) := by decide +kernel
theorem dX10_classOf_19 : decode cX10_classOf 19 = .ok (.putfield 67, 3) := by decide +kernel
theorem dX10_classOf_22 : decode cX10_classOf 22 = .ok (.aload_n 0, 1) := by decide +kernel
theorem dX10_classOf_23 : decode cX10_classOf 23 = .ok (.getfield 67, 3) := by decide +kernel
theorem dX10_classOf_26 : decode cX10_classOf 26 = .ok (.ifCond .le 5, 3) := by decide +kernel
theorem dX10_classOf_29 : decode cX10_classOf 29 = .ok (.iconst (-1), 1) := by decide +kernel
theorem dX10_classOf_30 : decode cX10_classOf 30 = .ok (.ireturn, 1) := by decide +kernel
theorem dX10_classOf_31 : decode cX10_classOf 31 = .ok (.iconst (-1), 1) := by decide +kernel
theorem dX10_classOf_32 : decode cX10_classOf 32 = .ok (.istore 4, 2) := by decide +kernel
theorem dX10_classOf_34 : decode cX10_classOf 34 = .ok (.iconst 0, 1) := by decide +kernel
theorem dX10_classOf_35 : decode cX10_classOf 35 = .ok (.istore 5, 2) := by decide +kernel
theorem dX10_classOf_37 : decode cX10_classOf 37 = .ok (.iload 5, 2) := by decide +kernel
theorem dX10_classOf_39 : decode cX10_classOf 39 = .ok (.aload_n 0, 1) := by decide +kernel
theorem dX10_classOf_40 : decode cX10_classOf 40 = .ok (.getfield 190, 3) := by decide +kernel
theorem dX10_classOf_43 : decode cX10_classOf 43 = .ok (.if_icmp .ge 48, 3) := by decide +kernel
theorem dX10_classOf_46 : decode cX10_classOf 46 = .ok (.iload 4, 2) := by decide +kernel
theorem dX10_classOf_48 : decode cX10_classOf 48 = .ok (.aload_n 0, 1) := by decide +kernel
theorem dX10_classOf_49 : decode cX10_classOf 49 = .ok (.getfield 51, 3) := by decide +kernel
theorem dX10_classOf_52 : decode cX10_classOf 52 = .ok (.iload 5, 2) := by decide +kernel
theorem dX10_classOf_54 : decode cX10_classOf 54 = .ok (.baload, 1) := by decide +kernel
theorem dX10_classOf_55 : decode cX10_classOf 55 = .ok (.ifCond .eq 7, 3) := by decide +kernel
theorem dX10_classOf_58 : decode cX10_classOf 58 = .ok (.iconst 1, 1) := by decide +kernel
theorem dX10_classOf_59 : decode cX10_classOf 59 = .ok (.goto 4, 3) := by decide +kernel
theorem dX10_classOf_62 : decode cX10_classOf 62 = .ok (.iconst 0, 1) := by decide +kernel
theorem dX10_classOf_63 : decode cX10_classOf 63 = .ok (.iadd, 1) := by decide +kernel
theorem dX10_classOf_64 : decode cX10_classOf 64 = .ok (.istore 4, 2) := by decide +kernel
theorem dX10_classOf_66 : decode cX10_classOf 66 = .ok (.aload_n 0, 1) := by decide +kernel
theorem dX10_classOf_67 : decode cX10_classOf 67 = .ok (.getfield 48, 3) := by decide +kernel
theorem dX10_classOf_70 : decode cX10_classOf 70 = .ok (.iload 5, 2) := by decide +kernel
theorem dX10_classOf_72 : decode cX10_classOf 72 = .ok (.iaload, 1) := by decide +kernel
theorem dX10_classOf_73 : decode cX10_classOf 73 = .ok (.bipush 8, 2) := by decide +kernel
theorem dX10_classOf_75 : decode cX10_classOf 75 = .ok (.iload_n 2, 1) := by decide +kernel
theorem dX10_classOf_76 : decode cX10_classOf 76 = .ok (.imul, 1) := by decide +kernel
theorem dX10_classOf_77 : decode cX10_classOf 77 = .ok (.iload_n 1, 1) := by decide +kernel
theorem dX10_classOf_78 : decode cX10_classOf 78 = .ok (.iadd, 1) := by decide +kernel
theorem dX10_classOf_79 : decode cX10_classOf 79 = .ok (.if_icmp .ne 6, 3) := by decide +kernel
theorem dX10_classOf_82 : decode cX10_classOf 82 = .ok (.iload 4, 2) := by decide +kernel
theorem dX10_classOf_84 : decode cX10_classOf 84 = .ok (.ireturn, 1) := by decide +kernel
theorem dX10_classOf_85 : decode cX10_classOf 85 = .ok (.iinc 5 1, 3) := by decide +kernel
theorem dX10_classOf_88 : decode cX10_classOf 88 = .ok (.goto (-51), 3) := by decide +kernel
theorem dX10_classOf_91 : decode cX10_classOf 91 = .ok (.aload_n 0, 1) := by decide +kernel
theorem dX10_classOf_92 : decode cX10_classOf 92 = .ok (.iconst 4, 1) := by decide +kernel
theorem dX10_classOf_93 : decode cX10_classOf 93 = .ok (.invokevirtual 76, 3) := by decide +kernel
theorem dX10_classOf_96 : decode cX10_classOf 96 = .ok (.ireturn, 1) := by decide +kernel
theorem dX10_append_0 : decode cX10_append 0 = .ok (.aload_n 0, 1) := by decide +kernel
theorem dX10_append_1 : decode cX10_append 1 = .ok (.iconst 0, 1) := by decide +kernel
theorem dX10_append_2 : decode cX10_append 2 = .ok (.putfield 67, 3) := by decide +kernel
theorem dX10_append_5 : decode cX10_append 5 = .ok (.iload_n 1, 1) := by decide +kernel
theorem dX10_append_6 : decode cX10_append 6 = .ok (.i2l, 1) := by decide +kernel
theorem dX10_append_7 : decode cX10_append 7 = .ok (.ldc2_w 207, 3) := by decide +kernel
theorem dX10_append_10 : decode cX10_append 10 = .ok (.ldc2_w 209, 3) := by decide +kernel
theorem dX10_append_13 : decode cX10_append 13 = .ok (.invokestatic 85, 3) := by decide +kernel
theorem dX10_append_16 : decode cX10_append 16 = .ok (.ifCond .ne 9, 3) := by decide +kernel
theorem dX10_append_19 : decode cX10_append 19 = .ok (.aload_n 0, 1) := by decide +kernel
theorem dX10_append_20 : decode cX10_append 20 = .ok (.iconst 1, 1) := by decide +kernel
theorem dX10_append_21 : decode cX10_append 21 = .ok (.invokevirtual 76, 3) := by decide +kernel
theorem dX10_append_24 : decode cX10_append 24 = .ok (.ireturn, 1) := by decide +kernel
theorem dX10_append_25 : decode cX10_append 25 = .ok (.aload_n 0, 1) := by decide +kernel
theorem dX10_append_26 : decode cX10_append 26 = .ok (.getfield 211, 3) := by decide +kernel
theorem dX10_append_29 : decode cX10_append 29 = .ok (.bipush 60, 2) := by decide +kernel
theorem dX10_append_31 : decode cX10_append 31 = .ok (.if_icmp .ne 9, 3) := by decide +kernel
theorem dX10_append_34 : decode cX10_append 34 = .ok (.aload_n 0, 1) := by decide +kernel
theorem dX10_append_35 : decode cX10_append 35 = .ok (.iconst 2, 1) := by decide +kernel
theorem dX10_append_36 : decode cX10_append 36 = .ok (.invokevirtual 76, 3) := by decide +kernel
theorem dX10_append_39 : decode cX10_append 39 = .ok (.ireturn, 1) := by decide +kernel
theorem dX10_append_40 : decode cX10_append 40 = .ok (.aload_n 0, 1) := by decide +kernel
theorem dX10_append_41 : decode cX10_append 41 = .ok (.getfield 32, 3) := by decide +kernel
theorem dX10_append_44 : decode cX10_append 44 = .ok (.aload_n 0, 1) := by decide +kernel
theorem dX10_append_45 : decode cX10_append 45 = .ok (.getfield 211, 3) := by decide +kernel
theorem dX10_append_48 : decode cX10_append 48 = .ok (.iload_n 1, 1) := by decide +kernel
theorem dX10_append_49 : decode cX10_append 49 = .ok (.iastore, 1) := by decide +kernel
theorem dX10_append_50 : decode cX10_append 50 = .ok (.aload_n 0, 1) := by decide +kernel
theorem dX10_append_51 : decode cX10_append 51 = .ok (.dup, 1) := by decide +kernel
theorem dX10_append_52 : decode cX10_append 52 = .ok (.getfield 211, 3) := by decide +kernel
theorem dX10_append_55 : decode cX10_append 55 = .ok (.iconst 1, 1) := by decide +kernel
theorem dX10_append_56 : decode cX10_append 56 = .ok (.iadd, 1) := by decide +kernel
theorem dX10_append_57 : decode cX10_append 57 = .ok (.putfield 211, 3) := by decide +kernel
theorem dX10_append_60 : decode cX10_append 60 = .ok (.aload_n 0, 1) := by decide +kernel
theorem dX10_append_61 : decode cX10_append 61 = .ok (.getfield 211, 3) := by decide +kernel
theorem dX10_append_64 : decode cX10_append 64 = .ok (.ireturn, 1) := by decide +kernel
theorem dX10_here_0 : decode cX10_here 0 = .ok (.aload_n 0, 1) := by decide +kernel
theorem dX10_here_1 : decode cX10_here 1 = .ok (.getfield 214, 3) := by decide +kernel
theorem dX10_here_4 : decode cX10_here 4 = .ok (.aload_n 0, 1) := by decide +kernel
theorem dX10_here_5 : decode cX10_here 5 = .ok (.getfield 217, 3) := by decide +kernel
theorem dX10_here_8 : decode cX10_here 8 = .ok (.if_icmp .ge 15, 3) := by decide +kernel
theorem dX10_here_11 : decode cX10_here 11 = .ok (.aload_n 0, 1) := by decide +kernel
theorem dX10_here_12 : decode cX10_here 12 = .ok (.getfield 32, 3) := by decide +kernel
theorem dX10_here_15 : decode cX10_here 15 = .ok (.aload_n 0, 1) := by decide +kernel
theorem dX10_here_16 : decode cX10_here 16 = .ok (.getfield 214, 3) := by decide +kernel
theorem dX10_here_19 : decode cX10_here 19 = .ok (.iaload, 1) := by decide +kernel
theorem dX10_here_20 : decode cX10_here 20 = .ok (.goto 4, 3) := by decide +kernel
theorem dX10_here_23 : decode cX10_here 23 = .ok (.iconst (-1), 1) := by decide +kernel
theorem dX10_here_24 : decode cX10_here 24 = .ok (.ireturn, 1) := by decide +kernel
theorem dX10_expects_0 : decode cX10_expects 0 = .ok (.aload_n 0, 1) := by decide +kernel
theorem dX10_expects_1 : decode cX10_expects 1 = .ok (.aload_n 0, 1) := by decide +kernel
theorem dX10_expects_2 : decode cX10_expects 2 = .ok (.getfield 220, 3) := by decide +kernel
theorem dX10_expects_5 : decode cX10_expects 5 = .ok (.ifCond .ne 11, 3) := by decide +kernel
theorem dX10_expects_8 : decode cX10_expects 8 = .ok (.aload_n 0, 1) := by decide +kernel
theorem dX10_expects_9 : decode cX10_expects 9 = .ok (.invokevirtual 224, 3) := by decide +kernel
theorem dX10_expects_12 : decode cX10_expects 12 = .ok (.iload_n 1, 1) := by decide +kernel
theorem dX10_expects_13 : decode cX10_expects 13 = .ok (.if_icmp .eq 7, 3) := by decide +kernel
theorem dX10_expects_16 : decode cX10_expects 16 = .ok (.iconst 1, 1) := by decide +kernel
theorem dX10_expects_17 : decode cX10_expects 17 = .ok (.goto 4, 3) := by decide +kernel
theorem dX10_expects_20 : decode cX10_expects 20 = .ok (.iconst 0, 1) := by decide +kernel
theorem dX10_expects_21 : decode cX10_expects 21 = .ok (.putfield 220, 3) := by decide +kernel
theorem dX10_expects_24 : decode cX10_expects 24 = .ok (.aload_n 0, 1) := by decide +kernel
theorem dX10_expects_25 : decode cX10_expects 25 = .ok (.dup, 1) := by decide +kernel
theorem dX10_expects_26 : decode cX10_expects 26 = .ok (.getfield 214, 3) := by decide +kernel
theorem dX10_expects_29 : decode cX10_expects 29 = .ok (.aload_n 0, 1) := by decide +kernel
theorem dX10_expects_30 : decode cX10_expects 30 = .ok (.getfield 220, 3) := by decide +kernel
theorem dX10_expects_33 : decode cX10_expects 33 = .ok (.ifCond .eq 7, 3) := by decide +kernel
theorem dX10_expects_36 : decode cX10_expects 36 = .ok (.iconst 0, 1) := by decide +kernel
theorem dX10_expects_37 : decode cX10_expects 37 = .ok (.goto 4, 3) := by decide +kernel
theorem dX10_expects_40 : decode cX10_expects 40 = .ok (.iconst 1, 1) := by decide +kernel
theorem dX10_expects_41 : decode cX10_expects 41 = .ok (.iadd, 1) := by decide +kernel
theorem dX10_expects_42 : decode cX10_expects 42 = .ok (.putfield 214, 3) := by decide +kernel
theorem dX10_expects_45 : decode cX10_expects 45 = .ok (.return_, 1) := by decide +kernel
theorem dX10_digit_0 : decode cX10_digit 0 = .ok (.aload_n 0, 1) := by decide +kernel
theorem dX10_digit_1 : decode cX10_digit 1 = .ok (.aload_n 0, 1) := by decide +kernel
theorem dX10_digit_2 : decode cX10_digit 2 = .ok (.getfield 220, 3) := by decide +kernel
theorem dX10_digit_5 : decode cX10_digit 5 = .ok (.ifCond .ne 20, 3) := by decide +kernel
theorem dX10_digit_8 : decode cX10_digit 8 = .ok (.aload_n 0, 1) := by decide +kernel
theorem dX10_digit_9 : decode cX10_digit 9 = .ok (.invokevirtual 224, 3) := by decide +kernel
theorem dX10_digit_12 : decode cX10_digit 12 = .ok (.i2l, 1) := by decide +kernel
theorem dX10_digit_13 : decode cX10_digit 13 = .ok (.ldc2_w 227, 3) := by decide +kernel
theorem dX10_digit_16 : decode cX10_digit 16 = .ok (.ldc2_w 229, 3) := by decide +kernel
theorem dX10_digit_19 : decode cX10_digit 19 = .ok (.invokestatic 85, 3) := by decide +kernel
theorem dX10_digit_22 : decode cX10_digit 22 = .ok (.ifCond .ne 7, 3) := by decide +kernel
theorem dX10_digit_25 : decode cX10_digit 25 = .ok (.iconst 1, 1) := by decide +kernel
theorem dX10_digit_26 : decode cX10_digit 26 = .ok (.goto 4, 3) := by decide +kernel
theorem dX10_digit_29 : decode cX10_digit 29 = .ok (.iconst 0, 1) := by decide +kernel
theorem dX10_digit_30 : decode cX10_digit 30 = .ok (.putfield 220, 3) := by decide +kernel
theorem dX10_digit_33 : decode cX10_digit 33 = .ok (.aload_n 0, 1) := by decide +kernel
theorem dX10_digit_34 : decode cX10_digit 34 = .ok (.getfield 220, 3) := by decide +kernel
theorem dX10_digit_37 : decode cX10_digit 37 = .ok (.ifCond .eq 7, 3) := by decide +kernel
theorem dX10_digit_40 : decode cX10_digit 40 = .ok (.iconst 0, 1) := by decide +kernel
theorem dX10_digit_41 : decode cX10_digit 41 = .ok (.goto 10, 3) := by decide +kernel
theorem dX10_digit_44 : decode cX10_digit 44 = .ok (.aload_n 0, 1) := by decide +kernel
theorem dX10_digit_45 : decode cX10_digit 45 = .ok (.invokevirtual 224, 3) := by decide +kernel
theorem dX10_digit_48 : decode cX10_digit 48 = .ok (.bipush 48, 2) := by decide +kernel
theorem dX10_digit_50 : decode cX10_digit 50 = .ok (.isub, 1) := by decide +kernel
theorem dX10_digit_51 : decode cX10_digit 51 = .ok (.istore_n 1, 1) := by decide +kernel
theorem dX10_digit_52 : decode cX10_digit 52 = .ok (.aload_n 0, 1) := by decide +kernel
theorem dX10_digit_53 : decode cX10_digit 53 = .ok (.dup, 1) := by decide +kernel
theorem dX10_digit_54 : decode cX10_digit 54 = .ok (.getfield 214, 3) := by decide +kernel
theorem dX10_digit_57 : decode cX10_digit 57 = .ok (.aload_n 0, 1) := by decide +kernel
theorem dX10_digit_58 : decode cX10_digit 58 = .ok (.getfield 220, 3) := by decide +kernel
theorem dX10_digit_61 : decode cX10_digit 61 = .ok (.ifCond .eq 7, 3) := by decide +kernel
theorem dX10_digit_64 : decode cX10_digit 64 = .ok (.iconst 0, 1) := by decide +kernel
theorem dX10_digit_65 : decode cX10_digit 65 = .ok (.goto 4, 3) := by decide +kernel
theorem dX10_digit_68 : decode cX10_digit 68 = .ok (.iconst 1, 1) := by decide +kernel
theorem dX10_digit_69 : decode cX10_digit 69 = .ok (.iadd, 1) := by decide +kernel
theorem dX10_digit_70 : decode cX10_digit 70 = .ok (.putfield 214, 3) := by decide +kernel
theorem dX10_digit_73 : decode cX10_digit 73 = .ok (.iload_n 1, 1) := by decide +kernel
theorem dX10_digit_74 : decode cX10_digit 74 = .ok (.ireturn, 1) := by decide +kernel
theorem dX10_number_0 : decode cX10_number 0 = .ok (.aload_n 0, 1) := by decide +kernel
theorem dX10_number_1 : decode cX10_number 1 = .ok (.invokevirtual 231, 3) := by decide +kernel
theorem dX10_number_4 : decode cX10_number 4 = .ok (.istore_n 1, 1) := by decide +kernel
theorem dX10_number_5 : decode cX10_number 5 = .ok (.iconst 0, 1) := by decide +kernel
theorem dX10_number_6 : decode cX10_number 6 = .ok (.istore_n 2, 1) := by decide +kernel
theorem dX10_number_7 : decode cX10_number 7 = .ok (.iload_n 2, 1) := by decide +kernel
theorem dX10_number_8 : decode cX10_number 8 = .ok (.iconst 3, 1) := by decide +kernel
theorem dX10_number_9 : decode cX10_number 9 = .ok (.if_icmp .ge 43, 3) := by decide +kernel
theorem dX10_number_12 : decode cX10_number 12 = .ok (.aload_n 0, 1) := by decide +kernel
theorem dX10_number_13 : decode cX10_number 13 = .ok (.getfield 220, 3) := by decide +kernel
theorem dX10_number_16 : decode cX10_number 16 = .ok (.ifCond .ne 36, 3) := by decide +kernel
theorem dX10_number_19 : decode cX10_number 19 = .ok (.aload_n 0, 1) := by decide +kernel
theorem dX10_number_20 : decode cX10_number 20 = .ok (.invokevirtual 224, 3) := by decide +kernel
theorem dX10_number_23 : decode cX10_number 23 = .ok (.i2l, 1) := by decide +kernel
theorem dX10_number_24 : decode cX10_number 24 = .ok (.ldc2_w 227, 3) := by decide +kernel
theorem dX10_number_27 : decode cX10_number 27 = .ok (.ldc2_w 229, 3) := by decide +kernel
theorem dX10_number_30 : decode cX10_number 30 = .ok (.invokestatic 85, 3) := by decide +kernel
theorem dX10_number_33 : decode cX10_number 33 = .ok (.ifCond .eq 19, 3) := by decide +kernel
theorem dX10_number_36 : decode cX10_number 36 = .ok (.bipush 10, 2) := by decide +kernel
theorem dX10_number_38 : decode cX10_number 38 = .ok (.iload_n 1, 1) := by decide +kernel
theorem dX10_number_39 : decode cX10_number 39 = .ok (.imul, 1) := by decide +kernel
theorem dX10_number_40 : decode cX10_number 40 = .ok (.aload_n 0, 1) := by decide +kernel
theorem dX10_number_41 : decode cX10_number 41 = .ok (.invokevirtual 231, 3) := by decide +kernel
theorem dX10_number_44 : decode cX10_number 44 = .ok (.iadd, 1) := by decide +kernel
theorem dX10_number_45 : decode cX10_number 45 = .ok (.istore_n 1, 1) := by decide +kernel
theorem dX10_number_46 : decode cX10_number 46 = .ok (.iinc 2 1, 3) := by decide +kernel
theorem dX10_number_49 : decode cX10_number 49 = .ok (.goto (-42), 3) := by decide +kernel
theorem dX10_number_52 : decode cX10_number 52 = .ok (.iload_n 1, 1) := by decide +kernel
theorem dX10_number_53 : decode cX10_number 53 = .ok (.ireturn, 1) := by decide +kernel
theorem dX10_numberBehind_0 : decode cX10_numberBehind 0 = .ok (.aload_n 0, 1) := by decide +kernel
theorem dX10_numberBehind_1 : decode cX10_numberBehind 1 = .ok (.iload_n 1, 1) := by decide +kernel
theorem dX10_numberBehind_2 : decode cX10_numberBehind 2 = .ok (.invokevirtual 234, 3) := by decide +kernel
theorem dX10_numberBehind_5 : decode cX10_numberBehind 5 = .ok (.aload_n 0, 1) := by decide +kernel
theorem dX10_numberBehind_6 : decode cX10_numberBehind 6 = .ok (.invokevirtual 238, 3) := by decide +kernel
theorem dX10_numberBehind_9 : decode cX10_numberBehind 9 = .ok (.ireturn, 1) := by decide +kernel
theorem dX10_groundHere_0 : decode cX10_groundHere 0 = .ok (.aload_n 0, 1) := by decide +kernel
theorem dX10_groundHere_1 : decode cX10_groundHere 1 = .ok (.aload_n 0, 1) := by decide +kernel
theorem dX10_groundHere_2 : decode cX10_groundHere 2 = .ok (.getfield 220, 3) := by decide +kernel
theorem dX10_groundHere_5 : decode cX10_groundHere 5 = .ok (.ifCond .ne 13, 3) := by decide +kernel
theorem dX10_groundHere_8 : decode cX10_groundHere 8 = .ok (.aload_n 0, 1) := by decide +kernel
theorem dX10_groundHere_9 : decode cX10_groundHere 9 = .ok (.invokevirtual 224, 3) := by decide +kernel
theorem dX10_groundHere_12 : decode cX10_groundHere 12 = .ok (.invokestatic 112, 3) := by decide +kernel
theorem dX10_groundHere_15 : decode cX10_groundHere 15 = .ok (.ifCond .ne 7, 3) := by decide +kernel
theorem dX10_groundHere_18 : decode cX10_groundHere 18 = .ok (.iconst 1, 1) := by decide +kernel
theorem dX10_groundHere_19 : decode cX10_groundHere 19 = .ok (.goto 4, 3) := by decide +kernel
theorem dX10_groundHere_22 : decode cX10_groundHere 22 = .ok (.iconst 0, 1) := by decide +kernel
theorem dX10_groundHere_23 : decode cX10_groundHere 23 = .ok (.putfield 220, 3) := by decide +kernel
theorem dX10_groundHere_26 : decode cX10_groundHere 26 = .ok (.aload_n 0, 1) := by decide +kernel
theorem dX10_groundHere_27 : decode cX10_groundHere 27 = .ok (.invokevirtual 224, 3) := by decide +kernel
theorem dX10_groundHere_30 : decode cX10_groundHere 30 = .ok (.istore_n 1, 1) := by decide +kernel
theorem dX10_groundHere_31 : decode cX10_groundHere 31 = .ok (.aload_n 0, 1) := by decide +kernel
theorem dX10_groundHere_32 : decode cX10_groundHere 32 = .ok (.dup, 1) := by decide +kernel
theorem dX10_groundHere_33 : decode cX10_groundHere 33 = .ok (.getfield 214, 3) := by decide +kernel
theorem dX10_groundHere_36 : decode cX10_groundHere 36 = .ok (.aload_n 0, 1) := by decide +kernel
theorem dX10_groundHere_37 : decode cX10_groundHere 37 = .ok (.getfield 220, 3) := by decide +kernel
theorem dX10_groundHere_40 : decode cX10_groundHere 40 = .ok (.ifCond .eq 7, 3) := by decide +kernel
theorem dX10_groundHere_43 : decode cX10_groundHere 43 = .ok (.iconst 0, 1) := by decide +kernel
theorem dX10_groundHere_44 : decode cX10_groundHere 44 = .ok (.goto 4, 3) := by decide +kernel
theorem dX10_groundHere_47 : decode cX10_groundHere 47 = .ok (.iconst 1, 1) := by decide +kernel
theorem dX10_groundHere_48 : decode cX10_groundHere 48 = .ok (.iadd, 1) := by decide +kernel
theorem dX10_groundHere_49 : decode cX10_groundHere 49 = .ok (.putfield 214, 3) := by decide +kernel
theorem dX10_groundHere_52 : decode cX10_groundHere 52 = .ok (.iload_n 1, 1) := by decide +kernel
theorem dX10_groundHere_53 : decode cX10_groundHere 53 = .ok (.ireturn, 1) := by decide +kernel
theorem dX10_likeness_0 : decode cX10_likeness 0 = .ok (.iconst 0, 1) := by decide +kernel
theorem dX10_likeness_1 : decode cX10_likeness 1 = .ok (.istore_n 2, 1) := by decide +kernel
theorem dX10_likeness_2 : decode cX10_likeness 2 = .ok (.aload_n 0, 1) := by decide +kernel
theorem dX10_likeness_3 : decode cX10_likeness 3 = .ok (.getfield 58, 3) := by decide +kernel
theorem dX10_likeness_6 : decode cX10_likeness 6 = .ok (.iload_n 1, 1) := by decide +kernel
theorem dX10_likeness_7 : decode cX10_likeness 7 = .ok (.iconst 1, 1) := by decide +kernel
theorem dX10_likeness_8 : decode cX10_likeness 8 = .ok (.iadd, 1) := by decide +kernel
theorem dX10_likeness_9 : decode cX10_likeness 9 = .ok (.iaload, 1) := by decide +kernel
theorem dX10_likeness_10 : decode cX10_likeness 10 = .ok (.aload_n 0, 1) := by decide +kernel
theorem dX10_likeness_11 : decode cX10_likeness 11 = .ok (.getfield 58, 3) := by decide +kernel
theorem dX10_likeness_14 : decode cX10_likeness 14 = .ok (.iload_n 1, 1) := by decide +kernel
theorem dX10_likeness_15 : decode cX10_likeness 15 = .ok (.iaload, 1) := by decide +kernel
theorem dX10_likeness_16 : decode cX10_likeness 16 = .ok (.isub, 1) := by decide +kernel
theorem dX10_likeness_17 : decode cX10_likeness 17 = .ok (.istore_n 3, 1) := by decide +kernel
theorem dX10_likeness_18 : decode cX10_likeness 18 = .ok (.iload_n 2, 1) := by decide +kernel
theorem dX10_likeness_19 : decode cX10_likeness 19 = .ok (.iload_n 3, 1) := by decide +kernel
theorem dX10_likeness_20 : decode cX10_likeness 20 = .ok (.if_icmp .ge 49, 3) := by decide +kernel
theorem dX10_likeness_23 : decode cX10_likeness 23 = .ok (.aload_n 0, 1) := by decide +kernel
theorem dX10_likeness_24 : decode cX10_likeness 24 = .ok (.getfield 214, 3) := by decide +kernel
theorem dX10_likeness_27 : decode cX10_likeness 27 = .ok (.iload_n 2, 1) := by decide +kernel
theorem dX10_likeness_28 : decode cX10_likeness 28 = .ok (.iadd, 1) := by decide +kernel
theorem dX10_likeness_29 : decode cX10_likeness 29 = .ok (.aload_n 0, 1) := by decide +kernel
theorem dX10_likeness_30 : decode cX10_likeness 30 = .ok (.getfield 217, 3) := by decide +kernel
theorem dX10_likeness_33 : decode cX10_likeness 33 = .ok (.if_icmp .ge 36, 3) := by decide +kernel
theorem dX10_likeness_36 : decode cX10_likeness 36 = .ok (.aload_n 0, 1) := by decide +kernel
theorem dX10_likeness_37 : decode cX10_likeness 37 = .ok (.getfield 32, 3) := by decide +kernel
theorem dX10_likeness_40 : decode cX10_likeness 40 = .ok (.aload_n 0, 1) := by decide +kernel
theorem dX10_likeness_41 : decode cX10_likeness 41 = .ok (.getfield 214, 3) := by decide +kernel
theorem dX10_likeness_44 : decode cX10_likeness 44 = .ok (.iload_n 2, 1) := by decide +kernel
theorem dX10_likeness_45 : decode cX10_likeness 45 = .ok (.iadd, 1) := by decide +kernel
theorem dX10_likeness_46 : decode cX10_likeness 46 = .ok (.iaload, 1) := by decide +kernel
theorem dX10_likeness_47 : decode cX10_likeness 47 = .ok (.aload_n 0, 1) := by decide +kernel
theorem dX10_likeness_48 : decode cX10_likeness 48 = .ok (.getfield 54, 3) := by decide +kernel
theorem dX10_likeness_51 : decode cX10_likeness 51 = .ok (.aload_n 0, 1) := by decide +kernel
theorem dX10_likeness_52 : decode cX10_likeness 52 = .ok (.getfield 58, 3) := by decide +kernel
theorem dX10_likeness_55 : decode cX10_likeness 55 = .ok (.iload_n 1, 1) := by decide +kernel
theorem dX10_likeness_56 : decode cX10_likeness 56 = .ok (.iaload, 1) := by decide +kernel
theorem dX10_likeness_57 : decode cX10_likeness 57 = .ok (.iload_n 2, 1) := by decide +kernel
theorem dX10_likeness_58 : decode cX10_likeness 58 = .ok (.iadd, 1) := by decide +kernel
theorem dX10_likeness_59 : decode cX10_likeness 59 = .ok (.caload, 1) := by decide +kernel
theorem dX10_likeness_60 : decode cX10_likeness 60 = .ok (.if_icmp .ne 9, 3) := by decide +kernel
theorem dX10_likeness_63 : decode cX10_likeness 63 = .ok (.iinc 2 1, 3) := by decide +kernel
theorem dX10_likeness_66 : decode cX10_likeness 66 = .ok (.goto (-48), 3) := by decide +kernel
theorem dX10_likeness_69 : decode cX10_likeness 69 = .ok (.iload_n 2, 1) := by decide +kernel
theorem dX10_likeness_70 : decode cX10_likeness 70 = .ok (.ireturn, 1) := by decide +kernel
theorem dX10_readArguments_0 : decode cX10_readArguments 0 = .ok (.aload_n 0, 1) := by decide +kernel
theorem dX10_readArguments_1 : decode cX10_readArguments 1 = .ok (.getfield 61, 3) := by decide +kernel
theorem dX10_readArguments_4 : decode cX10_readArguments 4 = .ok (.iload_n 2, 1) := by decide +kernel
theorem dX10_readArguments_5 : decode cX10_readArguments 5 = .ok (.iload_n 1, 1) := by decide +kernel
theorem dX10_readArguments_6 : decode cX10_readArguments 6 = .ok (.iconst 3, 1) := by decide +kernel
theorem dX10_readArguments_7 : decode cX10_readArguments 7 = .ok (.if_icmp .ne 10, 3) := by decide +kernel
theorem dX10_readArguments_10 : decode cX10_readArguments 10 = .ok (.aload_n 0, 1) := by decide +kernel
theorem dX10_readArguments_11 : decode cX10_readArguments 11 = .ok (.invokevirtual 238, 3) := by decide +kernel
theorem dX10_readArguments_14 : decode cX10_readArguments 14 = .ok (.goto 7, 3) := by decide +kernel
theorem dX10_readArguments_17 : decode cX10_readArguments 17 = .ok (.aload_n 0, 1) := by decide +kernel
theorem dX10_readArguments_18 : decode cX10_readArguments 18 = .ok (.invokevirtual 231, 3) := by decide +kernel
theorem dX10_readArguments_21 : decode cX10_readArguments 21 = .ok (.iastore, 1) := by decide +kernel
theorem dX10_readArguments_22 : decode cX10_readArguments 22 = .ok (.iload_n 1, 1) := by decide +kernel
theorem dX10_readArguments_23 : decode cX10_readArguments 23 = .ok (.tableswitch 98 0 2 #[25, 54, 81], 25) := by decide +kernel
theorem dX10_readArguments_48 : decode cX10_readArguments 48 = .ok (.aload_n 0, 1) := by decide +kernel
theorem dX10_readArguments_49 : decode cX10_readArguments 49 = .ok (.getfield 61, 3) := by decide +kernel
theorem dX10_readArguments_52 : decode cX10_readArguments 52 = .ok (.iload_n 2, 1) := by decide +kernel
theorem dX10_readArguments_53 : decode cX10_readArguments 53 = .ok (.iconst 1, 1) := by decide +kernel
theorem dX10_readArguments_54 : decode cX10_readArguments 54 = .ok (.iadd, 1) := by decide +kernel
theorem dX10_readArguments_55 : decode cX10_readArguments 55 = .ok (.aload_n 0, 1) := by decide +kernel
theorem dX10_readArguments_56 : decode cX10_readArguments 56 = .ok (.invokevirtual 231, 3) := by decide +kernel
theorem dX10_readArguments_59 : decode cX10_readArguments 59 = .ok (.iastore, 1) := by decide +kernel
theorem dX10_readArguments_60 : decode cX10_readArguments 60 = .ok (.aload_n 0, 1) := by decide +kernel
theorem dX10_readArguments_61 : decode cX10_readArguments 61 = .ok (.getfield 61, 3) := by decide +kernel
theorem dX10_readArguments_64 : decode cX10_readArguments 64 = .ok (.iload_n 2, 1) := by decide +kernel
theorem dX10_readArguments_65 : decode cX10_readArguments 65 = .ok (.iconst 2, 1) := by decide +kernel
theorem dX10_readArguments_66 : decode cX10_readArguments 66 = .ok (.iadd, 1) := by decide +kernel
theorem dX10_readArguments_67 : decode cX10_readArguments 67 = .ok (.aload_n 0, 1) := by decide +kernel
theorem dX10_readArguments_68 : decode cX10_readArguments 68 = .ok (.bipush 43, 2) := by decide +kernel
theorem dX10_readArguments_70 : decode cX10_readArguments 70 = .ok (.invokevirtual 241, 3) := by decide +kernel
theorem dX10_readArguments_73 : decode cX10_readArguments 73 = .ok (.iastore, 1) := by decide +kernel
theorem dX10_readArguments_74 : decode cX10_readArguments 74 = .ok (.goto 47, 3) := by decide +kernel
theorem dX10_readArguments_77 : decode cX10_readArguments 77 = .ok (.aload_n 0, 1) := by decide +kernel
theorem dX10_readArguments_78 : decode cX10_readArguments 78 = .ok (.getfield 61, 3) := by decide +kernel
theorem dX10_readArguments_81 : decode cX10_readArguments 81 = .ok (.iload_n 2, 1) := by decide +kernel
theorem dX10_readArguments_82 : decode cX10_readArguments 82 = .ok (.iconst 1, 1) := by decide +kernel
theorem dX10_readArguments_83 : decode cX10_readArguments 83 = .ok (.iadd, 1) := by decide +kernel
theorem dX10_readArguments_84 : decode cX10_readArguments 84 = .ok (.aload_n 0, 1) := by decide +kernel
theorem dX10_readArguments_85 : decode cX10_readArguments 85 = .ok (.invokevirtual 231, 3) := by decide +kernel
theorem dX10_readArguments_88 : decode cX10_readArguments 88 = .ok (.iastore, 1) := by decide +kernel
theorem dX10_readArguments_89 : decode cX10_readArguments 89 = .ok (.aload_n 0, 1) := by decide +kernel
theorem dX10_readArguments_90 : decode cX10_readArguments 90 = .ok (.getfield 61, 3) := by decide +kernel
theorem dX10_readArguments_93 : decode cX10_readArguments 93 = .ok (.iload_n 2, 1) := by decide +kernel
theorem dX10_readArguments_94 : decode cX10_readArguments 94 = .ok (.iconst 2, 1) := by decide +kernel
theorem dX10_readArguments_95 : decode cX10_readArguments 95 = .ok (.iadd, 1) := by decide +kernel
theorem dX10_readArguments_96 : decode cX10_readArguments 96 = .ok (.aload_n 0, 1) := by decide +kernel
theorem dX10_readArguments_97 : decode cX10_readArguments 97 = .ok (.invokevirtual 244, 3) := by decide +kernel
theorem dX10_readArguments_100 : decode cX10_readArguments 100 = .ok (.iastore, 1) := by decide +kernel
theorem dX10_readArguments_101 : decode cX10_readArguments 101 = .ok (.goto 20, 3) := by decide +kernel
theorem dX10_readArguments_104 : decode cX10_readArguments 104 = .ok (.aload_n 0, 1) := by decide +kernel
theorem dX10_readArguments_105 : decode cX10_readArguments 105 = .ok (.getfield 61, 3) := by decide +kernel
theorem dX10_readArguments_108 : decode cX10_readArguments 108 = .ok (.iload_n 2, 1) := by decide +kernel
theorem dX10_readArguments_109 : decode cX10_readArguments 109 = .ok (.iconst 1, 1) := by decide +kernel
theorem dX10_readArguments_110 : decode cX10_readArguments 110 = .ok (.iadd, 1) := by decide +kernel
theorem dX10_readArguments_111 : decode cX10_readArguments 111 = .ok (.aload_n 0, 1) := by decide +kernel
theorem dX10_readArguments_112 : decode cX10_readArguments 112 = .ok (.bipush 61, 2) := by decide +kernel
theorem dX10_readArguments_114 : decode cX10_readArguments 114 = .ok (.invokevirtual 241, 3) := by decide +kernel
theorem dX10_readArguments_117 : decode cX10_readArguments 117 = .ok (.iastore, 1) := by decide +kernel
theorem dX10_readArguments_118 : decode cX10_readArguments 118 = .ok (.goto 3, 3) := by decide +kernel
theorem dX10_readArguments_121 : decode cX10_readArguments 121 = .ok (.return_, 1) := by decide +kernel
theorem dX10_readCommand_0 : decode cX10_readCommand 0 = .ok (.iconst 4, 1) := by decide +kernel
theorem dX10_readCommand_1 : decode cX10_readCommand 1 = .ok (.aload_n 0, 1) := by decide +kernel
theorem dX10_readCommand_2 : decode cX10_readCommand 2 = .ok (.getfield 247, 3) := by decide +kernel
theorem dX10_readCommand_5 : decode cX10_readCommand 5 = .ok (.imul, 1) := by decide +kernel
theorem dX10_readCommand_6 : decode cX10_readCommand 6 = .ok (.istore_n 1, 1) := by decide +kernel
theorem dX10_readCommand_7 : decode cX10_readCommand 7 = .ok (.iconst 0, 1) := by decide +kernel
theorem dX10_readCommand_8 : decode cX10_readCommand 8 = .ok (.istore_n 2, 1) := by decide +kernel
theorem dX10_readCommand_9 : decode cX10_readCommand 9 = .ok (.iconst 1, 1) := by decide +kernel
theorem dX10_readCommand_10 : decode cX10_readCommand 10 = .ok (.istore_n 3, 1) := by decide +kernel
theorem dX10_readCommand_11 : decode cX10_readCommand 11 = .ok (.iload_n 3, 1) := by decide +kernel
theorem dX10_readCommand_12 : decode cX10_readCommand 12 = .ok (.iconst 4, 1) := by decide +kernel
theorem dX10_readCommand_13 : decode cX10_readCommand 13 = .ok (.if_icmp .ge 28, 3) := by decide +kernel
theorem dX10_readCommand_16 : decode cX10_readCommand 16 = .ok (.aload_n 0, 1) := by decide +kernel
theorem dX10_readCommand_17 : decode cX10_readCommand 17 = .ok (.iload_n 3, 1) := by decide +kernel
theorem dX10_readCommand_18 : decode cX10_readCommand 18 = .ok (.invokevirtual 250, 3) := by decide +kernel
theorem dX10_readCommand_21 : decode cX10_readCommand 21 = .ok (.aload_n 0, 1) := by decide +kernel
theorem dX10_readCommand_22 : decode cX10_readCommand 22 = .ok (.iload_n 2, 1) := by decide +kernel
theorem dX10_readCommand_23 : decode cX10_readCommand 23 = .ok (.invokevirtual 250, 3) := by decide +kernel
theorem dX10_readCommand_26 : decode cX10_readCommand 26 = .ok (.if_icmp .le 7, 3) := by decide +kernel
theorem dX10_readCommand_29 : decode cX10_readCommand 29 = .ok (.iload_n 3, 1) := by decide +kernel
theorem dX10_readCommand_30 : decode cX10_readCommand 30 = .ok (.goto 4, 3) := by decide +kernel
theorem dX10_readCommand_33 : decode cX10_readCommand 33 = .ok (.iload_n 2, 1) := by decide +kernel
theorem dX10_readCommand_34 : decode cX10_readCommand 34 = .ok (.istore_n 2, 1) := by decide +kernel
theorem dX10_readCommand_35 : decode cX10_readCommand 35 = .ok (.iinc 3 1, 3) := by decide +kernel
theorem dX10_readCommand_38 : decode cX10_readCommand 38 = .ok (.goto (-27), 3) := by decide +kernel
theorem dX10_readCommand_41 : decode cX10_readCommand 41 = .ok (.aload_n 0, 1) := by decide +kernel
theorem dX10_readCommand_42 : decode cX10_readCommand 42 = .ok (.iload_n 2, 1) := by decide +kernel
theorem dX10_readCommand_43 : decode cX10_readCommand 43 = .ok (.invokevirtual 250, 3) := by decide +kernel
theorem dX10_readCommand_46 : decode cX10_readCommand 46 = .ok (.istore_n 3, 1) := by decide +kernel
theorem dX10_readCommand_47 : decode cX10_readCommand 47 = .ok (.aload_n 0, 1) := by decide +kernel
theorem dX10_readCommand_48 : decode cX10_readCommand 48 = .ok (.dup, 1) := by decide +kernel
theorem dX10_readCommand_49 : decode cX10_readCommand 49 = .ok (.getfield 214, 3) := by decide +kernel
theorem dX10_readCommand_52 : decode cX10_readCommand 52 = .ok (.iload_n 3, 1) := by decide +kernel
theorem dX10_readCommand_53 : decode cX10_readCommand 53 = .ok (.iadd, 1) := by decide +kernel
theorem dX10_readCommand_54 : decode cX10_readCommand 54 = .ok (.putfield 214, 3) := by decide +kernel
theorem dX10_readCommand_57 : decode cX10_readCommand 57 = .ok (.aload_n 0, 1) := by decide +kernel
theorem dX10_readCommand_58 : decode cX10_readCommand 58 = .ok (.iload_n 3, 1) := by decide +kernel
theorem dX10_readCommand_59 : decode cX10_readCommand 59 = .ok (.aload_n 0, 1) := by decide +kernel
theorem dX10_readCommand_60 : decode cX10_readCommand 60 = .ok (.getfield 58, 3) := by decide +kernel
theorem dX10_readCommand_63 : decode cX10_readCommand 63 = .ok (.iload_n 2, 1) := by decide +kernel
theorem dX10_readCommand_64 : decode cX10_readCommand 64 = .ok (.iconst 1, 1) := by decide +kernel
theorem dX10_readCommand_65 : decode cX10_readCommand 65 = .ok (.iadd, 1) := by decide +kernel
theorem dX10_readCommand_66 : decode cX10_readCommand 66 = .ok (.iaload, 1) := by decide +kernel
theorem dX10_readCommand_67 : decode cX10_readCommand 67 = .ok (.aload_n 0, 1) := by decide +kernel
theorem dX10_readCommand_68 : decode cX10_readCommand 68 = .ok (.getfield 58, 3) := by decide +kernel
theorem dX10_readCommand_71 : decode cX10_readCommand 71 = .ok (.iload_n 2, 1) := by decide +kernel
theorem dX10_readCommand_72 : decode cX10_readCommand 72 = .ok (.iaload, 1) := by decide +kernel
theorem dX10_readCommand_73 : decode cX10_readCommand 73 = .ok (.isub, 1) := by decide +kernel
theorem dX10_readCommand_74 : decode cX10_readCommand 74 = .ok (.if_icmp .ge 7, 3) := by decide +kernel
theorem dX10_readCommand_77 : decode cX10_readCommand 77 = .ok (.iconst 1, 1) := by decide +kernel
theorem dX10_readCommand_78 : decode cX10_readCommand 78 = .ok (.goto 4, 3) := by decide +kernel
theorem dX10_readCommand_81 : decode cX10_readCommand 81 = .ok (.iconst 0, 1) := by decide +kernel
theorem dX10_readCommand_82 : decode cX10_readCommand 82 = .ok (.putfield 220, 3) := by decide +kernel
theorem dX10_readCommand_85 : decode cX10_readCommand 85 = .ok (.aload_n 0, 1) := by decide +kernel
theorem dX10_readCommand_86 : decode cX10_readCommand 86 = .ok (.getfield 220, 3) := by decide +kernel
theorem dX10_readCommand_89 : decode cX10_readCommand 89 = .ok (.ifCond .ne 28, 3) := by decide +kernel
theorem dX10_readCommand_92 : decode cX10_readCommand 92 = .ok (.aload_n 0, 1) := by decide +kernel
theorem dX10_readCommand_93 : decode cX10_readCommand 93 = .ok (.getfield 61, 3) := by decide +kernel
theorem dX10_readCommand_96 : decode cX10_readCommand 96 = .ok (.iload_n 1, 1) := by decide +kernel
theorem dX10_readCommand_97 : decode cX10_readCommand 97 = .ok (.iload_n 2, 1) := by decide +kernel
theorem dX10_readCommand_98 : decode cX10_readCommand 98 = .ok (.iastore, 1) := by decide +kernel
theorem dX10_readCommand_99 : decode cX10_readCommand 99 = .ok (.aload_n 0, 1) := by decide +kernel
theorem dX10_readCommand_100 : decode cX10_readCommand 100 = .ok (.dup, 1) := by decide +kernel
theorem dX10_readCommand_101 : decode cX10_readCommand 101 = .ok (.getfield 247, 3) := by decide +kernel
theorem dX10_readCommand_104 : decode cX10_readCommand 104 = .ok (.iconst 1, 1) := by decide +kernel
theorem dX10_readCommand_105 : decode cX10_readCommand 105 = .ok (.iadd, 1) := by decide +kernel
theorem dX10_readCommand_106 : decode cX10_readCommand 106 = .ok (.putfield 247, 3) := by decide +kernel
theorem dX10_readCommand_109 : decode cX10_readCommand 109 = .ok (.aload_n 0, 1) := by decide +kernel
theorem dX10_readCommand_110 : decode cX10_readCommand 110 = .ok (.iload_n 2, 1) := by decide +kernel
theorem dX10_readCommand_111 : decode cX10_readCommand 111 = .ok (.iload_n 1, 1) := by decide +kernel
theorem dX10_readCommand_112 : decode cX10_readCommand 112 = .ok (.iconst 1, 1) := by decide +kernel
theorem dX10_readCommand_113 : decode cX10_readCommand 113 = .ok (.iadd, 1) := by decide +kernel
theorem dX10_readCommand_114 : decode cX10_readCommand 114 = .ok (.invokevirtual 253, 3) := by decide +kernel
theorem dX10_readCommand_117 : decode cX10_readCommand 117 = .ok (.return_, 1) := by decide +kernel
theorem dX10_does_0 : decode cX10_does 0 = .ok (.aload_n 0, 1) := by decide +kernel
theorem dX10_does_1 : decode cX10_does 1 = .ok (.getfield 61, 3) := by decide +kernel
theorem dX10_does_4 : decode cX10_does 4 = .ok (.iload_n 1, 1) := by decide +kernel
theorem dX10_does_5 : decode cX10_does 5 = .ok (.iconst 1, 1) := by decide +kernel
theorem dX10_does_6 : decode cX10_does 6 = .ok (.iadd, 1) := by decide +kernel
theorem dX10_does_7 : decode cX10_does 7 = .ok (.iaload, 1) := by decide +kernel
theorem dX10_does_8 : decode cX10_does 8 = .ok (.istore_n 2, 1) := by decide +kernel
theorem dX10_does_9 : decode cX10_does 9 = .ok (.aload_n 0, 1) := by decide +kernel
theorem dX10_does_10 : decode cX10_does 10 = .ok (.getfield 61, 3) := by decide +kernel
theorem dX10_does_13 : decode cX10_does 13 = .ok (.iload_n 1, 1) := by decide +kernel
theorem dX10_does_14 : decode cX10_does 14 = .ok (.iconst 2, 1) := by decide +kernel
theorem dX10_does_15 : decode cX10_does 15 = .ok (.iadd, 1) := by decide +kernel
theorem dX10_does_16 : decode cX10_does 16 = .ok (.iaload, 1) := by decide +kernel
theorem dX10_does_17 : decode cX10_does 17 = .ok (.istore_n 3, 1) := by decide +kernel
theorem dX10_does_18 : decode cX10_does 18 = .ok (.aload_n 0, 1) := by decide +kernel
theorem dX10_does_19 : decode cX10_does 19 = .ok (.getfield 61, 3) := by decide +kernel
theorem dX10_does_22 : decode cX10_does 22 = .ok (.iload_n 1, 1) := by decide +kernel
theorem dX10_does_23 : decode cX10_does 23 = .ok (.iconst 3, 1) := by decide +kernel
theorem dX10_does_24 : decode cX10_does 24 = .ok (.iadd, 1) := by decide +kernel
theorem dX10_does_25 : decode cX10_does 25 = .ok (.iaload, 1) := by decide +kernel
theorem dX10_does_26 : decode cX10_does 26 = .ok (.istore 4, 2) := by decide +kernel
theorem dX10_does_28 : decode cX10_does 28 = .ok (.aload_n 0, 1) := by decide +kernel
theorem dX10_does_29 : decode cX10_does 29 = .ok (.getfield 61, 3) := by decide +kernel
theorem dX10_does_32 : decode cX10_does 32 = .ok (.iload_n 1, 1) := by decide +kernel
theorem dX10_does_33 : decode cX10_does 33 = .ok (.iaload, 1) := by decide +kernel
theorem dX10_does_34 : decode cX10_does 34 = .ok (.tableswitch 60 0 2 #[26, 38, 50], 26) := by decide +kernel
theorem dX10_does_60 : decode cX10_does 60 = .ok (.aload_n 0, 1) := by decide +kernel
theorem dX10_does_61 : decode cX10_does 61 = .ok (.iload_n 2, 1) := by decide +kernel
theorem dX10_does_62 : decode cX10_does 62 = .ok (.iload_n 3, 1) := by decide +kernel
theorem dX10_does_63 : decode cX10_does 63 = .ok (.iload 4, 2) := by decide +kernel
theorem dX10_does_65 : decode cX10_does 65 = .ok (.invokevirtual 130, 3) := by decide +kernel
theorem dX10_does_68 : decode cX10_does 68 = .ok (.pop, 1) := by decide +kernel
theorem dX10_does_69 : decode cX10_does 69 = .ok (.goto 31, 3) := by decide +kernel
theorem dX10_does_72 : decode cX10_does 72 = .ok (.aload_n 0, 1) := by decide +kernel
theorem dX10_does_73 : decode cX10_does 73 = .ok (.iload_n 2, 1) := by decide +kernel
theorem dX10_does_74 : decode cX10_does 74 = .ok (.iload_n 3, 1) := by decide +kernel
theorem dX10_does_75 : decode cX10_does 75 = .ok (.iload 4, 2) := by decide +kernel
theorem dX10_does_77 : decode cX10_does 77 = .ok (.invokevirtual 121, 3) := by decide +kernel
theorem dX10_does_80 : decode cX10_does 80 = .ok (.pop, 1) := by decide +kernel
theorem dX10_does_81 : decode cX10_does 81 = .ok (.goto 19, 3) := by decide +kernel
theorem dX10_does_84 : decode cX10_does 84 = .ok (.aload_n 0, 1) := by decide +kernel
theorem dX10_does_85 : decode cX10_does 85 = .ok (.iload_n 2, 1) := by decide +kernel
theorem dX10_does_86 : decode cX10_does 86 = .ok (.iload_n 3, 1) := by decide +kernel
theorem dX10_does_87 : decode cX10_does 87 = .ok (.invokevirtual 137, 3) := by decide +kernel
theorem dX10_does_90 : decode cX10_does 90 = .ok (.pop, 1) := by decide +kernel
theorem dX10_does_91 : decode cX10_does 91 = .ok (.goto 9, 3) := by decide +kernel
theorem dX10_does_94 : decode cX10_does 94 = .ok (.aload_n 0, 1) := by decide +kernel
theorem dX10_does_95 : decode cX10_does 95 = .ok (.iload_n 2, 1) := by decide +kernel
theorem dX10_does_96 : decode cX10_does 96 = .ok (.invokevirtual 146, 3) := by decide +kernel
theorem dX10_does_99 : decode cX10_does 99 = .ok (.pop, 1) := by decide +kernel
theorem dX10_does_100 : decode cX10_does 100 = .ok (.return_, 1) := by decide +kernel
theorem dX10_run_0 : decode cX10_run 0 = .ok (.aload_n 0, 1) := by decide +kernel
theorem dX10_run_1 : decode cX10_run 1 = .ok (.invokevirtual 118, 3) := by decide +kernel
theorem dX10_run_4 : decode cX10_run 4 = .ok (.aload_n 0, 1) := by decide +kernel
theorem dX10_run_5 : decode cX10_run 5 = .ok (.aload_n 0, 1) := by decide +kernel
theorem dX10_run_6 : decode cX10_run 6 = .ok (.getfield 211, 3) := by decide +kernel
theorem dX10_run_9 : decode cX10_run 9 = .ok (.putfield 217, 3) := by decide +kernel
theorem dX10_run_12 : decode cX10_run 12 = .ok (.aload_n 0, 1) := by decide +kernel
theorem dX10_run_13 : decode cX10_run 13 = .ok (.iconst 0, 1) := by decide +kernel
theorem dX10_run_14 : decode cX10_run 14 = .ok (.putfield 211, 3) := by decide +kernel
theorem dX10_run_17 : decode cX10_run 17 = .ok (.aload_n 0, 1) := by decide +kernel
theorem dX10_run_18 : decode cX10_run 18 = .ok (.iconst 0, 1) := by decide +kernel
theorem dX10_run_19 : decode cX10_run 19 = .ok (.putfield 214, 3) := by decide +kernel
theorem dX10_run_22 : decode cX10_run 22 = .ok (.aload_n 0, 1) := by decide +kernel
theorem dX10_run_23 : decode cX10_run 23 = .ok (.iconst 0, 1) := by decide +kernel
theorem dX10_run_24 : decode cX10_run 24 = .ok (.putfield 247, 3) := by decide +kernel
theorem dX10_run_27 : decode cX10_run 27 = .ok (.aload_n 0, 1) := by decide +kernel
theorem dX10_run_28 : decode cX10_run 28 = .ok (.iconst 0, 1) := by decide +kernel
theorem dX10_run_29 : decode cX10_run 29 = .ok (.putfield 220, 3) := by decide +kernel
theorem dX10_run_32 : decode cX10_run 32 = .ok (.iconst 1, 1) := by decide +kernel
theorem dX10_run_33 : decode cX10_run 33 = .ok (.istore_n 1, 1) := by decide +kernel
theorem dX10_run_34 : decode cX10_run 34 = .ok (.iload_n 1, 1) := by decide +kernel
theorem dX10_run_35 : decode cX10_run 35 = .ok (.ifCond .eq 57, 3) := by decide +kernel
theorem dX10_run_38 : decode cX10_run 38 = .ok (.aload_n 0, 1) := by decide +kernel
theorem dX10_run_39 : decode cX10_run 39 = .ok (.invokevirtual 257, 3) := by decide +kernel
theorem dX10_run_42 : decode cX10_run 42 = .ok (.aload_n 0, 1) := by decide +kernel
theorem dX10_run_43 : decode cX10_run 43 = .ok (.getfield 220, 3) := by decide +kernel
theorem dX10_run_46 : decode cX10_run 46 = .ok (.ifCond .ne 18, 3) := by decide +kernel
theorem dX10_run_49 : decode cX10_run 49 = .ok (.aload_n 0, 1) := by decide +kernel
theorem dX10_run_50 : decode cX10_run 50 = .ok (.getfield 214, 3) := by decide +kernel
theorem dX10_run_53 : decode cX10_run 53 = .ok (.aload_n 0, 1) := by decide +kernel
theorem dX10_run_54 : decode cX10_run 54 = .ok (.getfield 217, 3) := by decide +kernel
theorem dX10_run_57 : decode cX10_run 57 = .ok (.if_icmp .ge 7, 3) := by decide +kernel
theorem dX10_run_60 : decode cX10_run 60 = .ok (.iconst 1, 1) := by decide +kernel
theorem dX10_run_61 : decode cX10_run 61 = .ok (.goto 4, 3) := by decide +kernel
theorem dX10_run_64 : decode cX10_run 64 = .ok (.iconst 0, 1) := by decide +kernel
theorem dX10_run_65 : decode cX10_run 65 = .ok (.istore_n 1, 1) := by decide +kernel
theorem dX10_run_66 : decode cX10_run 66 = .ok (.iload_n 1, 1) := by decide +kernel
theorem dX10_run_67 : decode cX10_run 67 = .ok (.ifCond .eq (-33), 3) := by decide +kernel
theorem dX10_run_70 : decode cX10_run 70 = .ok (.aload_n 0, 1) := by decide +kernel
theorem dX10_run_71 : decode cX10_run 71 = .ok (.bipush 59, 2) := by decide +kernel
theorem dX10_run_73 : decode cX10_run 73 = .ok (.invokevirtual 234, 3) := by decide +kernel
theorem dX10_run_76 : decode cX10_run 76 = .ok (.aload_n 0, 1) := by decide +kernel
theorem dX10_run_77 : decode cX10_run 77 = .ok (.getfield 220, 3) := by decide +kernel
theorem dX10_run_80 : decode cX10_run 80 = .ok (.ifCond .ne 7, 3) := by decide +kernel
theorem dX10_run_83 : decode cX10_run 83 = .ok (.iconst 1, 1) := by decide +kernel
theorem dX10_run_84 : decode cX10_run 84 = .ok (.goto 4, 3) := by decide +kernel
theorem dX10_run_87 : decode cX10_run 87 = .ok (.iconst 0, 1) := by decide +kernel
theorem dX10_run_88 : decode cX10_run 88 = .ok (.istore_n 1, 1) := by decide +kernel
theorem dX10_run_89 : decode cX10_run 89 = .ok (.goto (-55), 3) := by decide +kernel
theorem dX10_run_92 : decode cX10_run 92 = .ok (.aload_n 0, 1) := by decide +kernel
theorem dX10_run_93 : decode cX10_run 93 = .ok (.getfield 220, 3) := by decide +kernel
theorem dX10_run_96 : decode cX10_run 96 = .ok (.ifCond .eq 17, 3) := by decide +kernel
theorem dX10_run_99 : decode cX10_run 99 = .ok (.aload_n 0, 1) := by decide +kernel
theorem dX10_run_100 : decode cX10_run 100 = .ok (.aload_n 0, 1) := by decide +kernel
theorem dX10_run_101 : decode cX10_run 101 = .ok (.getfield 214, 3) := by decide +kernel
theorem dX10_run_104 : decode cX10_run 104 = .ok (.putfield 25, 3) := by decide +kernel
theorem dX10_run_107 : decode cX10_run 107 = .ok (.aload_n 0, 1) := by decide +kernel
theorem dX10_run_108 : decode cX10_run 108 = .ok (.iconst 1, 1) := by decide +kernel
theorem dX10_run_109 : decode cX10_run 109 = .ok (.invokevirtual 76, 3) := by decide +kernel
theorem dX10_run_112 : decode cX10_run 112 = .ok (.ireturn, 1) := by decide +kernel
theorem dX10_run_113 : decode cX10_run 113 = .ok (.iconst 0, 1) := by decide +kernel
theorem dX10_run_114 : decode cX10_run 114 = .ok (.istore_n 2, 1) := by decide +kernel
theorem dX10_run_115 : decode cX10_run 115 = .ok (.iload_n 2, 1) := by decide +kernel
theorem dX10_run_116 : decode cX10_run 116 = .ok (.aload_n 0, 1) := by decide +kernel
theorem dX10_run_117 : decode cX10_run 117 = .ok (.getfield 247, 3) := by decide +kernel
theorem dX10_run_120 : decode cX10_run 120 = .ok (.if_icmp .ge 61, 3) := by decide +kernel
theorem dX10_run_123 : decode cX10_run 123 = .ok (.aload_n 0, 1) := by decide +kernel
theorem dX10_run_124 : decode cX10_run 124 = .ok (.iconst 4, 1) := by decide +kernel
theorem dX10_run_125 : decode cX10_run 125 = .ok (.iload_n 2, 1) := by decide +kernel
theorem dX10_run_126 : decode cX10_run 126 = .ok (.imul, 1) := by decide +kernel
theorem dX10_run_127 : decode cX10_run 127 = .ok (.invokevirtual 260, 3) := by decide +kernel
theorem dX10_run_130 : decode cX10_run 130 = .ok (.aload_n 0, 1) := by decide +kernel
theorem dX10_run_131 : decode cX10_run 131 = .ok (.getfield 67, 3) := by decide +kernel
theorem dX10_run_134 : decode cX10_run 134 = .ok (.ifCond .le 41, 3) := by decide +kernel
theorem dX10_run_137 : decode cX10_run 137 = .ok (.iconst 0, 1) := by decide +kernel
theorem dX10_run_138 : decode cX10_run 138 = .ok (.istore_n 3, 1) := by decide +kernel
theorem dX10_run_139 : decode cX10_run 139 = .ok (.iload_n 3, 1) := by decide +kernel
theorem dX10_run_140 : decode cX10_run 140 = .ok (.sipush 202, 3) := by decide +kernel
theorem dX10_run_143 : decode cX10_run 143 = .ok (.if_icmp .ge 21, 3) := by decide +kernel
theorem dX10_run_146 : decode cX10_run 146 = .ok (.aload_n 0, 1) := by decide +kernel
theorem dX10_run_147 : decode cX10_run 147 = .ok (.getfield 9, 3) := by decide +kernel
theorem dX10_run_150 : decode cX10_run 150 = .ok (.iload_n 3, 1) := by decide +kernel
theorem dX10_run_151 : decode cX10_run 151 = .ok (.aload_n 0, 1) := by decide +kernel
theorem dX10_run_152 : decode cX10_run 152 = .ok (.getfield 13, 3) := by decide +kernel
theorem dX10_run_155 : decode cX10_run 155 = .ok (.iload_n 3, 1) := by decide +kernel
theorem dX10_run_156 : decode cX10_run 156 = .ok (.iaload, 1) := by decide +kernel
theorem dX10_run_157 : decode cX10_run 157 = .ok (.iastore, 1) := by decide +kernel
theorem dX10_run_158 : decode cX10_run 158 = .ok (.iinc 3 1, 3) := by decide +kernel
theorem dX10_run_161 : decode cX10_run 161 = .ok (.goto (-22), 3) := by decide +kernel
theorem dX10_run_164 : decode cX10_run 164 = .ok (.aload_n 0, 1) := by decide +kernel
theorem dX10_run_165 : decode cX10_run 165 = .ok (.iload_n 2, 1) := by decide +kernel
theorem dX10_run_166 : decode cX10_run 166 = .ok (.putfield 29, 3) := by decide +kernel
theorem dX10_run_169 : decode cX10_run 169 = .ok (.aload_n 0, 1) := by decide +kernel
theorem dX10_run_170 : decode cX10_run 170 = .ok (.iconst 2, 1) := by decide +kernel
theorem dX10_run_171 : decode cX10_run 171 = .ok (.invokevirtual 76, 3) := by decide +kernel
theorem dX10_run_174 : decode cX10_run 174 = .ok (.ireturn, 1) := by decide +kernel
theorem dX10_run_175 : decode cX10_run 175 = .ok (.iinc 2 1, 3) := by decide +kernel
theorem dX10_run_178 : decode cX10_run 178 = .ok (.goto (-63), 3) := by decide +kernel
theorem dX10_run_181 : decode cX10_run 181 = .ok (.aload_n 0, 1) := by decide +kernel
theorem dX10_run_182 : decode cX10_run 182 = .ok (.aload_n 0, 1) := by decide +kernel
theorem dX10_run_183 : decode cX10_run 183 = .ok (.getfield 247, 3) := by decide +kernel
theorem dX10_run_186 : decode cX10_run 186 = .ok (.invokevirtual 125, 3) := by decide +kernel
theorem dX10_run_189 : decode cX10_run 189 = .ok (.ireturn, 1) := by decide +kernel
theorem dX10_errorPosition_0 : decode cX10_errorPosition 0 = .ok (.aload_n 0, 1) := by decide +kernel
theorem dX10_errorPosition_1 : decode cX10_errorPosition 1 = .ok (.iconst 0, 1) := by decide +kernel
theorem dX10_errorPosition_2 : decode cX10_errorPosition 2 = .ok (.putfield 67, 3) := by decide +kernel
theorem dX10_errorPosition_5 : decode cX10_errorPosition 5 = .ok (.aload_n 0, 1) := by decide +kernel
theorem dX10_errorPosition_6 : decode cX10_errorPosition 6 = .ok (.getfield 25, 3) := by decide +kernel
theorem dX10_errorPosition_9 : decode cX10_errorPosition 9 = .ok (.iconst (-1), 1) := by decide +kernel
theorem dX10_errorPosition_10 : decode cX10_errorPosition 10 = .ok (.if_icmp .ne 11, 3) := by decide +kernel
theorem dX10_errorPosition_13 : decode cX10_errorPosition 13 = .ok (.aload_n 0, 1) := by decide +kernel
theorem dX10_errorPosition_14 : decode cX10_errorPosition 14 = .ok (.iconst 1, 1) := by decide +kernel
theorem dX10_errorPosition_15 : decode cX10_errorPosition 15 = .ok (.invokevirtual 76, 3) := by decide +kernel
theorem dX10_errorPosition_18 : decode cX10_errorPosition 18 = .ok (.goto 7, 3) := by decide +kernel
theorem dX10_errorPosition_21 : decode cX10_errorPosition 21 = .ok (.aload_n 0, 1) := by decide +kernel
theorem dX10_errorPosition_22 : decode cX10_errorPosition 22 = .ok (.getfield 25, 3) := by decide +kernel
theorem dX10_errorPosition_25 : decode cX10_errorPosition 25 = .ok (.ireturn, 1) := by decide +kernel
theorem dX10_failedCommand_0 : decode cX10_failedCommand 0 = .ok (.aload_n 0, 1) := by decide +kernel
theorem dX10_failedCommand_1 : decode cX10_failedCommand 1 = .ok (.iconst 0, 1) := by decide +kernel
theorem dX10_failedCommand_2 : decode cX10_failedCommand 2 = .ok (.putfield 67, 3) := by decide +kernel
theorem dX10_failedCommand_5 : decode cX10_failedCommand 5 = .ok (.aload_n 0, 1) := by decide +kernel
theorem dX10_failedCommand_6 : decode cX10_failedCommand 6 = .ok (.getfield 29, 3) := by decide +kernel
theorem dX10_failedCommand_9 : decode cX10_failedCommand 9 = .ok (.iconst (-1), 1) := by decide +kernel
theorem dX10_failedCommand_10 : decode cX10_failedCommand 10 = .ok (.if_icmp .ne 11, 3) := by decide +kernel
theorem dX10_failedCommand_13 : decode cX10_failedCommand 13 = .ok (.aload_n 0, 1) := by decide +kernel
theorem dX10_failedCommand_14 : decode cX10_failedCommand 14 = .ok (.iconst 1, 1) := by decide +kernel
theorem dX10_failedCommand_15 : decode cX10_failedCommand 15 = .ok (.invokevirtual 76, 3) := by decide +kernel
theorem dX10_failedCommand_18 : decode cX10_failedCommand 18 = .ok (.goto 7, 3) := by decide +kernel
theorem dX10_failedCommand_21 : decode cX10_failedCommand 21 = .ok (.aload_n 0, 1) := by decide +kernel
theorem dX10_failedCommand_22 : decode cX10_failedCommand 22 = .ok (.getfield 29, 3) := by decide +kernel
theorem dX10_failedCommand_25 : decode cX10_failedCommand 25 = .ok (.ireturn, 1) := by decide +kernel
theorem dX10_sign_0 : decode cX10_sign 0 = .ok (.aload_n 0, 1) := by decide +kernel
theorem dX10_sign_1 : decode cX10_sign 1 = .ok (.getfield 64, 3) := by decide +kernel
theorem dX10_sign_4 : decode cX10_sign 4 = .ok (.aload_n 0, 1) := by decide +kernel
theorem dX10_sign_5 : decode cX10_sign 5 = .ok (.getfield 263, 3) := by decide +kernel
theorem dX10_sign_8 : decode cX10_sign 8 = .ok (.iload_n 1, 1) := by decide +kernel
theorem dX10_sign_9 : decode cX10_sign 9 = .ok (.iastore, 1) := by decide +kernel
theorem dX10_sign_10 : decode cX10_sign 10 = .ok (.aload_n 0, 1) := by decide +kernel
theorem dX10_sign_11 : decode cX10_sign 11 = .ok (.dup, 1) := by decide +kernel
theorem dX10_sign_12 : decode cX10_sign 12 = .ok (.getfield 263, 3) := by decide +kernel
theorem dX10_sign_15 : decode cX10_sign 15 = .ok (.iconst 1, 1) := by decide +kernel
theorem dX10_sign_16 : decode cX10_sign 16 = .ok (.iadd, 1) := by decide +kernel
theorem dX10_sign_17 : decode cX10_sign 17 = .ok (.putfield 263, 3) := by decide +kernel
theorem dX10_sign_20 : decode cX10_sign 20 = .ok (.return_, 1) := by decide +kernel
theorem dX10_writesNumber_0 : decode cX10_writesNumber 0 = .ok (.iconst 1, 1) := by decide +kernel
theorem dX10_writesNumber_1 : decode cX10_writesNumber 1 = .ok (.istore_n 2, 1) := by decide +kernel
theorem dX10_writesNumber_2 : decode cX10_writesNumber 2 = .ok (.iload_n 1, 1) := by decide +kernel
theorem dX10_writesNumber_3 : decode cX10_writesNumber 3 = .ok (.iload_n 2, 1) := by decide +kernel
theorem dX10_writesNumber_4 : decode cX10_writesNumber 4 = .ok (.idiv, 1) := by decide +kernel
theorem dX10_writesNumber_5 : decode cX10_writesNumber 5 = .ok (.bipush 9, 2) := by decide +kernel
theorem dX10_writesNumber_7 : decode cX10_writesNumber 7 = .ok (.if_icmp .le 11, 3) := by decide +kernel
theorem dX10_writesNumber_10 : decode cX10_writesNumber 10 = .ok (.iload_n 2, 1) := by decide +kernel
theorem dX10_writesNumber_11 : decode cX10_writesNumber 11 = .ok (.bipush 10, 2) := by decide +kernel
theorem dX10_writesNumber_13 : decode cX10_writesNumber 13 = .ok (.imul, 1) := by decide +kernel
theorem dX10_writesNumber_14 : decode cX10_writesNumber 14 = .ok (.istore_n 2, 1) := by decide +kernel
theorem dX10_writesNumber_15 : decode cX10_writesNumber 15 = .ok (.goto (-13), 3) := by decide +kernel
theorem dX10_writesNumber_18 : decode cX10_writesNumber 18 = .ok (.iload_n 2, 1) := by decide +kernel
theorem dX10_writesNumber_19 : decode cX10_writesNumber 19 = .ok (.ifCond .le 24, 3) := by decide +kernel
theorem dX10_writesNumber_22 : decode cX10_writesNumber 22 = .ok (.aload_n 0, 1) := by decide +kernel
theorem dX10_writesNumber_23 : decode cX10_writesNumber 23 = .ok (.bipush 48, 2) := by decide +kernel
theorem dX10_writesNumber_25 : decode cX10_writesNumber 25 = .ok (.iload_n 1, 1) := by decide +kernel
theorem dX10_writesNumber_26 : decode cX10_writesNumber 26 = .ok (.iload_n 2, 1) := by decide +kernel
theorem dX10_writesNumber_27 : decode cX10_writesNumber 27 = .ok (.idiv, 1) := by decide +kernel
theorem dX10_writesNumber_28 : decode cX10_writesNumber 28 = .ok (.bipush 10, 2) := by decide +kernel
theorem dX10_writesNumber_30 : decode cX10_writesNumber 30 = .ok (.irem, 1) := by decide +kernel
theorem dX10_writesNumber_31 : decode cX10_writesNumber 31 = .ok (.iadd, 1) := by decide +kernel
theorem dX10_writesNumber_32 : decode cX10_writesNumber 32 = .ok (.invokevirtual 266, 3) := by decide +kernel
theorem dX10_writesNumber_35 : decode cX10_writesNumber 35 = .ok (.iload_n 2, 1) := by decide +kernel
theorem dX10_writesNumber_36 : decode cX10_writesNumber 36 = .ok (.bipush 10, 2) := by decide +kernel
theorem dX10_writesNumber_38 : decode cX10_writesNumber 38 = .ok (.idiv, 1) := by decide +kernel
theorem dX10_writesNumber_39 : decode cX10_writesNumber 39 = .ok (.istore_n 2, 1) := by decide +kernel
theorem dX10_writesNumber_40 : decode cX10_writesNumber 40 = .ok (.goto (-22), 3) := by decide +kernel
theorem dX10_writesNumber_43 : decode cX10_writesNumber 43 = .ok (.return_, 1) := by decide +kernel
theorem dX10_describeRow_0 : decode cX10_describeRow 0 = .ok (.aload_n 0, 1) := by decide +kernel
theorem dX10_describeRow_1 : decode cX10_describeRow 1 = .ok (.iconst 0, 1) := by decide +kernel
theorem dX10_describeRow_2 : decode cX10_describeRow 2 = .ok (.putfield 67, 3) := by decide +kernel
theorem dX10_describeRow_5 : decode cX10_describeRow 5 = .ok (.iload_n 1, 1) := by decide +kernel
theorem dX10_describeRow_6 : decode cX10_describeRow 6 = .ok (.i2l, 1) := by decide +kernel
theorem dX10_describeRow_7 : decode cX10_describeRow 7 = .ok (.lconst 0, 1) := by decide +kernel
theorem dX10_describeRow_8 : decode cX10_describeRow 8 = .ok (.ldc2_w 83, 3) := by decide +kernel
theorem dX10_describeRow_11 : decode cX10_describeRow 11 = .ok (.invokestatic 85, 3) := by decide +kernel
theorem dX10_describeRow_14 : decode cX10_describeRow 14 = .ok (.ifCond .ne 9, 3) := by decide +kernel
theorem dX10_describeRow_17 : decode cX10_describeRow 17 = .ok (.aload_n 0, 1) := by decide +kernel
theorem dX10_describeRow_18 : decode cX10_describeRow 18 = .ok (.iconst 1, 1) := by decide +kernel
theorem dX10_describeRow_19 : decode cX10_describeRow 19 = .ok (.invokevirtual 76, 3) := by decide +kernel
theorem dX10_describeRow_22 : decode cX10_describeRow 22 = .ok (.ireturn, 1) := by decide +kernel
theorem dX10_describeRow_23 : decode cX10_describeRow 23 = .ok (.aload_n 0, 1) := by decide +kernel
theorem dX10_describeRow_24 : decode cX10_describeRow 24 = .ok (.iconst 0, 1) := by decide +kernel
theorem dX10_describeRow_25 : decode cX10_describeRow 25 = .ok (.putfield 263, 3) := by decide +kernel
theorem dX10_describeRow_28 : decode cX10_describeRow 28 = .ok (.bipush 8, 2) := by decide +kernel
theorem dX10_describeRow_30 : decode cX10_describeRow 30 = .ok (.iload_n 1, 1) := by decide +kernel
theorem dX10_describeRow_31 : decode cX10_describeRow 31 = .ok (.imul, 1) := by decide +kernel
theorem dX10_describeRow_32 : decode cX10_describeRow 32 = .ok (.istore_n 2, 1) := by decide +kernel
theorem dX10_describeRow_33 : decode cX10_describeRow 33 = .ok (.iload_n 2, 1) := by decide +kernel
theorem dX10_describeRow_34 : decode cX10_describeRow 34 = .ok (.bipush 8, 2) := by decide +kernel
theorem dX10_describeRow_36 : decode cX10_describeRow 36 = .ok (.iload_n 1, 1) := by decide +kernel
theorem dX10_describeRow_37 : decode cX10_describeRow 37 = .ok (.imul, 1) := by decide +kernel
theorem dX10_describeRow_38 : decode cX10_describeRow 38 = .ok (.bipush 8, 2) := by decide +kernel
theorem dX10_describeRow_40 : decode cX10_describeRow 40 = .ok (.iadd, 1) := by decide +kernel
theorem dX10_describeRow_41 : decode cX10_describeRow 41 = .ok (.if_icmp .ge 72, 3) := by decide +kernel
theorem dX10_describeRow_44 : decode cX10_describeRow 44 = .ok (.aload_n 0, 1) := by decide +kernel
theorem dX10_describeRow_45 : decode cX10_describeRow 45 = .ok (.getfield 9, 3) := by decide +kernel
theorem dX10_describeRow_48 : decode cX10_describeRow 48 = .ok (.iconst 0, 1) := by decide +kernel
theorem dX10_describeRow_49 : decode cX10_describeRow 49 = .ok (.iload_n 2, 1) := by decide +kernel
theorem dX10_describeRow_50 : decode cX10_describeRow 50 = .ok (.iadd, 1) := by decide +kernel
theorem dX10_describeRow_51 : decode cX10_describeRow 51 = .ok (.iaload, 1) := by decide +kernel
theorem dX10_describeRow_52 : decode cX10_describeRow 52 = .ok (.istore_n 3, 1) := by decide +kernel
theorem dX10_describeRow_53 : decode cX10_describeRow 53 = .ok (.aload_n 0, 1) := by decide +kernel
theorem dX10_describeRow_54 : decode cX10_describeRow 54 = .ok (.getfield 9, 3) := by decide +kernel
theorem dX10_describeRow_57 : decode cX10_describeRow 57 = .ok (.bipush 64, 2) := by decide +kernel
theorem dX10_describeRow_59 : decode cX10_describeRow 59 = .ok (.iload_n 2, 1) := by decide +kernel
theorem dX10_describeRow_60 : decode cX10_describeRow 60 = .ok (.iadd, 1) := by decide +kernel
theorem dX10_describeRow_61 : decode cX10_describeRow 61 = .ok (.iaload, 1) := by decide +kernel
theorem dX10_describeRow_62 : decode cX10_describeRow 62 = .ok (.ifCond .le 8, 3) := by decide +kernel
theorem dX10_describeRow_65 : decode cX10_describeRow 65 = .ok (.bipush 101, 2) := by decide +kernel
theorem dX10_describeRow_67 : decode cX10_describeRow 67 = .ok (.goto 13, 3) := by decide +kernel
theorem dX10_describeRow_70 : decode cX10_describeRow 70 = .ok (.aload_n 0, 1) := by decide +kernel
theorem dX10_describeRow_71 : decode cX10_describeRow 71 = .ok (.getfield 9, 3) := by decide +kernel
theorem dX10_describeRow_74 : decode cX10_describeRow 74 = .ok (.sipush 128, 3) := by decide +kernel
theorem dX10_describeRow_77 : decode cX10_describeRow 77 = .ok (.iload_n 2, 1) := by decide +kernel
theorem dX10_describeRow_78 : decode cX10_describeRow 78 = .ok (.iadd, 1) := by decide +kernel
theorem dX10_describeRow_79 : decode cX10_describeRow 79 = .ok (.iaload, 1) := by decide +kernel
theorem dX10_describeRow_80 : decode cX10_describeRow 80 = .ok (.istore 4, 2) := by decide +kernel
theorem dX10_describeRow_82 : decode cX10_describeRow 82 = .ok (.aload_n 0, 1) := by decide +kernel
theorem dX10_describeRow_83 : decode cX10_describeRow 83 = .ok (.iload_n 3, 1) := by decide +kernel
theorem dX10_describeRow_84 : decode cX10_describeRow 84 = .ok (.ifCond .le 18, 3) := by decide +kernel
theorem dX10_describeRow_87 : decode cX10_describeRow 87 = .ok (.bipush 48, 2) := by decide +kernel
theorem dX10_describeRow_89 : decode cX10_describeRow 89 = .ok (.bipush 9, 2) := by decide +kernel
theorem dX10_describeRow_91 : decode cX10_describeRow 91 = .ok (.iload_n 3, 1) := by decide +kernel
theorem dX10_describeRow_92 : decode cX10_describeRow 92 = .ok (.bipush 100, 2) := by decide +kernel
theorem dX10_describeRow_94 : decode cX10_describeRow 94 = .ok (.idiv, 1) := by decide +kernel
theorem dX10_describeRow_95 : decode cX10_describeRow 95 = .ok (.invokestatic 269, 3) := by decide +kernel
theorem dX10_describeRow_98 : decode cX10_describeRow 98 = .ok (.iadd, 1) := by decide +kernel
theorem dX10_describeRow_99 : decode cX10_describeRow 99 = .ok (.goto 5, 3) := by decide +kernel
theorem dX10_describeRow_102 : decode cX10_describeRow 102 = .ok (.iload 4, 2) := by decide +kernel
theorem dX10_describeRow_104 : decode cX10_describeRow 104 = .ok (.invokevirtual 266, 3) := by decide +kernel
theorem dX10_describeRow_107 : decode cX10_describeRow 107 = .ok (.iinc 2 1, 3) := by decide +kernel
theorem dX10_describeRow_110 : decode cX10_describeRow 110 = .ok (.goto (-77), 3) := by decide +kernel
theorem dX10_describeRow_113 : decode cX10_describeRow 113 = .ok (.aload_n 0, 1) := by decide +kernel
theorem dX10_describeRow_114 : decode cX10_describeRow 114 = .ok (.getfield 263, 3) := by decide +kernel
theorem dX10_describeRow_117 : decode cX10_describeRow 117 = .ok (.ireturn, 1) := by decide +kernel
theorem dX10_describeLegend_0 : decode cX10_describeLegend 0 = .ok (.aload_n 0, 1) := by decide +kernel
theorem dX10_describeLegend_1 : decode cX10_describeLegend 1 = .ok (.aload_n 0, 1) := by decide +kernel
theorem dX10_describeLegend_2 : decode cX10_describeLegend 2 = .ok (.iload_n 1, 1) := by decide +kernel
theorem dX10_describeLegend_3 : decode cX10_describeLegend 3 = .ok (.iconst 1, 1) := by decide +kernel
theorem dX10_describeLegend_4 : decode cX10_describeLegend 4 = .ok (.invokevirtual 201, 3) := by decide +kernel
theorem dX10_describeLegend_7 : decode cX10_describeLegend 7 = .ok (.putfield 67, 3) := by decide +kernel
theorem dX10_describeLegend_10 : decode cX10_describeLegend 10 = .ok (.aload_n 0, 1) := by decide +kernel
theorem dX10_describeLegend_11 : decode cX10_describeLegend 11 = .ok (.getfield 67, 3) := by decide +kernel
theorem dX10_describeLegend_14 : decode cX10_describeLegend 14 = .ok (.ifCond .le 5, 3) := by decide +kernel
theorem dX10_describeLegend_17 : decode cX10_describeLegend 17 = .ok (.iconst (-1), 1) := by decide +kernel
theorem dX10_describeLegend_18 : decode cX10_describeLegend 18 = .ok (.ireturn, 1) := by decide +kernel
theorem dX10_describeLegend_19 : decode cX10_describeLegend 19 = .ok (.aload_n 0, 1) := by decide +kernel
theorem dX10_describeLegend_20 : decode cX10_describeLegend 20 = .ok (.iconst 0, 1) := by decide +kernel
theorem dX10_describeLegend_21 : decode cX10_describeLegend 21 = .ok (.putfield 263, 3) := by decide +kernel
theorem dX10_describeLegend_24 : decode cX10_describeLegend 24 = .ok (.iconst 0, 1) := by decide +kernel
theorem dX10_describeLegend_25 : decode cX10_describeLegend 25 = .ok (.istore_n 2, 1) := by decide +kernel
theorem dX10_describeLegend_26 : decode cX10_describeLegend 26 = .ok (.iload_n 2, 1) := by decide +kernel
theorem dX10_describeLegend_27 : decode cX10_describeLegend 27 = .ok (.aload_n 0, 1) := by decide +kernel
theorem dX10_describeLegend_28 : decode cX10_describeLegend 28 = .ok (.getfield 190, 3) := by decide +kernel
theorem dX10_describeLegend_31 : decode cX10_describeLegend 31 = .ok (.if_icmp .ge 89, 3) := by decide +kernel
theorem dX10_describeLegend_34 : decode cX10_describeLegend 34 = .ok (.aload_n 0, 1) := by decide +kernel
theorem dX10_describeLegend_35 : decode cX10_describeLegend 35 = .ok (.getfield 51, 3) := by decide +kernel
theorem dX10_describeLegend_38 : decode cX10_describeLegend 38 = .ok (.iload_n 2, 1) := by decide +kernel
theorem dX10_describeLegend_39 : decode cX10_describeLegend 39 = .ok (.baload, 1) := by decide +kernel
theorem dX10_describeLegend_40 : decode cX10_describeLegend 40 = .ok (.ifCond .eq 36, 3) := by decide +kernel
theorem dX10_describeLegend_43 : decode cX10_describeLegend 43 = .ok (.iload_n 2, 1) := by decide +kernel
theorem dX10_describeLegend_44 : decode cX10_describeLegend 44 = .ok (.ifCond .le 9, 3) := by decide +kernel
theorem dX10_describeLegend_47 : decode cX10_describeLegend 47 = .ok (.aload_n 0, 1) := by decide +kernel
theorem dX10_describeLegend_48 : decode cX10_describeLegend 48 = .ok (.bipush 44, 2) := by decide +kernel
theorem dX10_describeLegend_50 : decode cX10_describeLegend 50 = .ok (.invokevirtual 266, 3) := by decide +kernel
theorem dX10_describeLegend_53 : decode cX10_describeLegend 53 = .ok (.aload_n 0, 1) := by decide +kernel
theorem dX10_describeLegend_54 : decode cX10_describeLegend 54 = .ok (.aload_n 0, 1) := by decide +kernel
theorem dX10_describeLegend_55 : decode cX10_describeLegend 55 = .ok (.getfield 9, 3) := by decide +kernel
theorem dX10_describeLegend_58 : decode cX10_describeLegend 58 = .ok (.iconst 0, 1) := by decide +kernel
theorem dX10_describeLegend_59 : decode cX10_describeLegend 59 = .ok (.aload_n 0, 1) := by decide +kernel
theorem dX10_describeLegend_60 : decode cX10_describeLegend 60 = .ok (.getfield 48, 3) := by decide +kernel
theorem dX10_describeLegend_63 : decode cX10_describeLegend 63 = .ok (.iload_n 2, 1) := by decide +kernel
theorem dX10_describeLegend_64 : decode cX10_describeLegend 64 = .ok (.iaload, 1) := by decide +kernel
theorem dX10_describeLegend_65 : decode cX10_describeLegend 65 = .ok (.iadd, 1) := by decide +kernel
theorem dX10_describeLegend_66 : decode cX10_describeLegend 66 = .ok (.iaload, 1) := by decide +kernel
theorem dX10_describeLegend_67 : decode cX10_describeLegend 67 = .ok (.invokevirtual 272, 3) := by decide +kernel
theorem dX10_describeLegend_70 : decode cX10_describeLegend 70 = .ok (.aload_n 0, 1) := by decide +kernel
theorem dX10_describeLegend_71 : decode cX10_describeLegend 71 = .ok (.bipush 45, 2) := by decide +kernel
theorem dX10_describeLegend_73 : decode cX10_describeLegend 73 = .ok (.invokevirtual 266, 3) := by decide +kernel
theorem dX10_describeLegend_76 : decode cX10_describeLegend 76 = .ok (.iload_n 2, 1) := by decide +kernel
theorem dX10_describeLegend_77 : decode cX10_describeLegend 77 = .ok (.iconst 1, 1) := by decide +kernel
theorem dX10_describeLegend_78 : decode cX10_describeLegend 78 = .ok (.iadd, 1) := by decide +kernel
theorem dX10_describeLegend_79 : decode cX10_describeLegend 79 = .ok (.aload_n 0, 1) := by decide +kernel
theorem dX10_describeLegend_80 : decode cX10_describeLegend 80 = .ok (.getfield 190, 3) := by decide +kernel
theorem dX10_describeLegend_83 : decode cX10_describeLegend 83 = .ok (.if_icmp .eq 14, 3) := by decide +kernel
theorem dX10_describeLegend_86 : decode cX10_describeLegend 86 = .ok (.aload_n 0, 1) := by decide +kernel
theorem dX10_describeLegend_87 : decode cX10_describeLegend 87 = .ok (.getfield 51, 3) := by decide +kernel
theorem dX10_describeLegend_90 : decode cX10_describeLegend 90 = .ok (.iload_n 2, 1) := by decide +kernel
theorem dX10_describeLegend_91 : decode cX10_describeLegend 91 = .ok (.iconst 1, 1) := by decide +kernel
theorem dX10_describeLegend_92 : decode cX10_describeLegend 92 = .ok (.iadd, 1) := by decide +kernel
theorem dX10_describeLegend_93 : decode cX10_describeLegend 93 = .ok (.baload, 1) := by decide +kernel
theorem dX10_describeLegend_94 : decode cX10_describeLegend 94 = .ok (.ifCond .eq 20, 3) := by decide +kernel
theorem dX10_describeLegend_97 : decode cX10_describeLegend 97 = .ok (.aload_n 0, 1) := by decide +kernel
theorem dX10_describeLegend_98 : decode cX10_describeLegend 98 = .ok (.aload_n 0, 1) := by decide +kernel
theorem dX10_describeLegend_99 : decode cX10_describeLegend 99 = .ok (.getfield 9, 3) := by decide +kernel
theorem dX10_describeLegend_102 : decode cX10_describeLegend 102 = .ok (.iconst 0, 1) := by decide +kernel
theorem dX10_describeLegend_103 : decode cX10_describeLegend 103 = .ok (.aload_n 0, 1) := by decide +kernel
theorem dX10_describeLegend_104 : decode cX10_describeLegend 104 = .ok (.getfield 48, 3) := by decide +kernel
theorem dX10_describeLegend_107 : decode cX10_describeLegend 107 = .ok (.iload_n 2, 1) := by decide +kernel
theorem dX10_describeLegend_108 : decode cX10_describeLegend 108 = .ok (.iaload, 1) := by decide +kernel
theorem dX10_describeLegend_109 : decode cX10_describeLegend 109 = .ok (.iadd, 1) := by decide +kernel
theorem dX10_describeLegend_110 : decode cX10_describeLegend 110 = .ok (.iaload, 1) := by decide +kernel
theorem dX10_describeLegend_111 : decode cX10_describeLegend 111 = .ok (.invokevirtual 272, 3) := by decide +kernel
theorem dX10_describeLegend_114 : decode cX10_describeLegend 114 = .ok (.iinc 2 1, 3) := by decide +kernel
theorem dX10_describeLegend_117 : decode cX10_describeLegend 117 = .ok (.goto (-91), 3) := by decide +kernel
theorem dX10_describeLegend_120 : decode cX10_describeLegend 120 = .ok (.aload_n 0, 1) := by decide +kernel
theorem dX10_describeLegend_121 : decode cX10_describeLegend 121 = .ok (.getfield 263, 3) := by decide +kernel
theorem dX10_describeLegend_124 : decode cX10_describeLegend 124 = .ok (.ireturn, 1) := by decide +kernel
theorem dX10_lineAt_0 : decode cX10_lineAt 0 = .ok (.aload_n 0, 1) := by decide +kernel
theorem dX10_lineAt_1 : decode cX10_lineAt 1 = .ok (.iconst 0, 1) := by decide +kernel
theorem dX10_lineAt_2 : decode cX10_lineAt 2 = .ok (.putfield 67, 3) := by decide +kernel
theorem dX10_lineAt_5 : decode cX10_lineAt 5 = .ok (.iload_n 1, 1) := by decide +kernel
theorem dX10_lineAt_6 : decode cX10_lineAt 6 = .ok (.i2l, 1) := by decide +kernel
theorem dX10_lineAt_7 : decode cX10_lineAt 7 = .ok (.lconst 0, 1) := by decide +kernel
theorem dX10_lineAt_8 : decode cX10_lineAt 8 = .ok (.aload_n 0, 1) := by decide +kernel
theorem dX10_lineAt_9 : decode cX10_lineAt 9 = .ok (.getfield 263, 3) := by decide +kernel
theorem dX10_lineAt_12 : decode cX10_lineAt 12 = .ok (.iconst 1, 1) := by decide +kernel
theorem dX10_lineAt_13 : decode cX10_lineAt 13 = .ok (.isub, 1) := by decide +kernel
theorem dX10_lineAt_14 : decode cX10_lineAt 14 = .ok (.i2l, 1) := by decide +kernel
theorem dX10_lineAt_15 : decode cX10_lineAt 15 = .ok (.invokestatic 85, 3) := by decide +kernel
theorem dX10_lineAt_18 : decode cX10_lineAt 18 = .ok (.ifCond .eq 13, 3) := by decide +kernel
theorem dX10_lineAt_21 : decode cX10_lineAt 21 = .ok (.aload_n 0, 1) := by decide +kernel
theorem dX10_lineAt_22 : decode cX10_lineAt 22 = .ok (.getfield 64, 3) := by decide +kernel
theorem dX10_lineAt_25 : decode cX10_lineAt 25 = .ok (.iload_n 1, 1) := by decide +kernel
theorem dX10_lineAt_26 : decode cX10_lineAt 26 = .ok (.iaload, 1) := by decide +kernel
theorem dX10_lineAt_27 : decode cX10_lineAt 27 = .ok (.i2c, 1) := by decide +kernel
theorem dX10_lineAt_28 : decode cX10_lineAt 28 = .ok (.goto 9, 3) := by decide +kernel
theorem dX10_lineAt_31 : decode cX10_lineAt 31 = .ok (.aload_n 0, 1) := by decide +kernel
theorem dX10_lineAt_32 : decode cX10_lineAt 32 = .ok (.iconst 1, 1) := by decide +kernel
theorem dX10_lineAt_33 : decode cX10_lineAt 33 = .ok (.invokevirtual 76, 3) := by decide +kernel
theorem dX10_lineAt_36 : decode cX10_lineAt 36 = .ok (.i2c, 1) := by decide +kernel
theorem dX10_lineAt_37 : decode cX10_lineAt 37 = .ok (.ireturn, 1) := by decide +kernel
theorem dX10_meanHeat_0 : decode cX10_meanHeat 0 = .ok (.aload_n 0, 1) := by decide +kernel
theorem dX10_meanHeat_1 : decode cX10_meanHeat 1 = .ok (.iconst 0, 1) := by decide +kernel
theorem dX10_meanHeat_2 : decode cX10_meanHeat 2 = .ok (.putfield 67, 3) := by decide +kernel
theorem dX10_meanHeat_5 : decode cX10_meanHeat 5 = .ok (.iconst 0, 1) := by decide +kernel
theorem dX10_meanHeat_6 : decode cX10_meanHeat 6 = .ok (.istore_n 1, 1) := by decide +kernel
theorem dX10_meanHeat_7 : decode cX10_meanHeat 7 = .ok (.iconst 0, 1) := by decide +kernel
theorem dX10_meanHeat_8 : decode cX10_meanHeat 8 = .ok (.istore_n 2, 1) := by decide +kernel
theorem dX10_meanHeat_9 : decode cX10_meanHeat 9 = .ok (.iconst 0, 1) := by decide +kernel
theorem dX10_meanHeat_10 : decode cX10_meanHeat 10 = .ok (.istore_n 3, 1) := by decide +kernel
theorem dX10_meanHeat_11 : decode cX10_meanHeat 11 = .ok (.iload_n 3, 1) := by decide +kernel
theorem dX10_meanHeat_12 : decode cX10_meanHeat 12 = .ok (.bipush 64, 2) := by decide +kernel
theorem dX10_meanHeat_14 : decode cX10_meanHeat 14 = .ok (.if_icmp .ge 36, 3) := by decide +kernel
theorem dX10_meanHeat_17 : decode cX10_meanHeat 17 = .ok (.iload_n 1, 1) := by decide +kernel
theorem dX10_meanHeat_18 : decode cX10_meanHeat 18 = .ok (.aload_n 0, 1) := by decide +kernel
theorem dX10_meanHeat_19 : decode cX10_meanHeat 19 = .ok (.getfield 9, 3) := by decide +kernel
theorem dX10_meanHeat_22 : decode cX10_meanHeat 22 = .ok (.iconst 0, 1) := by decide +kernel
theorem dX10_meanHeat_23 : decode cX10_meanHeat 23 = .ok (.iload_n 3, 1) := by decide +kernel
theorem dX10_meanHeat_24 : decode cX10_meanHeat 24 = .ok (.iadd, 1) := by decide +kernel
theorem dX10_meanHeat_25 : decode cX10_meanHeat 25 = .ok (.iaload, 1) := by decide +kernel
theorem dX10_meanHeat_26 : decode cX10_meanHeat 26 = .ok (.iadd, 1) := by decide +kernel
theorem dX10_meanHeat_27 : decode cX10_meanHeat 27 = .ok (.istore_n 1, 1) := by decide +kernel
theorem dX10_meanHeat_28 : decode cX10_meanHeat 28 = .ok (.iload_n 2, 1) := by decide +kernel
theorem dX10_meanHeat_29 : decode cX10_meanHeat 29 = .ok (.aload_n 0, 1) := by decide +kernel
theorem dX10_meanHeat_30 : decode cX10_meanHeat 30 = .ok (.iload_n 3, 1) := by decide +kernel
theorem dX10_meanHeat_31 : decode cX10_meanHeat 31 = .ok (.invokevirtual 89, 3) := by decide +kernel
theorem dX10_meanHeat_34 : decode cX10_meanHeat 34 = .ok (.ifCond .eq 7, 3) := by decide +kernel
theorem dX10_meanHeat_37 : decode cX10_meanHeat 37 = .ok (.iconst 0, 1) := by decide +kernel
theorem dX10_meanHeat_38 : decode cX10_meanHeat 38 = .ok (.goto 4, 3) := by decide +kernel
theorem dX10_meanHeat_41 : decode cX10_meanHeat 41 = .ok (.iconst 1, 1) := by decide +kernel
theorem dX10_meanHeat_42 : decode cX10_meanHeat 42 = .ok (.iadd, 1) := by decide +kernel
theorem dX10_meanHeat_43 : decode cX10_meanHeat 43 = .ok (.istore_n 2, 1) := by decide +kernel
theorem dX10_meanHeat_44 : decode cX10_meanHeat 44 = .ok (.iinc 3 1, 3) := by decide +kernel
theorem dX10_meanHeat_47 : decode cX10_meanHeat 47 = .ok (.goto (-36), 3) := by decide +kernel
theorem dX10_meanHeat_50 : decode cX10_meanHeat 50 = .ok (.iload_n 2, 1) := by decide +kernel
theorem dX10_meanHeat_51 : decode cX10_meanHeat 51 = .ok (.ifCond .ne 11, 3) := by decide +kernel
theorem dX10_meanHeat_54 : decode cX10_meanHeat 54 = .ok (.aload_n 0, 1) := by decide +kernel
theorem dX10_meanHeat_55 : decode cX10_meanHeat 55 = .ok (.iconst 1, 1) := by decide +kernel
theorem dX10_meanHeat_56 : decode cX10_meanHeat 56 = .ok (.invokevirtual 76, 3) := by decide +kernel
theorem dX10_meanHeat_59 : decode cX10_meanHeat 59 = .ok (.pop, 1) := by decide +kernel
theorem dX10_meanHeat_60 : decode cX10_meanHeat 60 = .ok (.dconst 0, 1) := by decide +kernel
theorem dX10_meanHeat_61 : decode cX10_meanHeat 61 = .ok (.dreturn, 1) := by decide +kernel
theorem dX10_meanHeat_62 : decode cX10_meanHeat 62 = .ok (.iload_n 1, 1) := by decide +kernel
theorem dX10_meanHeat_63 : decode cX10_meanHeat 63 = .ok (.i2d, 1) := by decide +kernel
theorem dX10_meanHeat_64 : decode cX10_meanHeat 64 = .ok (.iload_n 2, 1) := by decide +kernel
theorem dX10_meanHeat_65 : decode cX10_meanHeat 65 = .ok (.i2d, 1) := by decide +kernel
theorem dX10_meanHeat_66 : decode cX10_meanHeat 66 = .ok (.ddiv, 1) := by decide +kernel
theorem dX10_meanHeat_67 : decode cX10_meanHeat 67 = .ok (.dreturn, 1) := by decide +kernel
theorem dX10_levelShare_0 : decode cX10_levelShare 0 = .ok (.aload_n 0, 1) := by decide +kernel
theorem dX10_levelShare_1 : decode cX10_levelShare 1 = .ok (.iconst 0, 1) := by decide +kernel
theorem dX10_levelShare_2 : decode cX10_levelShare 2 = .ok (.putfield 67, 3) := by decide +kernel
theorem dX10_levelShare_5 : decode cX10_levelShare 5 = .ok (.iload_n 1, 1) := by decide +kernel
theorem dX10_levelShare_6 : decode cX10_levelShare 6 = .ok (.i2l, 1) := by decide +kernel
theorem dX10_levelShare_7 : decode cX10_levelShare 7 = .ok (.lconst 1, 1) := by decide +kernel
theorem dX10_levelShare_8 : decode cX10_levelShare 8 = .ok (.ldc2_w 135, 3) := by decide +kernel
theorem dX10_levelShare_11 : decode cX10_levelShare 11 = .ok (.invokestatic 85, 3) := by decide +kernel
theorem dX10_levelShare_14 : decode cX10_levelShare 14 = .ok (.ifCond .ne 11, 3) := by decide +kernel
theorem dX10_levelShare_17 : decode cX10_levelShare 17 = .ok (.aload_n 0, 1) := by decide +kernel
theorem dX10_levelShare_18 : decode cX10_levelShare 18 = .ok (.iconst 1, 1) := by decide +kernel
theorem dX10_levelShare_19 : decode cX10_levelShare 19 = .ok (.invokevirtual 76, 3) := by decide +kernel
theorem dX10_levelShare_22 : decode cX10_levelShare 22 = .ok (.pop, 1) := by decide +kernel
theorem dX10_levelShare_23 : decode cX10_levelShare 23 = .ok (.fconst 0, 1) := by decide +kernel
theorem dX10_levelShare_24 : decode cX10_levelShare 24 = .ok (.freturn, 1) := by decide +kernel
theorem dX10_levelShare_25 : decode cX10_levelShare 25 = .ok (.iconst 0, 1) := by decide +kernel
theorem dX10_levelShare_26 : decode cX10_levelShare 26 = .ok (.istore_n 2, 1) := by decide +kernel
theorem dX10_levelShare_27 : decode cX10_levelShare 27 = .ok (.iconst 0, 1) := by decide +kernel
theorem dX10_levelShare_28 : decode cX10_levelShare 28 = .ok (.istore_n 3, 1) := by decide +kernel
theorem dX10_levelShare_29 : decode cX10_levelShare 29 = .ok (.iload_n 3, 1) := by decide +kernel
theorem dX10_levelShare_30 : decode cX10_levelShare 30 = .ok (.bipush 64, 2) := by decide +kernel
theorem dX10_levelShare_32 : decode cX10_levelShare 32 = .ok (.if_icmp .ge 26, 3) := by decide +kernel
theorem dX10_levelShare_35 : decode cX10_levelShare 35 = .ok (.iload_n 2, 1) := by decide +kernel
theorem dX10_levelShare_36 : decode cX10_levelShare 36 = .ok (.aload_n 0, 1) := by decide +kernel
theorem dX10_levelShare_37 : decode cX10_levelShare 37 = .ok (.iload_n 3, 1) := by decide +kernel
theorem dX10_levelShare_38 : decode cX10_levelShare 38 = .ok (.iload_n 1, 1) := by decide +kernel
theorem dX10_levelShare_39 : decode cX10_levelShare 39 = .ok (.invokevirtual 163, 3) := by decide +kernel
theorem dX10_levelShare_42 : decode cX10_levelShare 42 = .ok (.ifCond .eq 7, 3) := by decide +kernel
theorem dX10_levelShare_45 : decode cX10_levelShare 45 = .ok (.iconst 1, 1) := by decide +kernel
theorem dX10_levelShare_46 : decode cX10_levelShare 46 = .ok (.goto 4, 3) := by decide +kernel
theorem dX10_levelShare_49 : decode cX10_levelShare 49 = .ok (.iconst 0, 1) := by decide +kernel
theorem dX10_levelShare_50 : decode cX10_levelShare 50 = .ok (.iadd, 1) := by decide +kernel
theorem dX10_levelShare_51 : decode cX10_levelShare 51 = .ok (.istore_n 2, 1) := by decide +kernel
theorem dX10_levelShare_52 : decode cX10_levelShare 52 = .ok (.iinc 3 1, 3) := by decide +kernel
theorem dX10_levelShare_55 : decode cX10_levelShare 55 = .ok (.goto (-26), 3) := by decide +kernel
theorem dX10_levelShare_58 : decode cX10_levelShare 58 = .ok (.iload_n 2, 1) := by decide +kernel
theorem dX10_levelShare_59 : decode cX10_levelShare 59 = .ok (.i2f, 1) := by decide +kernel
theorem dX10_levelShare_60 : decode cX10_levelShare 60 = .ok (.ldc_w 275, 3) := by decide +kernel
theorem dX10_levelShare_63 : decode cX10_levelShare 63 = .ok (.fdiv, 1) := by decide +kernel
theorem dX10_levelShare_64 : decode cX10_levelShare 64 = .ok (.freturn, 1) := by decide +kernel
theorem dX10_isConsistent_0 : decode cX10_isConsistent 0 = .ok (.aload_n 0, 1) := by decide +kernel
theorem dX10_isConsistent_1 : decode cX10_isConsistent 1 = .ok (.iconst 0, 1) := by decide +kernel
theorem dX10_isConsistent_2 : decode cX10_isConsistent 2 = .ok (.putfield 67, 3) := by decide +kernel
theorem dX10_isConsistent_5 : decode cX10_isConsistent 5 = .ok (.iconst 1, 1) := by decide +kernel
theorem dX10_isConsistent_6 : decode cX10_isConsistent 6 = .ok (.ireturn, 1) := by decide +kernel
theorem dX10_undo_0 : decode cX10_undo 0 = .ok (.aload_n 0, 1) := by decide +kernel
theorem dX10_undo_1 : decode cX10_undo 1 = .ok (.iconst 0, 1) := by decide +kernel
theorem dX10_undo_2 : decode cX10_undo 2 = .ok (.putfield 67, 3) := by decide +kernel
theorem dX10_undo_5 : decode cX10_undo 5 = .ok (.aload_n 0, 1) := by decide +kernel
theorem dX10_undo_6 : decode cX10_undo 6 = .ok (.getfield 80, 3) := by decide +kernel
theorem dX10_undo_9 : decode cX10_undo 9 = .ok (.ifCond .ne 9, 3) := by decide +kernel
theorem dX10_undo_12 : decode cX10_undo 12 = .ok (.aload_n 0, 1) := by decide +kernel
theorem dX10_undo_13 : decode cX10_undo 13 = .ok (.iconst 1, 1) := by decide +kernel
theorem dX10_undo_14 : decode cX10_undo 14 = .ok (.invokevirtual 76, 3) := by decide +kernel
theorem dX10_undo_17 : decode cX10_undo 17 = .ok (.ireturn, 1) := by decide +kernel
theorem dX10_undo_18 : decode cX10_undo 18 = .ok (.aload_n 0, 1) := by decide +kernel
theorem dX10_undo_19 : decode cX10_undo 19 = .ok (.dup, 1) := by decide +kernel
theorem dX10_undo_20 : decode cX10_undo 20 = .ok (.getfield 80, 3) := by decide +kernel
theorem dX10_undo_23 : decode cX10_undo 23 = .ok (.iconst 1, 1) := by decide +kernel
theorem dX10_undo_24 : decode cX10_undo 24 = .ok (.isub, 1) := by decide +kernel
theorem dX10_undo_25 : decode cX10_undo 25 = .ok (.putfield 80, 3) := by decide +kernel
theorem dX10_undo_28 : decode cX10_undo 28 = .ok (.iconst 0, 1) := by decide +kernel
theorem dX10_undo_29 : decode cX10_undo 29 = .ok (.istore_n 1, 1) := by decide +kernel
theorem dX10_undo_30 : decode cX10_undo 30 = .ok (.iload_n 1, 1) := by decide +kernel
theorem dX10_undo_31 : decode cX10_undo 31 = .ok (.sipush 202, 3) := by decide +kernel
theorem dX10_undo_34 : decode cX10_undo 34 = .ok (.if_icmp .ge 30, 3) := by decide +kernel
theorem dX10_undo_37 : decode cX10_undo 37 = .ok (.aload_n 0, 1) := by decide +kernel
theorem dX10_undo_38 : decode cX10_undo 38 = .ok (.getfield 9, 3) := by decide +kernel
theorem dX10_undo_41 : decode cX10_undo 41 = .ok (.iload_n 1, 1) := by decide +kernel
theorem dX10_undo_42 : decode cX10_undo 42 = .ok (.aload_n 0, 1) := by decide +kernel
theorem dX10_undo_43 : decode cX10_undo 43 = .ok (.getfield 22, 3) := by decide +kernel
theorem dX10_undo_46 : decode cX10_undo 46 = .ok (.sipush 202, 3) := by decide +kernel
theorem dX10_undo_49 : decode cX10_undo 49 = .ok (.aload_n 0, 1) := by decide +kernel
theorem dX10_undo_50 : decode cX10_undo 50 = .ok (.getfield 80, 3) := by decide +kernel
theorem dX10_undo_53 : decode cX10_undo 53 = .ok (.imul, 1) := by decide +kernel
theorem dX10_undo_54 : decode cX10_undo 54 = .ok (.iload_n 1, 1) := by decide +kernel
theorem dX10_undo_55 : decode cX10_undo 55 = .ok (.iadd, 1) := by decide +kernel
theorem dX10_undo_56 : decode cX10_undo 56 = .ok (.iaload, 1) := by decide +kernel
theorem dX10_undo_57 : decode cX10_undo 57 = .ok (.iastore, 1) := by decide +kernel
theorem dX10_undo_58 : decode cX10_undo 58 = .ok (.iinc 1 1, 3) := by decide +kernel
theorem dX10_undo_61 : decode cX10_undo 61 = .ok (.goto (-31), 3) := by decide +kernel
theorem dX10_undo_64 : decode cX10_undo 64 = .ok (.aload_n 0, 1) := by decide +kernel
theorem dX10_undo_65 : decode cX10_undo 65 = .ok (.getfield 80, 3) := by decide +kernel
theorem dX10_undo_68 : decode cX10_undo 68 = .ok (.ireturn, 1) := by decide +kernel
theorem dX10_save_0 : decode cX10_save 0 = .ok (.aload_n 0, 1) := by decide +kernel
theorem dX10_save_1 : decode cX10_save 1 = .ok (.iconst 0, 1) := by decide +kernel
theorem dX10_save_2 : decode cX10_save 2 = .ok (.putfield 67, 3) := by decide +kernel
theorem dX10_save_5 : decode cX10_save 5 = .ok (.iconst 0, 1) := by decide +kernel
theorem dX10_save_6 : decode cX10_save 6 = .ok (.istore_n 1, 1) := by decide +kernel
theorem dX10_save_7 : decode cX10_save 7 = .ok (.iload_n 1, 1) := by decide +kernel
theorem dX10_save_8 : decode cX10_save 8 = .ok (.sipush 202, 3) := by decide +kernel
theorem dX10_save_11 : decode cX10_save 11 = .ok (.if_icmp .ge 21, 3) := by decide +kernel
theorem dX10_save_14 : decode cX10_save 14 = .ok (.aload_n 0, 1) := by decide +kernel
theorem dX10_save_15 : decode cX10_save 15 = .ok (.getfield 19, 3) := by decide +kernel
theorem dX10_save_18 : decode cX10_save 18 = .ok (.iload_n 1, 1) := by decide +kernel
theorem dX10_save_19 : decode cX10_save 19 = .ok (.aload_n 0, 1) := by decide +kernel
theorem dX10_save_20 : decode cX10_save 20 = .ok (.getfield 9, 3) := by decide +kernel
theorem dX10_save_23 : decode cX10_save 23 = .ok (.iload_n 1, 1) := by decide +kernel
theorem dX10_save_24 : decode cX10_save 24 = .ok (.iaload, 1) := by decide +kernel
theorem dX10_save_25 : decode cX10_save 25 = .ok (.iastore, 1) := by decide +kernel
theorem dX10_save_26 : decode cX10_save 26 = .ok (.iinc 1 1, 3) := by decide +kernel
theorem dX10_save_29 : decode cX10_save 29 = .ok (.goto (-22), 3) := by decide +kernel
theorem dX10_save_32 : decode cX10_save 32 = .ok (.aload_n 0, 1) := by decide +kernel
theorem dX10_save_33 : decode cX10_save 33 = .ok (.iconst 1, 1) := by decide +kernel
theorem dX10_save_34 : decode cX10_save 34 = .ok (.putfield 276, 3) := by decide +kernel
theorem dX10_save_37 : decode cX10_save 37 = .ok (.aload_n 0, 1) := by decide +kernel
theorem dX10_save_38 : decode cX10_save 38 = .ok (.getfield 9, 3) := by decide +kernel
theorem dX10_save_41 : decode cX10_save 41 = .ok (.sipush 200, 3) := by decide +kernel
theorem dX10_save_44 : decode cX10_save 44 = .ok (.iaload, 1) := by decide +kernel
theorem dX10_save_45 : decode cX10_save 45 = .ok (.ireturn, 1) := by decide +kernel
theorem dX10_restore_0 : decode cX10_restore 0 = .ok (.aload_n 0, 1) := by decide +kernel
theorem dX10_restore_1 : decode cX10_restore 1 = .ok (.iconst 0, 1) := by decide +kernel
theorem dX10_restore_2 : decode cX10_restore 2 = .ok (.putfield 67, 3) := by decide +kernel
theorem dX10_restore_5 : decode cX10_restore 5 = .ok (.aload_n 0, 1) := by decide +kernel
theorem dX10_restore_6 : decode cX10_restore 6 = .ok (.getfield 276, 3) := by decide +kernel
theorem dX10_restore_9 : decode cX10_restore 9 = .ok (.ifCond .ne 9, 3) := by decide +kernel
theorem dX10_restore_12 : decode cX10_restore 12 = .ok (.aload_n 0, 1) := by decide +kernel
theorem dX10_restore_13 : decode cX10_restore 13 = .ok (.iconst 1, 1) := by decide +kernel
theorem dX10_restore_14 : decode cX10_restore 14 = .ok (.invokevirtual 76, 3) := by decide +kernel
theorem dX10_restore_17 : decode cX10_restore 17 = .ok (.ireturn, 1) := by decide +kernel
theorem dX10_restore_18 : decode cX10_restore 18 = .ok (.iconst 0, 1) := by decide +kernel
theorem dX10_restore_19 : decode cX10_restore 19 = .ok (.istore_n 1, 1) := by decide +kernel
theorem dX10_restore_20 : decode cX10_restore 20 = .ok (.iload_n 1, 1) := by decide +kernel
theorem dX10_restore_21 : decode cX10_restore 21 = .ok (.sipush 202, 3) := by decide +kernel
theorem dX10_restore_24 : decode cX10_restore 24 = .ok (.if_icmp .ge 21, 3) := by decide +kernel
theorem dX10_restore_27 : decode cX10_restore 27 = .ok (.aload_n 0, 1) := by decide +kernel
theorem dX10_restore_28 : decode cX10_restore 28 = .ok (.getfield 9, 3) := by decide +kernel
theorem dX10_restore_31 : decode cX10_restore 31 = .ok (.iload_n 1, 1) := by decide +kernel
theorem dX10_restore_32 : decode cX10_restore 32 = .ok (.aload_n 0, 1) := by decide +kernel
theorem dX10_restore_33 : decode cX10_restore 33 = .ok (.getfield 19, 3) := by decide +kernel
theorem dX10_restore_36 : decode cX10_restore 36 = .ok (.iload_n 1, 1) := by decide +kernel
theorem dX10_restore_37 : decode cX10_restore 37 = .ok (.iaload, 1) := by decide +kernel
theorem dX10_restore_38 : decode cX10_restore 38 = .ok (.iastore, 1) := by decide +kernel
theorem dX10_restore_39 : decode cX10_restore 39 = .ok (.iinc 1 1, 3) := by decide +kernel
theorem dX10_restore_42 : decode cX10_restore 42 = .ok (.goto (-22), 3) := by decide +kernel
theorem dX10_restore_45 : decode cX10_restore 45 = .ok (.aload_n 0, 1) := by decide +kernel
theorem dX10_restore_46 : decode cX10_restore 46 = .ok (.iconst 0, 1) := by decide +kernel
theorem dX10_restore_47 : decode cX10_restore 47 = .ok (.putfield 80, 3) := by decide +kernel
theorem dX10_restore_50 : decode cX10_restore 50 = .ok (.aload_n 0, 1) := by decide +kernel
theorem dX10_restore_51 : decode cX10_restore 51 = .ok (.getfield 9, 3) := by decide +kernel
theorem dX10_restore_54 : decode cX10_restore 54 = .ok (.sipush 200, 3) := by decide +kernel
theorem dX10_restore_57 : decode cX10_restore 57 = .ok (.iaload, 1) := by decide +kernel
theorem dX10_restore_58 : decode cX10_restore 58 = .ok (.ireturn, 1) := by decide +kernel
