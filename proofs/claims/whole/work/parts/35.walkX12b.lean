/-! X12: the bytecode does what the functions say (by program: wip/whole/gen) -/
theorem dX12_layBoxes_0 : decode cX12_layBoxes 0 = .ok (.aload_n 0, 1) := by decide +kernel
theorem dX12_layBoxes_1 : decode cX12_layBoxes 1 = .ok (.iload_n 1, 1) := by decide +kernel
theorem dX12_layBoxes_2 : decode cX12_layBoxes 2 = .ok (.iconst 4, 1) := by decide +kernel
theorem dX12_layBoxes_3 : decode cX12_layBoxes 3 = .ok (.invokevirtual 177, 3) := by decide +kernel
theorem dX12_layBoxes_6 : decode cX12_layBoxes 6 = .ok (.istore_n 3, 1) := by decide +kernel
theorem dX12_layBoxes_7 : decode cX12_layBoxes 7 = .ok (.aload_n 0, 1) := by decide +kernel
theorem dX12_layBoxes_8 : decode cX12_layBoxes 8 = .ok (.iload_n 1, 1) := by decide +kernel
theorem dX12_layBoxes_9 : decode cX12_layBoxes 9 = .ok (.iconst 3, 1) := by decide +kernel
theorem dX12_layBoxes_10 : decode cX12_layBoxes 10 = .ok (.invokevirtual 177, 3) := by decide +kernel
theorem dX12_layBoxes_13 : decode cX12_layBoxes 13 = .ok (.istore 4, 2) := by decide +kernel
theorem dX12_layBoxes_15 : decode cX12_layBoxes 15 = .ok (.iload_n 3, 1) := by decide +kernel
theorem dX12_layBoxes_16 : decode cX12_layBoxes 16 = .ok (.istore 5, 2) := by decide +kernel
theorem dX12_layBoxes_18 : decode cX12_layBoxes 18 = .ok (.iconst 0, 1) := by decide +kernel
theorem dX12_layBoxes_19 : decode cX12_layBoxes 19 = .ok (.istore 6, 2) := by decide +kernel
theorem dX12_layBoxes_21 : decode cX12_layBoxes 21 = .ok (.aload_n 2, 1) := by decide +kernel
theorem dX12_layBoxes_22 : decode cX12_layBoxes 22 = .ok (.aload_n 0, 1) := by decide +kernel
theorem dX12_layBoxes_23 : decode cX12_layBoxes 23 = .ok (.iload_n 1, 1) := by decide +kernel
theorem dX12_layBoxes_24 : decode cX12_layBoxes 24 = .ok (.invokevirtual 186, 3) := by decide +kernel
theorem dX12_layBoxes_27 : decode cX12_layBoxes 27 = .ok (.putfield 189, 3) := by decide +kernel
theorem dX12_layBoxes_30 : decode cX12_layBoxes 30 = .ok (.aload_n 2, 1) := by decide +kernel
theorem dX12_layBoxes_31 : decode cX12_layBoxes 31 = .ok (.iconst 0, 1) := by decide +kernel
theorem dX12_layBoxes_32 : decode cX12_layBoxes 32 = .ok (.putfield 192, 3) := by decide +kernel
theorem dX12_layBoxes_35 : decode cX12_layBoxes 35 = .ok (.aload_n 2, 1) := by decide +kernel
theorem dX12_layBoxes_36 : decode cX12_layBoxes 36 = .ok (.iload 4, 2) := by decide +kernel
theorem dX12_layBoxes_38 : decode cX12_layBoxes 38 = .ok (.putfield 195, 3) := by decide +kernel
theorem dX12_layBoxes_41 : decode cX12_layBoxes 41 = .ok (.aload_n 2, 1) := by decide +kernel
theorem dX12_layBoxes_42 : decode cX12_layBoxes 42 = .ok (.iload_n 3, 1) := by decide +kernel
theorem dX12_layBoxes_43 : decode cX12_layBoxes 43 = .ok (.putfield 198, 3) := by decide +kernel
theorem dX12_layBoxes_46 : decode cX12_layBoxes 46 = .ok (.aload_n 2, 1) := by decide +kernel
theorem dX12_layBoxes_47 : decode cX12_layBoxes 47 = .ok (.iconst 0, 1) := by decide +kernel
theorem dX12_layBoxes_48 : decode cX12_layBoxes 48 = .ok (.putfield 201, 3) := by decide +kernel
theorem dX12_layBoxes_51 : decode cX12_layBoxes 51 = .ok (.iconst 0, 1) := by decide +kernel
theorem dX12_layBoxes_52 : decode cX12_layBoxes 52 = .ok (.istore 7, 2) := by decide +kernel
theorem dX12_layBoxes_54 : decode cX12_layBoxes 54 = .ok (.iload 7, 2) := by decide +kernel
theorem dX12_layBoxes_56 : decode cX12_layBoxes 56 = .ok (.aload_n 2, 1) := by decide +kernel
theorem dX12_layBoxes_57 : decode cX12_layBoxes 57 = .ok (.getfield 189, 3) := by decide +kernel
theorem dX12_layBoxes_60 : decode cX12_layBoxes 60 = .ok (.if_icmp .ge 300, 3) := by decide +kernel
theorem dX12_layBoxes_63 : decode cX12_layBoxes 63 = .ok (.aload_n 0, 1) := by decide +kernel
theorem dX12_layBoxes_64 : decode cX12_layBoxes 64 = .ok (.getfield 31, 3) := by decide +kernel
theorem dX12_layBoxes_67 : decode cX12_layBoxes 67 = .ok (.aload_n 0, 1) := by decide +kernel
theorem dX12_layBoxes_68 : decode cX12_layBoxes 68 = .ok (.iload_n 1, 1) := by decide +kernel
theorem dX12_layBoxes_69 : decode cX12_layBoxes 69 = .ok (.invokevirtual 174, 3) := by decide +kernel
theorem dX12_layBoxes_72 : decode cX12_layBoxes 72 = .ok (.iload 7, 2) := by decide +kernel
theorem dX12_layBoxes_74 : decode cX12_layBoxes 74 = .ok (.iadd, 1) := by decide +kernel
theorem dX12_layBoxes_75 : decode cX12_layBoxes 75 = .ok (.iaload, 1) := by decide +kernel
theorem dX12_layBoxes_76 : decode cX12_layBoxes 76 = .ok (.istore 8, 2) := by decide +kernel
theorem dX12_layBoxes_78 : decode cX12_layBoxes 78 = .ok (.aload_n 0, 1) := by decide +kernel
theorem dX12_layBoxes_79 : decode cX12_layBoxes 79 = .ok (.getfield 9, 3) := by decide +kernel
theorem dX12_layBoxes_82 : decode cX12_layBoxes 82 = .ok (.iload 8, 2) := by decide +kernel
theorem dX12_layBoxes_84 : decode cX12_layBoxes 84 = .ok (.bipush 6, 2) := by decide +kernel
theorem dX12_layBoxes_86 : decode cX12_layBoxes 86 = .ok (.invokestatic 114, 3) := by decide +kernel
theorem dX12_layBoxes_89 : decode cX12_layBoxes 89 = .ok (.iaload, 1) := by decide +kernel
theorem dX12_layBoxes_90 : decode cX12_layBoxes 90 = .ok (.istore 9, 2) := by decide +kernel
theorem dX12_layBoxes_92 : decode cX12_layBoxes 92 = .ok (.aload_n 0, 1) := by decide +kernel
theorem dX12_layBoxes_93 : decode cX12_layBoxes 93 = .ok (.getfield 9, 3) := by decide +kernel
theorem dX12_layBoxes_96 : decode cX12_layBoxes 96 = .ok (.iload 8, 2) := by decide +kernel
theorem dX12_layBoxes_98 : decode cX12_layBoxes 98 = .ok (.iconst 4, 1) := by decide +kernel
theorem dX12_layBoxes_99 : decode cX12_layBoxes 99 = .ok (.invokestatic 114, 3) := by decide +kernel
theorem dX12_layBoxes_102 : decode cX12_layBoxes 102 = .ok (.iaload, 1) := by decide +kernel
theorem dX12_layBoxes_103 : decode cX12_layBoxes 103 = .ok (.istore 10, 2) := by decide +kernel
theorem dX12_layBoxes_105 : decode cX12_layBoxes 105 = .ok (.iload 9, 2) := by decide +kernel
theorem dX12_layBoxes_107 : decode cX12_layBoxes 107 = .ok (.ifCond .ne 12, 3) := by decide +kernel
theorem dX12_layBoxes_110 : decode cX12_layBoxes 110 = .ok (.aload_n 0, 1) := by decide +kernel
theorem dX12_layBoxes_111 : decode cX12_layBoxes 111 = .ok (.iload_n 1, 1) := by decide +kernel
theorem dX12_layBoxes_112 : decode cX12_layBoxes 112 = .ok (.iconst 5, 1) := by decide +kernel
theorem dX12_layBoxes_113 : decode cX12_layBoxes 113 = .ok (.invokevirtual 177, 3) := by decide +kernel
theorem dX12_layBoxes_116 : decode cX12_layBoxes 116 = .ok (.goto 23, 3) := by decide +kernel
theorem dX12_layBoxes_119 : decode cX12_layBoxes 119 = .ok (.iload 9, 2) := by decide +kernel
theorem dX12_layBoxes_121 : decode cX12_layBoxes 121 = .ok (.iconst 1, 1) := by decide +kernel
theorem dX12_layBoxes_122 : decode cX12_layBoxes 122 = .ok (.if_icmp .ne 13, 3) := by decide +kernel
theorem dX12_layBoxes_125 : decode cX12_layBoxes 125 = .ok (.aload_n 0, 1) := by decide +kernel
theorem dX12_layBoxes_126 : decode cX12_layBoxes 126 = .ok (.iload_n 1, 1) := by decide +kernel
theorem dX12_layBoxes_127 : decode cX12_layBoxes 127 = .ok (.bipush 6, 2) := by decide +kernel
theorem dX12_layBoxes_129 : decode cX12_layBoxes 129 = .ok (.invokevirtual 177, 3) := by decide +kernel
theorem dX12_layBoxes_132 : decode cX12_layBoxes 132 = .ok (.goto 7, 3) := by decide +kernel
theorem dX12_layBoxes_135 : decode cX12_layBoxes 135 = .ok (.iload 4, 2) := by decide +kernel
theorem dX12_layBoxes_137 : decode cX12_layBoxes 137 = .ok (.iconst 2, 1) := by decide +kernel
theorem dX12_layBoxes_138 : decode cX12_layBoxes 138 = .ok (.idiv, 1) := by decide +kernel
theorem dX12_layBoxes_139 : decode cX12_layBoxes 139 = .ok (.istore 11, 2) := by decide +kernel
theorem dX12_layBoxes_141 : decode cX12_layBoxes 141 = .ok (.iload 11, 2) := by decide +kernel
theorem dX12_layBoxes_143 : decode cX12_layBoxes 143 = .ok (.aload_n 0, 1) := by decide +kernel
theorem dX12_layBoxes_144 : decode cX12_layBoxes 144 = .ok (.getfield 9, 3) := by decide +kernel
theorem dX12_layBoxes_147 : decode cX12_layBoxes 147 = .ok (.iload 8, 2) := by decide +kernel
theorem dX12_layBoxes_149 : decode cX12_layBoxes 149 = .ok (.iconst 5, 1) := by decide +kernel
theorem dX12_layBoxes_150 : decode cX12_layBoxes 150 = .ok (.invokestatic 114, 3) := by decide +kernel
theorem dX12_layBoxes_153 : decode cX12_layBoxes 153 = .ok (.iaload, 1) := by decide +kernel
theorem dX12_layBoxes_154 : decode cX12_layBoxes 154 = .ok (.isub, 1) := by decide +kernel
theorem dX12_layBoxes_155 : decode cX12_layBoxes 155 = .ok (.istore 12, 2) := by decide +kernel
theorem dX12_layBoxes_157 : decode cX12_layBoxes 157 = .ok (.iload 9, 2) := by decide +kernel
theorem dX12_layBoxes_159 : decode cX12_layBoxes 159 = .ok (.ifCond .ne 10, 3) := by decide +kernel
theorem dX12_layBoxes_162 : decode cX12_layBoxes 162 = .ok (.iload 5, 2) := by decide +kernel
theorem dX12_layBoxes_164 : decode cX12_layBoxes 164 = .ok (.iconst 1, 1) := by decide +kernel
theorem dX12_layBoxes_165 : decode cX12_layBoxes 165 = .ok (.iadd, 1) := by decide +kernel
theorem dX12_layBoxes_166 : decode cX12_layBoxes 166 = .ok (.goto 22, 3) := by decide +kernel
theorem dX12_layBoxes_169 : decode cX12_layBoxes 169 = .ok (.iload 9, 2) := by decide +kernel
theorem dX12_layBoxes_171 : decode cX12_layBoxes 171 = .ok (.iconst 1, 1) := by decide +kernel
theorem dX12_layBoxes_172 : decode cX12_layBoxes 172 = .ok (.if_icmp .ne 13, 3) := by decide +kernel
theorem dX12_layBoxes_175 : decode cX12_layBoxes 175 = .ok (.iload 6, 2) := by decide +kernel
theorem dX12_layBoxes_177 : decode cX12_layBoxes 177 = .ok (.iconst 1, 1) := by decide +kernel
theorem dX12_layBoxes_178 : decode cX12_layBoxes 178 = .ok (.isub, 1) := by decide +kernel
theorem dX12_layBoxes_179 : decode cX12_layBoxes 179 = .ok (.iload 10, 2) := by decide +kernel
theorem dX12_layBoxes_181 : decode cX12_layBoxes 181 = .ok (.isub, 1) := by decide +kernel
theorem dX12_layBoxes_182 : decode cX12_layBoxes 182 = .ok (.goto 6, 3) := by decide +kernel
theorem dX12_layBoxes_185 : decode cX12_layBoxes 185 = .ok (.iload_n 3, 1) := by decide +kernel
theorem dX12_layBoxes_186 : decode cX12_layBoxes 186 = .ok (.iconst 2, 1) := by decide +kernel
theorem dX12_layBoxes_187 : decode cX12_layBoxes 187 = .ok (.idiv, 1) := by decide +kernel
theorem dX12_layBoxes_188 : decode cX12_layBoxes 188 = .ok (.istore 13, 2) := by decide +kernel
theorem dX12_layBoxes_190 : decode cX12_layBoxes 190 = .ok (.iload 9, 2) := by decide +kernel
theorem dX12_layBoxes_192 : decode cX12_layBoxes 192 = .ok (.ifCond .ne 11, 3) := by decide +kernel
theorem dX12_layBoxes_195 : decode cX12_layBoxes 195 = .ok (.iload 13, 2) := by decide +kernel
theorem dX12_layBoxes_197 : decode cX12_layBoxes 197 = .ok (.iload 10, 2) := by decide +kernel
theorem dX12_layBoxes_199 : decode cX12_layBoxes 199 = .ok (.iadd, 1) := by decide +kernel
theorem dX12_layBoxes_200 : decode cX12_layBoxes 200 = .ok (.goto 5, 3) := by decide +kernel
theorem dX12_layBoxes_203 : decode cX12_layBoxes 203 = .ok (.iload 5, 2) := by decide +kernel
theorem dX12_layBoxes_205 : decode cX12_layBoxes 205 = .ok (.istore 5, 2) := by decide +kernel
theorem dX12_layBoxes_207 : decode cX12_layBoxes 207 = .ok (.iload 9, 2) := by decide +kernel
theorem dX12_layBoxes_209 : decode cX12_layBoxes 209 = .ok (.iconst 1, 1) := by decide +kernel
theorem dX12_layBoxes_210 : decode cX12_layBoxes 210 = .ok (.if_icmp .ne 8, 3) := by decide +kernel
theorem dX12_layBoxes_213 : decode cX12_layBoxes 213 = .ok (.iload 13, 2) := by decide +kernel
theorem dX12_layBoxes_215 : decode cX12_layBoxes 215 = .ok (.goto 5, 3) := by decide +kernel
theorem dX12_layBoxes_218 : decode cX12_layBoxes 218 = .ok (.iload 6, 2) := by decide +kernel
theorem dX12_layBoxes_220 : decode cX12_layBoxes 220 = .ok (.istore 6, 2) := by decide +kernel
theorem dX12_layBoxes_222 : decode cX12_layBoxes 222 = .ok (.aload_n 2, 1) := by decide +kernel
theorem dX12_layBoxes_223 : decode cX12_layBoxes 223 = .ok (.getfield 204, 3) := by decide +kernel
theorem dX12_layBoxes_226 : decode cX12_layBoxes 226 = .ok (.iconst 4, 1) := by decide +kernel
theorem dX12_layBoxes_227 : decode cX12_layBoxes 227 = .ok (.iload 7, 2) := by decide +kernel
theorem dX12_layBoxes_229 : decode cX12_layBoxes 229 = .ok (.imul, 1) := by decide +kernel
theorem dX12_layBoxes_230 : decode cX12_layBoxes 230 = .ok (.iload 12, 2) := by decide +kernel
theorem dX12_layBoxes_232 : decode cX12_layBoxes 232 = .ok (.iastore, 1) := by decide +kernel
theorem dX12_layBoxes_233 : decode cX12_layBoxes 233 = .ok (.aload_n 2, 1) := by decide +kernel
theorem dX12_layBoxes_234 : decode cX12_layBoxes 234 = .ok (.getfield 204, 3) := by decide +kernel
theorem dX12_layBoxes_237 : decode cX12_layBoxes 237 = .ok (.iconst 4, 1) := by decide +kernel
theorem dX12_layBoxes_238 : decode cX12_layBoxes 238 = .ok (.iload 7, 2) := by decide +kernel
theorem dX12_layBoxes_240 : decode cX12_layBoxes 240 = .ok (.imul, 1) := by decide +kernel
theorem dX12_layBoxes_241 : decode cX12_layBoxes 241 = .ok (.iconst 1, 1) := by decide +kernel
theorem dX12_layBoxes_242 : decode cX12_layBoxes 242 = .ok (.iadd, 1) := by decide +kernel
theorem dX12_layBoxes_243 : decode cX12_layBoxes 243 = .ok (.iload 12, 2) := by decide +kernel
theorem dX12_layBoxes_245 : decode cX12_layBoxes 245 = .ok (.aload_n 0, 1) := by decide +kernel
theorem dX12_layBoxes_246 : decode cX12_layBoxes 246 = .ok (.getfield 9, 3) := by decide +kernel
theorem dX12_layBoxes_249 : decode cX12_layBoxes 249 = .ok (.iload 8, 2) := by decide +kernel
theorem dX12_layBoxes_251 : decode cX12_layBoxes 251 = .ok (.iconst 3, 1) := by decide +kernel
theorem dX12_layBoxes_252 : decode cX12_layBoxes 252 = .ok (.invokestatic 114, 3) := by decide +kernel
theorem dX12_layBoxes_255 : decode cX12_layBoxes 255 = .ok (.iaload, 1) := by decide +kernel
theorem dX12_layBoxes_256 : decode cX12_layBoxes 256 = .ok (.iadd, 1) := by decide +kernel
theorem dX12_layBoxes_257 : decode cX12_layBoxes 257 = .ok (.iastore, 1) := by decide +kernel
theorem dX12_layBoxes_258 : decode cX12_layBoxes 258 = .ok (.aload_n 2, 1) := by decide +kernel
theorem dX12_layBoxes_259 : decode cX12_layBoxes 259 = .ok (.getfield 204, 3) := by decide +kernel
theorem dX12_layBoxes_262 : decode cX12_layBoxes 262 = .ok (.iconst 4, 1) := by decide +kernel
theorem dX12_layBoxes_263 : decode cX12_layBoxes 263 = .ok (.iload 7, 2) := by decide +kernel
theorem dX12_layBoxes_265 : decode cX12_layBoxes 265 = .ok (.imul, 1) := by decide +kernel
theorem dX12_layBoxes_266 : decode cX12_layBoxes 266 = .ok (.iconst 2, 1) := by decide +kernel
theorem dX12_layBoxes_267 : decode cX12_layBoxes 267 = .ok (.iadd, 1) := by decide +kernel
theorem dX12_layBoxes_268 : decode cX12_layBoxes 268 = .ok (.iload 13, 2) := by decide +kernel
theorem dX12_layBoxes_270 : decode cX12_layBoxes 270 = .ok (.iastore, 1) := by decide +kernel
theorem dX12_layBoxes_271 : decode cX12_layBoxes 271 = .ok (.aload_n 2, 1) := by decide +kernel
theorem dX12_layBoxes_272 : decode cX12_layBoxes 272 = .ok (.getfield 204, 3) := by decide +kernel
theorem dX12_layBoxes_275 : decode cX12_layBoxes 275 = .ok (.iconst 4, 1) := by decide +kernel
theorem dX12_layBoxes_276 : decode cX12_layBoxes 276 = .ok (.iload 7, 2) := by decide +kernel
theorem dX12_layBoxes_278 : decode cX12_layBoxes 278 = .ok (.imul, 1) := by decide +kernel
theorem dX12_layBoxes_279 : decode cX12_layBoxes 279 = .ok (.iconst 3, 1) := by decide +kernel
theorem dX12_layBoxes_280 : decode cX12_layBoxes 280 = .ok (.iadd, 1) := by decide +kernel
theorem dX12_layBoxes_281 : decode cX12_layBoxes 281 = .ok (.iload 13, 2) := by decide +kernel
theorem dX12_layBoxes_283 : decode cX12_layBoxes 283 = .ok (.iload 10, 2) := by decide +kernel
theorem dX12_layBoxes_285 : decode cX12_layBoxes 285 = .ok (.iadd, 1) := by decide +kernel
theorem dX12_layBoxes_286 : decode cX12_layBoxes 286 = .ok (.iastore, 1) := by decide +kernel
theorem dX12_layBoxes_287 : decode cX12_layBoxes 287 = .ok (.aload_n 2, 1) := by decide +kernel
theorem dX12_layBoxes_288 : decode cX12_layBoxes 288 = .ok (.aload_n 2, 1) := by decide +kernel
theorem dX12_layBoxes_289 : decode cX12_layBoxes 289 = .ok (.getfield 192, 3) := by decide +kernel
theorem dX12_layBoxes_292 : decode cX12_layBoxes 292 = .ok (.iload 12, 2) := by decide +kernel
theorem dX12_layBoxes_294 : decode cX12_layBoxes 294 = .ok (.invokestatic 207, 3) := by decide +kernel
theorem dX12_layBoxes_297 : decode cX12_layBoxes 297 = .ok (.putfield 192, 3) := by decide +kernel
theorem dX12_layBoxes_300 : decode cX12_layBoxes 300 = .ok (.aload_n 2, 1) := by decide +kernel
theorem dX12_layBoxes_301 : decode cX12_layBoxes 301 = .ok (.aload_n 2, 1) := by decide +kernel
theorem dX12_layBoxes_302 : decode cX12_layBoxes 302 = .ok (.getfield 195, 3) := by decide +kernel
theorem dX12_layBoxes_305 : decode cX12_layBoxes 305 = .ok (.iload 12, 2) := by decide +kernel
theorem dX12_layBoxes_307 : decode cX12_layBoxes 307 = .ok (.aload_n 0, 1) := by decide +kernel
theorem dX12_layBoxes_308 : decode cX12_layBoxes 308 = .ok (.getfield 9, 3) := by decide +kernel
theorem dX12_layBoxes_311 : decode cX12_layBoxes 311 = .ok (.iload 8, 2) := by decide +kernel
theorem dX12_layBoxes_313 : decode cX12_layBoxes 313 = .ok (.iconst 3, 1) := by decide +kernel
theorem dX12_layBoxes_314 : decode cX12_layBoxes 314 = .ok (.invokestatic 114, 3) := by decide +kernel
theorem dX12_layBoxes_317 : decode cX12_layBoxes 317 = .ok (.iaload, 1) := by decide +kernel
theorem dX12_layBoxes_318 : decode cX12_layBoxes 318 = .ok (.iadd, 1) := by decide +kernel
theorem dX12_layBoxes_319 : decode cX12_layBoxes 319 = .ok (.invokestatic 212, 3) := by decide +kernel
theorem dX12_layBoxes_322 : decode cX12_layBoxes 322 = .ok (.putfield 195, 3) := by decide +kernel
theorem dX12_layBoxes_325 : decode cX12_layBoxes 325 = .ok (.aload_n 2, 1) := by decide +kernel
theorem dX12_layBoxes_326 : decode cX12_layBoxes 326 = .ok (.aload_n 2, 1) := by decide +kernel
theorem dX12_layBoxes_327 : decode cX12_layBoxes 327 = .ok (.getfield 198, 3) := by decide +kernel
theorem dX12_layBoxes_330 : decode cX12_layBoxes 330 = .ok (.iload 13, 2) := by decide +kernel
theorem dX12_layBoxes_332 : decode cX12_layBoxes 332 = .ok (.iload 10, 2) := by decide +kernel
theorem dX12_layBoxes_334 : decode cX12_layBoxes 334 = .ok (.iadd, 1) := by decide +kernel
theorem dX12_layBoxes_335 : decode cX12_layBoxes 335 = .ok (.invokestatic 212, 3) := by decide +kernel
theorem dX12_layBoxes_338 : decode cX12_layBoxes 338 = .ok (.putfield 198, 3) := by decide +kernel
theorem dX12_layBoxes_341 : decode cX12_layBoxes 341 = .ok (.aload_n 2, 1) := by decide +kernel
theorem dX12_layBoxes_342 : decode cX12_layBoxes 342 = .ok (.aload_n 2, 1) := by decide +kernel
theorem dX12_layBoxes_343 : decode cX12_layBoxes 343 = .ok (.getfield 201, 3) := by decide +kernel
theorem dX12_layBoxes_346 : decode cX12_layBoxes 346 = .ok (.iload 13, 2) := by decide +kernel
theorem dX12_layBoxes_348 : decode cX12_layBoxes 348 = .ok (.invokestatic 207, 3) := by decide +kernel
theorem dX12_layBoxes_351 : decode cX12_layBoxes 351 = .ok (.putfield 201, 3) := by decide +kernel
theorem dX12_layBoxes_354 : decode cX12_layBoxes 354 = .ok (.iinc 7 1, 3) := by decide +kernel
theorem dX12_layBoxes_357 : decode cX12_layBoxes 357 = .ok (.goto (-303), 3) := by decide +kernel
theorem dX12_layBoxes_360 : decode cX12_layBoxes 360 = .ok (.return_, 1) := by decide +kernel
set_option maxRecDepth 100000 in
theorem t_X12_layBoxes_220 (G : MG) (hG : (g_l G).stackTraces = false) (d : Nat) (hd : 6 ≤ d)   (k54 : MsSt → Nat → Int32 → Nat → Int32 → Int32 → Int32 → Int32 → Int32 → Option (MsSt)) (hk54 : ∀ (s : MsSt) (x1 : Nat) (x2 : Int32) (x3 : Nat) (x4 : Int32) (x5 : Int32) (x6 : Int32) (x7 : Int32) (x8 : Int32), ms_kd x1 = 13 → ms_kd x3 = 12 → TrO G mX12_layBoxes d 0 0 0 0 ms_wv 54 [(0, .ref x1), (1, .int x2), (2, .ref x3), (3, .int x4), (4, .int x5), (5, .int x6), (6, .int x7), (7, .int x8)] [] s (k54 s x1 x2 x3 x4 x5 x6 x7 x8)) (σ : MsSt) (l0 : Nat) (l1 : Int32) (l2 : Nat) (l3 : Int32) (l4 : Int32) (l5 : Int32) (l7 : Int32) (l8 : Int32) (l10 : Int32) (l12 : Int32) (l13 : Int32) (t0 : Int32) (h0 : ms_kd l0 = 13) (h2 : ms_kd l2 = 12) : TrO G mX12_layBoxes d 0 0 0 0 ms_wv 220 [(0, .ref l0), (1, .int l1), (2, .ref l2), (3, .int l3), (4, .int l4), (5, .int l5), (7, .int l7), (8, .int l8), (10, .int l10), (12, .int l12), (13, .int l13)] [.int t0] σ (f_X12_layBoxes_220 k54 σ l0 l1 l2 l3 l4 l5 l7 l8 l10 l12 l13 t0) := by
  show TrO G mX12_layBoxes d 0 0 0 0 ms_wv 220 [(0, .ref l0), (1, .int l1), (2, .ref l2), (3, .int l3), (4, .int l4), (5, .int l5), (7, .int l7), (8, .int l8), (10, .int l10), (12, .int l12), (13, .int l13)] [.int t0] σ ((ms_ast σ (ms_rf l2 0) (4 * l7) l12).bind fun s19 => (f_X12_of s19 l8 3).bind fun v20 => (ms_ald s19 (ms_rf l0 0) v20).bind fun v21 => (ms_ast s19 (ms_rf l2 0) ((4 * l7) + 1) (l12 + v21)).bind fun s22 => (ms_ast s22 (ms_rf l2 0) ((4 * l7) + 2) l13).bind fun s23 => (ms_ast s23 (ms_rf l2 0) ((4 * l7) + 3) (l13 + l10)).bind fun s24 => ms_nm (ms_si s24 l2 2 (if l12 < (ms_i s24 l2 2) then l12 else (ms_i s24 l2 2))) fun s25 => (f_X12_of s25 l8 3).bind fun v26 => (ms_ald s25 (ms_rf l0 0) v26).bind fun v27 => ms_nm (ms_si s25 l2 3 (if (ms_i s25 l2 3) < (l12 + v27) then (l12 + v27) else (ms_i s25 l2 3))) fun s28 => ms_nm (ms_si s28 l2 4 (if (ms_i s28 l2 4) < (l13 + l10) then (l13 + l10) else (ms_i s28 l2 4))) fun s29 => ms_nm (ms_si s29 l2 5 (if l13 < (ms_i s29 l2 5) then l13 else (ms_i s29 l2 5))) fun s30 => k54 s30 l0 l1 l2 l3 l4 l5 t0 (l7 + 1))
  refine tr_istore (lv' := [(0, .ref l0), (1, .int l1), (2, .ref l2), (3, .int l3), (4, .int l4), (5, .int l5), (6, .int t0), (7, .int l7), (8, .int l8), (10, .int l10), (12, .int l12), (13, .int l13)]) [1, 2, 3, 4, 5, 6, 0, 7, 8, 9, 10, 11] dX12_layBoxes_220 (by decide) rfl ?_
  refine tr_aload_n (i := 2) dX12_layBoxes_222 rfl ?_
  refine tr_getR 11 h2 fl_X12_204 (by decide +kernel) dX12_layBoxes_223 ?_
  refine tr_iconst (v := 4) dX12_layBoxes_226 (by decide +kernel) ?_
  refine tr_iload (i := 7) dX12_layBoxes_227 rfl ?_
  refine tr_imul dX12_layBoxes_229 ?_
  refine tr_iload (i := 10) dX12_layBoxes_230 rfl ?_
  refine tr_ast (rk_11_0 h2) dX12_layBoxes_232 (fun s19 => ?_)
  refine tr_aload_n (i := 2) dX12_layBoxes_233 rfl ?_
  refine tr_getR 11 h2 fl_X12_204 (by decide +kernel) dX12_layBoxes_234 ?_
  refine tr_iconst (v := 4) dX12_layBoxes_237 (by decide +kernel) ?_
  refine tr_iload (i := 7) dX12_layBoxes_238 rfl ?_
  refine tr_imul dX12_layBoxes_240 ?_
  refine tr_iconst (v := 1) dX12_layBoxes_241 (by decide +kernel) ?_
  refine tr_iadd dX12_layBoxes_242 ?_
  refine tr_iload (i := 10) dX12_layBoxes_243 rfl ?_
  refine tr_aload_n (i := 0) dX12_layBoxes_245 rfl ?_
  refine tr_getR 12 h0 fl_X12_9 (by decide +kernel) dX12_layBoxes_246 ?_
  refine tr_iload (i := 8) dX12_layBoxes_249 rfl ?_
  refine tr_iconst (v := 3) dX12_layBoxes_251 (by decide +kernel) ?_
  refine tr_c_i (ms_cS (rest := [.ref (ms_rf l0 0), .int l12, .int ((4 * l7) + 1), .ref (ms_rf l2 0)]) (al := [.int l8, .int 3]) (sp_X12_of G hG (d - 1) (by omega) s19 l8 3) kl_X12_114 fs_X12_of dX12_layBoxes_252 (show _ = some 2 by decide +kernel) (by omega) (Nat.le_of_ble_eq_true rfl) (by decide) (by decide)) (fun v20 => ?_)
  refine tr_ald (rk_12_0 h0) dX12_layBoxes_255 (fun v21 => ?_)
  refine tr_iadd dX12_layBoxes_256 ?_
  refine tr_ast (rk_11_0 h2) dX12_layBoxes_257 (fun s22 => ?_)
  refine tr_aload_n (i := 2) dX12_layBoxes_258 rfl ?_
  refine tr_getR 11 h2 fl_X12_204 (by decide +kernel) dX12_layBoxes_259 ?_
  refine tr_iconst (v := 4) dX12_layBoxes_262 (by decide +kernel) ?_
  refine tr_iload (i := 7) dX12_layBoxes_263 rfl ?_
  refine tr_imul dX12_layBoxes_265 ?_
  refine tr_iconst (v := 2) dX12_layBoxes_266 (by decide +kernel) ?_
  refine tr_iadd dX12_layBoxes_267 ?_
  refine tr_iload (i := 11) dX12_layBoxes_268 rfl ?_
  refine tr_ast (rk_11_0 h2) dX12_layBoxes_270 (fun s23 => ?_)
  refine tr_aload_n (i := 2) dX12_layBoxes_271 rfl ?_
  refine tr_getR 11 h2 fl_X12_204 (by decide +kernel) dX12_layBoxes_272 ?_
  refine tr_iconst (v := 4) dX12_layBoxes_275 (by decide +kernel) ?_
  refine tr_iload (i := 7) dX12_layBoxes_276 rfl ?_
  refine tr_imul dX12_layBoxes_278 ?_
  refine tr_iconst (v := 3) dX12_layBoxes_279 (by decide +kernel) ?_
  refine tr_iadd dX12_layBoxes_280 ?_
  refine tr_iload (i := 11) dX12_layBoxes_281 rfl ?_
  refine tr_iload (i := 9) dX12_layBoxes_283 rfl ?_
  refine tr_iadd dX12_layBoxes_285 ?_
  refine tr_ast (rk_11_0 h2) dX12_layBoxes_286 (fun s24 => ?_)
  refine tr_aload_n (i := 2) dX12_layBoxes_287 rfl ?_
  refine tr_aload_n (i := 2) dX12_layBoxes_288 rfl ?_
  refine tr_getI 11 h2 fl_X12_192 (by decide +kernel) dX12_layBoxes_289 ?_
  refine tr_iload (i := 10) dX12_layBoxes_292 rfl ?_
  refine tr_mmin (List.mem_of_getElem? (i := 1917) (by decide +kernel)) (List.mem_of_getElem? (i := 786) (by decide +kernel)) (List.mem_of_getElem? (i := 144) (by decide +kernel)) (List.mem_of_getElem? (i := 787) (by decide +kernel)) (by omega) (Nat.le_of_ble_eq_true rfl) (by decide) (by decide) dX12_layBoxes_294 ?_
  refine tr_putI 11 h2 fl_X12_192 (by decide +kernel) dX12_layBoxes_297 ?_
  refine ms_ltS (fun s25 => ?_)
  refine tr_aload_n (i := 2) dX12_layBoxes_300 rfl ?_
  refine tr_aload_n (i := 2) dX12_layBoxes_301 rfl ?_
  refine tr_getI 11 h2 fl_X12_195 (by decide +kernel) dX12_layBoxes_302 ?_
  refine tr_iload (i := 10) dX12_layBoxes_305 rfl ?_
  refine tr_aload_n (i := 0) dX12_layBoxes_307 rfl ?_
  refine tr_getR 12 h0 fl_X12_9 (by decide +kernel) dX12_layBoxes_308 ?_
  refine tr_iload (i := 8) dX12_layBoxes_311 rfl ?_
  refine tr_iconst (v := 3) dX12_layBoxes_313 (by decide +kernel) ?_
  refine tr_c_i (ms_cS (rest := [.ref (ms_rf l0 0), .int l12, .int (ms_i s25 l2 3), .ref l2]) (al := [.int l8, .int 3]) (sp_X12_of G hG (d - 1) (by omega) s25 l8 3) kl_X12_114 fs_X12_of dX12_layBoxes_314 (show _ = some 2 by decide +kernel) (by omega) (Nat.le_of_ble_eq_true rfl) (by decide) (by decide)) (fun v26 => ?_)
  refine tr_ald (rk_12_0 h0) dX12_layBoxes_317 (fun v27 => ?_)
  refine tr_iadd dX12_layBoxes_318 ?_
  refine tr_mmax (List.mem_of_getElem? (i := 1918) (by decide +kernel)) (List.mem_of_getElem? (i := 234) (by decide +kernel)) (List.mem_of_getElem? (i := 144) (by decide +kernel)) (List.mem_of_getElem? (i := 235) (by decide +kernel)) (by omega) (Nat.le_of_ble_eq_true rfl) (by decide) (by decide) dX12_layBoxes_319 ?_
  refine tr_putI 11 h2 fl_X12_195 (by decide +kernel) dX12_layBoxes_322 ?_
  refine ms_ltS (fun s28 => ?_)
  refine tr_aload_n (i := 2) dX12_layBoxes_325 rfl ?_
  refine tr_aload_n (i := 2) dX12_layBoxes_326 rfl ?_
  refine tr_getI 11 h2 fl_X12_198 (by decide +kernel) dX12_layBoxes_327 ?_
  refine tr_iload (i := 11) dX12_layBoxes_330 rfl ?_
  refine tr_iload (i := 9) dX12_layBoxes_332 rfl ?_
  refine tr_iadd dX12_layBoxes_334 ?_
  refine tr_mmax (List.mem_of_getElem? (i := 1918) (by decide +kernel)) (List.mem_of_getElem? (i := 234) (by decide +kernel)) (List.mem_of_getElem? (i := 144) (by decide +kernel)) (List.mem_of_getElem? (i := 235) (by decide +kernel)) (by omega) (Nat.le_of_ble_eq_true rfl) (by decide) (by decide) dX12_layBoxes_335 ?_
  refine tr_putI 11 h2 fl_X12_198 (by decide +kernel) dX12_layBoxes_338 ?_
  refine ms_ltS (fun s29 => ?_)
  refine tr_aload_n (i := 2) dX12_layBoxes_341 rfl ?_
  refine tr_aload_n (i := 2) dX12_layBoxes_342 rfl ?_
  refine tr_getI 11 h2 fl_X12_201 (by decide +kernel) dX12_layBoxes_343 ?_
  refine tr_iload (i := 11) dX12_layBoxes_346 rfl ?_
  refine tr_mmin (List.mem_of_getElem? (i := 1917) (by decide +kernel)) (List.mem_of_getElem? (i := 786) (by decide +kernel)) (List.mem_of_getElem? (i := 144) (by decide +kernel)) (List.mem_of_getElem? (i := 787) (by decide +kernel)) (by omega) (Nat.le_of_ble_eq_true rfl) (by decide) (by decide) dX12_layBoxes_348 ?_
  refine tr_putI 11 h2 fl_X12_201 (by decide +kernel) dX12_layBoxes_351 ?_
  refine ms_ltS (fun s30 => ?_)
  refine tr_iinc (k := 7) (v := (l7 + 1)) (lv' := [(0, .ref l0), (1, .int l1), (2, .ref l2), (3, .int l3), (4, .int l4), (5, .int l5), (6, .int t0), (7, .int (l7 + 1))]) [1, 2, 3, 4, 5, 6, 7, 0] dX12_layBoxes_354 rfl rfl (by decide) rfl ?_
  refine tr_goto (tgt := 54) dX12_layBoxes_357 (by decide) ?_
  exact hk54 s30 l0 l1 l2 l3 l4 l5 t0 (l7 + 1) h0 h2
set_option maxRecDepth 100000 in
theorem t_X12_layBoxes_205 (G : MG) (hG : (g_l G).stackTraces = false) (d : Nat) (hd : 6 ≤ d)   (k54 : MsSt → Nat → Int32 → Nat → Int32 → Int32 → Int32 → Int32 → Int32 → Option (MsSt)) (hk54 : ∀ (s : MsSt) (x1 : Nat) (x2 : Int32) (x3 : Nat) (x4 : Int32) (x5 : Int32) (x6 : Int32) (x7 : Int32) (x8 : Int32), ms_kd x1 = 13 → ms_kd x3 = 12 → TrO G mX12_layBoxes d 0 0 0 0 ms_wv 54 [(0, .ref x1), (1, .int x2), (2, .ref x3), (3, .int x4), (4, .int x5), (5, .int x6), (6, .int x7), (7, .int x8)] [] s (k54 s x1 x2 x3 x4 x5 x6 x7 x8)) (σ : MsSt) (l0 : Nat) (l1 : Int32) (l2 : Nat) (l3 : Int32) (l4 : Int32) (l6 : Int32) (l7 : Int32) (l8 : Int32) (l9 : Int32) (l10 : Int32) (l12 : Int32) (l13 : Int32) (t0 : Int32) (h0 : ms_kd l0 = 13) (h2 : ms_kd l2 = 12) : TrO G mX12_layBoxes d 0 0 0 0 ms_wv 205 [(0, .ref l0), (1, .int l1), (2, .ref l2), (3, .int l3), (4, .int l4), (6, .int l6), (7, .int l7), (8, .int l8), (9, .int l9), (10, .int l10), (12, .int l12), (13, .int l13)] [.int t0] σ (f_X12_layBoxes_205 k54 σ l0 l1 l2 l3 l4 l6 l7 l8 l9 l10 l12 l13 t0) := by
  show TrO G mX12_layBoxes d 0 0 0 0 ms_wv 205 [(0, .ref l0), (1, .int l1), (2, .ref l2), (3, .int l3), (4, .int l4), (6, .int l6), (7, .int l7), (8, .int l8), (9, .int l9), (10, .int l10), (12, .int l12), (13, .int l13)] [.int t0] σ (if l9 = 1 then f_X12_layBoxes_220 k54 σ l0 l1 l2 l3 l4 t0 l7 l8 l10 l12 l13 l13 else f_X12_layBoxes_220 k54 σ l0 l1 l2 l3 l4 t0 l7 l8 l10 l12 l13 l6)
  refine tr_istore (lv' := [(0, .ref l0), (1, .int l1), (2, .ref l2), (3, .int l3), (4, .int l4), (5, .int t0), (6, .int l6), (7, .int l7), (8, .int l8), (9, .int l9), (10, .int l10), (12, .int l12), (13, .int l13)]) [1, 2, 3, 4, 5, 0, 6, 7, 8, 9, 10, 11, 12] dX12_layBoxes_205 (by decide) rfl ?_
  refine tr_iload (i := 9) dX12_layBoxes_207 rfl ?_
  refine tr_iconst (v := 1) dX12_layBoxes_209 (by decide +kernel) ?_
  refine tr_icne (o := none) (tgt := 218) dX12_layBoxes_210 (by decide) ?_ ?_
  · refine tr_iload (i := 6) dX12_layBoxes_218 rfl ?_
    refine tr_weak [0, 1, 2, 3, 4, 5, 7, 8, 10, 11, 12] (lv' := [(0, .ref l0), (1, .int l1), (2, .ref l2), (3, .int l3), (4, .int l4), (5, .int t0), (7, .int l7), (8, .int l8), (10, .int l10), (12, .int l12), (13, .int l13)]) rfl ?_
    exact t_X12_layBoxes_220 G hG d hd k54 hk54 σ l0 l1 l2 l3 l4 t0 l7 l8 l10 l12 l13 l6 h0 h2
  · refine tr_iload (i := 12) dX12_layBoxes_213 rfl ?_
    refine tr_goto (tgt := 220) dX12_layBoxes_215 (by decide) ?_
    refine tr_weak [0, 1, 2, 3, 4, 5, 7, 8, 10, 11, 12] (lv' := [(0, .ref l0), (1, .int l1), (2, .ref l2), (3, .int l3), (4, .int l4), (5, .int t0), (7, .int l7), (8, .int l8), (10, .int l10), (12, .int l12), (13, .int l13)]) rfl ?_
    exact t_X12_layBoxes_220 G hG d hd k54 hk54 σ l0 l1 l2 l3 l4 t0 l7 l8 l10 l12 l13 l13 h0 h2
set_option maxRecDepth 100000 in
theorem t_X12_layBoxes_188 (G : MG) (hG : (g_l G).stackTraces = false) (d : Nat) (hd : 6 ≤ d)   (k54 : MsSt → Nat → Int32 → Nat → Int32 → Int32 → Int32 → Int32 → Int32 → Option (MsSt)) (hk54 : ∀ (s : MsSt) (x1 : Nat) (x2 : Int32) (x3 : Nat) (x4 : Int32) (x5 : Int32) (x6 : Int32) (x7 : Int32) (x8 : Int32), ms_kd x1 = 13 → ms_kd x3 = 12 → TrO G mX12_layBoxes d 0 0 0 0 ms_wv 54 [(0, .ref x1), (1, .int x2), (2, .ref x3), (3, .int x4), (4, .int x5), (5, .int x6), (6, .int x7), (7, .int x8)] [] s (k54 s x1 x2 x3 x4 x5 x6 x7 x8)) (σ : MsSt) (l0 : Nat) (l1 : Int32) (l2 : Nat) (l3 : Int32) (l4 : Int32) (l5 : Int32) (l6 : Int32) (l7 : Int32) (l8 : Int32) (l9 : Int32) (l10 : Int32) (l12 : Int32) (t0 : Int32) (h0 : ms_kd l0 = 13) (h2 : ms_kd l2 = 12) : TrO G mX12_layBoxes d 0 0 0 0 ms_wv 188 [(0, .ref l0), (1, .int l1), (2, .ref l2), (3, .int l3), (4, .int l4), (5, .int l5), (6, .int l6), (7, .int l7), (8, .int l8), (9, .int l9), (10, .int l10), (12, .int l12)] [.int t0] σ (f_X12_layBoxes_188 k54 σ l0 l1 l2 l3 l4 l5 l6 l7 l8 l9 l10 l12 t0) := by
  show TrO G mX12_layBoxes d 0 0 0 0 ms_wv 188 [(0, .ref l0), (1, .int l1), (2, .ref l2), (3, .int l3), (4, .int l4), (5, .int l5), (6, .int l6), (7, .int l7), (8, .int l8), (9, .int l9), (10, .int l10), (12, .int l12)] [.int t0] σ (if l9 = 0 then f_X12_layBoxes_205 k54 σ l0 l1 l2 l3 l4 l6 l7 l8 l9 l10 l12 t0 (t0 + l10) else f_X12_layBoxes_205 k54 σ l0 l1 l2 l3 l4 l6 l7 l8 l9 l10 l12 t0 l5)
  refine tr_istore (lv' := [(0, .ref l0), (1, .int l1), (2, .ref l2), (3, .int l3), (4, .int l4), (5, .int l5), (6, .int l6), (7, .int l7), (8, .int l8), (9, .int l9), (10, .int l10), (12, .int l12), (13, .int t0)]) [1, 2, 3, 4, 5, 6, 7, 8, 9, 10, 11, 12, 0] dX12_layBoxes_188 (by decide) rfl ?_
  refine tr_iload (i := 9) dX12_layBoxes_190 rfl ?_
  refine tr_ifne (o := none) (tgt := 203) dX12_layBoxes_192 (by decide) ?_ ?_
  · refine tr_iload (i := 5) dX12_layBoxes_203 rfl ?_
    refine tr_weak [0, 1, 2, 3, 4, 6, 7, 8, 9, 10, 11, 12] (lv' := [(0, .ref l0), (1, .int l1), (2, .ref l2), (3, .int l3), (4, .int l4), (6, .int l6), (7, .int l7), (8, .int l8), (9, .int l9), (10, .int l10), (12, .int l12), (13, .int t0)]) rfl ?_
    exact t_X12_layBoxes_205 G hG d hd k54 hk54 σ l0 l1 l2 l3 l4 l6 l7 l8 l9 l10 l12 t0 l5 h0 h2
  · refine tr_iload (i := 12) dX12_layBoxes_195 rfl ?_
    refine tr_iload (i := 10) dX12_layBoxes_197 rfl ?_
    refine tr_iadd dX12_layBoxes_199 ?_
    refine tr_goto (tgt := 205) dX12_layBoxes_200 (by decide) ?_
    refine tr_weak [0, 1, 2, 3, 4, 6, 7, 8, 9, 10, 11, 12] (lv' := [(0, .ref l0), (1, .int l1), (2, .ref l2), (3, .int l3), (4, .int l4), (6, .int l6), (7, .int l7), (8, .int l8), (9, .int l9), (10, .int l10), (12, .int l12), (13, .int t0)]) rfl ?_
    exact t_X12_layBoxes_205 G hG d hd k54 hk54 σ l0 l1 l2 l3 l4 l6 l7 l8 l9 l10 l12 t0 (t0 + l10) h0 h2
set_option maxRecDepth 100000 in
theorem t_X12_layBoxes_139 (G : MG) (hG : (g_l G).stackTraces = false) (d : Nat) (hd : 6 ≤ d)   (k54 : MsSt → Nat → Int32 → Nat → Int32 → Int32 → Int32 → Int32 → Int32 → Option (MsSt)) (hk54 : ∀ (s : MsSt) (x1 : Nat) (x2 : Int32) (x3 : Nat) (x4 : Int32) (x5 : Int32) (x6 : Int32) (x7 : Int32) (x8 : Int32), ms_kd x1 = 13 → ms_kd x3 = 12 → TrO G mX12_layBoxes d 0 0 0 0 ms_wv 54 [(0, .ref x1), (1, .int x2), (2, .ref x3), (3, .int x4), (4, .int x5), (5, .int x6), (6, .int x7), (7, .int x8)] [] s (k54 s x1 x2 x3 x4 x5 x6 x7 x8)) (σ : MsSt) (l0 : Nat) (l1 : Int32) (l2 : Nat) (l3 : Int32) (l4 : Int32) (l5 : Int32) (l6 : Int32) (l7 : Int32) (l8 : Int32) (l9 : Int32) (l10 : Int32) (t0 : Int32) (h0 : ms_kd l0 = 13) (h2 : ms_kd l2 = 12) : TrO G mX12_layBoxes d 0 0 0 0 ms_wv 139 [(0, .ref l0), (1, .int l1), (2, .ref l2), (3, .int l3), (4, .int l4), (5, .int l5), (6, .int l6), (7, .int l7), (8, .int l8), (9, .int l9), (10, .int l10)] [.int t0] σ (f_X12_layBoxes_139 k54 σ l0 l1 l2 l3 l4 l5 l6 l7 l8 l9 l10 t0) := by
  show TrO G mX12_layBoxes d 0 0 0 0 ms_wv 139 [(0, .ref l0), (1, .int l1), (2, .ref l2), (3, .int l3), (4, .int l4), (5, .int l5), (6, .int l6), (7, .int l7), (8, .int l8), (9, .int l9), (10, .int l10)] [.int t0] σ ((f_X12_of σ l8 5).bind fun v16 => (ms_ald σ (ms_rf l0 0) v16).bind fun v17 => if l9 = 0 then f_X12_layBoxes_188 k54 σ l0 l1 l2 l3 l4 l5 l6 l7 l8 l9 l10 (t0 - v17) (l5 + 1) else if l9 = 1 then f_X12_layBoxes_188 k54 σ l0 l1 l2 l3 l4 l5 l6 l7 l8 l9 l10 (t0 - v17) ((l6 - 1) - l10) else (ms_idiv l3 2).bind fun v18 => f_X12_layBoxes_188 k54 σ l0 l1 l2 l3 l4 l5 l6 l7 l8 l9 l10 (t0 - v17) v18)
  refine tr_istore (lv' := [(0, .ref l0), (1, .int l1), (2, .ref l2), (3, .int l3), (4, .int l4), (5, .int l5), (6, .int l6), (7, .int l7), (8, .int l8), (9, .int l9), (10, .int l10), (11, .int t0)]) [1, 2, 3, 4, 5, 6, 7, 8, 9, 10, 11, 0] dX12_layBoxes_139 (by decide) rfl ?_
  refine tr_iload (i := 11) dX12_layBoxes_141 rfl ?_
  refine tr_aload_n (i := 0) dX12_layBoxes_143 rfl ?_
  refine tr_getR 12 h0 fl_X12_9 (by decide +kernel) dX12_layBoxes_144 ?_
  refine tr_iload (i := 8) dX12_layBoxes_147 rfl ?_
  refine tr_iconst (v := 5) dX12_layBoxes_149 (by decide +kernel) ?_
  refine tr_c_i (ms_cS (rest := [.ref (ms_rf l0 0), .int t0]) (al := [.int l8, .int 5]) (sp_X12_of G hG (d - 1) (by omega) σ l8 5) kl_X12_114 fs_X12_of dX12_layBoxes_150 (show _ = some 2 by decide +kernel) (by omega) (Nat.le_of_ble_eq_true rfl) (by decide) (by decide)) (fun v16 => ?_)
  refine tr_ald (rk_12_0 h0) dX12_layBoxes_153 (fun v17 => ?_)
  refine tr_isub dX12_layBoxes_154 ?_
  refine tr_istore (lv' := [(0, .ref l0), (1, .int l1), (2, .ref l2), (3, .int l3), (4, .int l4), (5, .int l5), (6, .int l6), (7, .int l7), (8, .int l8), (9, .int l9), (10, .int l10), (12, .int (t0 - v17))]) [1, 2, 3, 4, 5, 6, 7, 8, 9, 10, 11, 0] dX12_layBoxes_155 (by decide) rfl ?_
  refine tr_iload (i := 9) dX12_layBoxes_157 rfl ?_
  refine tr_ifne (o := none) (tgt := 169) dX12_layBoxes_159 (by decide) ?_ ?_
  · refine tr_iload (i := 9) dX12_layBoxes_169 rfl ?_
    refine tr_iconst (v := 1) dX12_layBoxes_171 (by decide +kernel) ?_
    refine tr_icne (o := none) (tgt := 185) dX12_layBoxes_172 (by decide) ?_ ?_
    · refine tr_iload_n (i := 3) dX12_layBoxes_185 rfl ?_
      refine tr_iconst (v := 2) dX12_layBoxes_186 (by decide +kernel) ?_
      refine tr_idiv (o := none) dX12_layBoxes_187 (fun v18 => ?_)
      exact t_X12_layBoxes_188 G hG d hd k54 hk54 σ l0 l1 l2 l3 l4 l5 l6 l7 l8 l9 l10 (t0 - v17) v18 h0 h2
    · refine tr_iload (i := 6) dX12_layBoxes_175 rfl ?_
      refine tr_iconst (v := 1) dX12_layBoxes_177 (by decide +kernel) ?_
      refine tr_isub dX12_layBoxes_178 ?_
      refine tr_iload (i := 10) dX12_layBoxes_179 rfl ?_
      refine tr_isub dX12_layBoxes_181 ?_
      refine tr_goto (tgt := 188) dX12_layBoxes_182 (by decide) ?_
      exact t_X12_layBoxes_188 G hG d hd k54 hk54 σ l0 l1 l2 l3 l4 l5 l6 l7 l8 l9 l10 (t0 - v17) ((l6 - 1) - l10) h0 h2
  · refine tr_iload (i := 5) dX12_layBoxes_162 rfl ?_
    refine tr_iconst (v := 1) dX12_layBoxes_164 (by decide +kernel) ?_
    refine tr_iadd dX12_layBoxes_165 ?_
    refine tr_goto (tgt := 188) dX12_layBoxes_166 (by decide) ?_
    exact t_X12_layBoxes_188 G hG d hd k54 hk54 σ l0 l1 l2 l3 l4 l5 l6 l7 l8 l9 l10 (t0 - v17) (l5 + 1) h0 h2
set_option maxRecDepth 100000 in
theorem t_X12_layBoxes_54 (G : MG) (hG : (g_l G).stackTraces = false) (d : Nat) (hd : 6 ≤ d)    : ∀ (n : Nat) (σ : MsSt) (l0 : Nat) (l1 : Int32) (l2 : Nat) (l3 : Int32) (l4 : Int32) (l5 : Int32) (l6 : Int32) (l7 : Int32) (h0 : ms_kd l0 = 13) (h2 : ms_kd l2 = 12), TrO G mX12_layBoxes d 0 0 0 0 ms_wv 54 [(0, .ref l0), (1, .int l1), (2, .ref l2), (3, .int l3), (4, .int l4), (5, .int l5), (6, .int l6), (7, .int l7)] [] σ (f_X12_layBoxes_54 n σ l0 l1 l2 l3 l4 l5 l6 l7) := by
  intro n
  induction n with
  | zero => exact fun _ _ _ _ _ _ _ _ _ _ _ => tr_none
  | succ n ih =>
    intro σ l0 l1 l2 l3 l4 l5 l6 l7 h0 h2
    show TrO G mX12_layBoxes d 0 0 0 0 ms_wv 54 [(0, .ref l0), (1, .int l1), (2, .ref l2), (3, .int l3), (4, .int l4), (5, .int l5), (6, .int l6), (7, .int l7)] [] σ (if l7 < (ms_i σ l2 1) then (f_X12_firstMark σ l0 l1).bind fun v9 => (ms_ald σ (ms_rf l0 10) (v9 + l7)).bind fun v10 => (f_X12_of σ v10 6).bind fun v11 => (ms_ald σ (ms_rf l0 0) v11).bind fun v12 => (f_X12_of σ v10 4).bind fun v13 => (ms_ald σ (ms_rf l0 0) v13).bind fun v14 => if v12 = 0 then (f_X12_ofBase σ l0 l1 5).bind fun v32 => f_X12_layBoxes_139 (f_X12_layBoxes_54 n) σ l0 l1 l2 l3 l4 l5 l6 l7 v10 v12 v14 v32 else if v12 = 1 then (f_X12_ofBase σ l0 l1 6).bind fun v31 => f_X12_layBoxes_139 (f_X12_layBoxes_54 n) σ l0 l1 l2 l3 l4 l5 l6 l7 v10 v12 v14 v31 else (ms_idiv l4 2).bind fun v15 => f_X12_layBoxes_139 (f_X12_layBoxes_54 n) σ l0 l1 l2 l3 l4 l5 l6 l7 v10 v12 v14 v15 else some σ)
    refine tr_iload (i := 7) dX12_layBoxes_54 rfl ?_
    refine tr_aload_n (i := 2) dX12_layBoxes_56 rfl ?_
    refine tr_getI 11 h2 fl_X12_189 (by decide +kernel) dX12_layBoxes_57 ?_
    refine tr_icge (o := none) (tgt := 360) dX12_layBoxes_60 (by decide) ?_ ?_
    · exact tr_vret rfl rfl (by decide) (by decide) dX12_layBoxes_360
    · refine tr_aload_n (i := 0) dX12_layBoxes_63 rfl ?_
      refine tr_getR 12 h0 fl_X12_31 (by decide +kernel) dX12_layBoxes_64 ?_
      refine tr_aload_n (i := 0) dX12_layBoxes_67 rfl ?_
      refine tr_iload_n (i := 1) dX12_layBoxes_68 rfl ?_
      refine tr_c_i (ms_cV (rest := [.ref (ms_rf l0 10)]) (al := [.int l1]) 12 (sp_X12_firstMark G hG (d - 1) (by omega) σ l0 l1 h0) h0 (by decide +kernel) kl_X12_174 fv_X12_firstMark dX12_layBoxes_69 (show _ = some 1 by decide +kernel) (by omega) (Nat.le_of_ble_eq_true rfl) (by decide) (by decide)) (fun v9 => ?_)
      refine tr_iload (i := 7) dX12_layBoxes_72 rfl ?_
      refine tr_iadd dX12_layBoxes_74 ?_
      refine tr_ald (rk_12_10 h0) dX12_layBoxes_75 (fun v10 => ?_)
      refine tr_istore (lv' := [(0, .ref l0), (1, .int l1), (2, .ref l2), (3, .int l3), (4, .int l4), (5, .int l5), (6, .int l6), (7, .int l7), (8, .int v10)]) [1, 2, 3, 4, 5, 6, 7, 8, 0] dX12_layBoxes_76 (by decide) rfl ?_
      refine tr_aload_n (i := 0) dX12_layBoxes_78 rfl ?_
      refine tr_getR 12 h0 fl_X12_9 (by decide +kernel) dX12_layBoxes_79 ?_
      refine tr_iload (i := 8) dX12_layBoxes_82 rfl ?_
      refine tr_bipush (v := 6) dX12_layBoxes_84 (by decide +kernel) ?_
      refine tr_c_i (ms_cS (rest := [.ref (ms_rf l0 0)]) (al := [.int v10, .int 6]) (sp_X12_of G hG (d - 1) (by omega) σ v10 6) kl_X12_114 fs_X12_of dX12_layBoxes_86 (show _ = some 2 by decide +kernel) (by omega) (Nat.le_of_ble_eq_true rfl) (by decide) (by decide)) (fun v11 => ?_)
      refine tr_ald (rk_12_0 h0) dX12_layBoxes_89 (fun v12 => ?_)
      refine tr_istore (lv' := [(0, .ref l0), (1, .int l1), (2, .ref l2), (3, .int l3), (4, .int l4), (5, .int l5), (6, .int l6), (7, .int l7), (8, .int v10), (9, .int v12)]) [1, 2, 3, 4, 5, 6, 7, 8, 9, 0] dX12_layBoxes_90 (by decide) rfl ?_
      refine tr_aload_n (i := 0) dX12_layBoxes_92 rfl ?_
      refine tr_getR 12 h0 fl_X12_9 (by decide +kernel) dX12_layBoxes_93 ?_
      refine tr_iload (i := 8) dX12_layBoxes_96 rfl ?_
      refine tr_iconst (v := 4) dX12_layBoxes_98 (by decide +kernel) ?_
      refine tr_c_i (ms_cS (rest := [.ref (ms_rf l0 0)]) (al := [.int v10, .int 4]) (sp_X12_of G hG (d - 1) (by omega) σ v10 4) kl_X12_114 fs_X12_of dX12_layBoxes_99 (show _ = some 2 by decide +kernel) (by omega) (Nat.le_of_ble_eq_true rfl) (by decide) (by decide)) (fun v13 => ?_)
      refine tr_ald (rk_12_0 h0) dX12_layBoxes_102 (fun v14 => ?_)
      refine tr_istore (lv' := [(0, .ref l0), (1, .int l1), (2, .ref l2), (3, .int l3), (4, .int l4), (5, .int l5), (6, .int l6), (7, .int l7), (8, .int v10), (9, .int v12), (10, .int v14)]) [1, 2, 3, 4, 5, 6, 7, 8, 9, 10, 0] dX12_layBoxes_103 (by decide) rfl ?_
      refine tr_iload (i := 9) dX12_layBoxes_105 rfl ?_
      refine tr_ifne (o := none) (tgt := 119) dX12_layBoxes_107 (by decide) ?_ ?_
      · refine tr_iload (i := 9) dX12_layBoxes_119 rfl ?_
        refine tr_iconst (v := 1) dX12_layBoxes_121 (by decide +kernel) ?_
        refine tr_icne (o := none) (tgt := 135) dX12_layBoxes_122 (by decide) ?_ ?_
        · refine tr_iload (i := 4) dX12_layBoxes_135 rfl ?_
          refine tr_iconst (v := 2) dX12_layBoxes_137 (by decide +kernel) ?_
          refine tr_idiv (o := none) dX12_layBoxes_138 (fun v15 => ?_)
          exact t_X12_layBoxes_139 G hG d hd (f_X12_layBoxes_54 n) (fun s y0 y1 y2 y3 y4 y5 y6 y7 g0 g1 => ih s y0 y1 y2 y3 y4 y5 y6 y7 g0 g1) σ l0 l1 l2 l3 l4 l5 l6 l7 v10 v12 v14 v15 h0 h2
        · refine tr_aload_n (i := 0) dX12_layBoxes_125 rfl ?_
          refine tr_iload_n (i := 1) dX12_layBoxes_126 rfl ?_
          refine tr_bipush (v := 6) dX12_layBoxes_127 (by decide +kernel) ?_
          refine tr_c_i (ms_cV (rest := []) (al := [.int l1, .int 6]) 12 (sp_X12_ofBase G hG (d - 1) (by omega) σ l0 l1 6 h0) h0 (by decide +kernel) kl_X12_177 fv_X12_ofBase dX12_layBoxes_129 (show _ = some 2 by decide +kernel) (by omega) (Nat.le_of_ble_eq_true rfl) (by decide) (by decide)) (fun v31 => ?_)
          refine tr_goto (tgt := 139) dX12_layBoxes_132 (by decide) ?_
          exact t_X12_layBoxes_139 G hG d hd (f_X12_layBoxes_54 n) (fun s y0 y1 y2 y3 y4 y5 y6 y7 g0 g1 => ih s y0 y1 y2 y3 y4 y5 y6 y7 g0 g1) σ l0 l1 l2 l3 l4 l5 l6 l7 v10 v12 v14 v31 h0 h2
      · refine tr_aload_n (i := 0) dX12_layBoxes_110 rfl ?_
        refine tr_iload_n (i := 1) dX12_layBoxes_111 rfl ?_
        refine tr_iconst (v := 5) dX12_layBoxes_112 (by decide +kernel) ?_
        refine tr_c_i (ms_cV (rest := []) (al := [.int l1, .int 5]) 12 (sp_X12_ofBase G hG (d - 1) (by omega) σ l0 l1 5 h0) h0 (by decide +kernel) kl_X12_177 fv_X12_ofBase dX12_layBoxes_113 (show _ = some 2 by decide +kernel) (by omega) (Nat.le_of_ble_eq_true rfl) (by decide) (by decide)) (fun v32 => ?_)
        refine tr_goto (tgt := 139) dX12_layBoxes_116 (by decide) ?_
        exact t_X12_layBoxes_139 G hG d hd (f_X12_layBoxes_54 n) (fun s y0 y1 y2 y3 y4 y5 y6 y7 g0 g1 => ih s y0 y1 y2 y3 y4 y5 y6 y7 g0 g1) σ l0 l1 l2 l3 l4 l5 l6 l7 v10 v12 v14 v32 h0 h2
set_option maxRecDepth 100000 in
theorem sp_X12_layBoxes (G : MG) (hG : (g_l G).stackTraces = false) (d : Nat) (hd : 6 ≤ d)   (σ : MsSt) (l0 : Nat) (l1 : Int32) (l2 : Nat) (h0 : ms_kd l0 = 13) (h2 : ms_kd l2 = 12) : MsSpec G mX12_layBoxes d 0 0 [.ref l0, .int l1, .ref l2] σ ms_wv (f_X12_layBoxes σ l0 l1 l2) := by
  refine ms_start (by decide +kernel) rfl rfl (Nat.le_of_ble_eq_true rfl) ?_
  show TrO G mX12_layBoxes d 0 0 0 0 ms_wv 0 [(0, .ref l0), (1, .int l1), (2, .ref l2)] [] σ ((f_X12_ofBase σ l0 l1 4).bind fun v1 => (f_X12_ofBase σ l0 l1 3).bind fun v2 => (f_X12_marksOf σ l0 l1).bind fun v3 => ms_nm (ms_si σ l2 1 v3) fun s4 => ms_nm (ms_si s4 l2 2 0) fun s5 => ms_nm (ms_si s5 l2 3 v2) fun s6 => ms_nm (ms_si s6 l2 4 v1) fun s7 => ms_nm (ms_si s7 l2 5 0) fun s8 => f_X12_layBoxes_54 ms_fuel s8 l0 l1 l2 v1 v2 v1 0 0)
  refine tr_aload_n (i := 0) dX12_layBoxes_0 rfl ?_
  refine tr_iload_n (i := 1) dX12_layBoxes_1 rfl ?_
  refine tr_iconst (v := 4) dX12_layBoxes_2 (by decide +kernel) ?_
  refine tr_c_i (ms_cV (rest := []) (al := [.int l1, .int 4]) 12 (sp_X12_ofBase G hG (d - 1) (by omega) σ l0 l1 4 h0) h0 (by decide +kernel) kl_X12_177 fv_X12_ofBase dX12_layBoxes_3 (show _ = some 2 by decide +kernel) (by omega) (Nat.le_of_ble_eq_true rfl) (by decide) (by decide)) (fun v1 => ?_)
  refine tr_istore_n (lv' := [(0, .ref l0), (1, .int l1), (2, .ref l2), (3, .int v1)]) [1, 2, 3, 0] dX12_layBoxes_6 (by decide) rfl ?_
  refine tr_aload_n (i := 0) dX12_layBoxes_7 rfl ?_
  refine tr_iload_n (i := 1) dX12_layBoxes_8 rfl ?_
  refine tr_iconst (v := 3) dX12_layBoxes_9 (by decide +kernel) ?_
  refine tr_c_i (ms_cV (rest := []) (al := [.int l1, .int 3]) 12 (sp_X12_ofBase G hG (d - 1) (by omega) σ l0 l1 3 h0) h0 (by decide +kernel) kl_X12_177 fv_X12_ofBase dX12_layBoxes_10 (show _ = some 2 by decide +kernel) (by omega) (Nat.le_of_ble_eq_true rfl) (by decide) (by decide)) (fun v2 => ?_)
  refine tr_istore (lv' := [(0, .ref l0), (1, .int l1), (2, .ref l2), (3, .int v1), (4, .int v2)]) [1, 2, 3, 4, 0] dX12_layBoxes_13 (by decide) rfl ?_
  refine tr_iload_n (i := 3) dX12_layBoxes_15 rfl ?_
  refine tr_istore (lv' := [(0, .ref l0), (1, .int l1), (2, .ref l2), (3, .int v1), (4, .int v2), (5, .int v1)]) [1, 2, 3, 4, 5, 0] dX12_layBoxes_16 (by decide) rfl ?_
  refine tr_iconst (v := 0) dX12_layBoxes_18 (by decide +kernel) ?_
  refine tr_istore (lv' := [(0, .ref l0), (1, .int l1), (2, .ref l2), (3, .int v1), (4, .int v2), (5, .int v1), (6, .int 0)]) [1, 2, 3, 4, 5, 6, 0] dX12_layBoxes_19 (by decide) rfl ?_
  refine tr_aload_n (i := 2) dX12_layBoxes_21 rfl ?_
  refine tr_aload_n (i := 0) dX12_layBoxes_22 rfl ?_
  refine tr_iload_n (i := 1) dX12_layBoxes_23 rfl ?_
  refine tr_c_i (ms_cV (rest := [.ref l2]) (al := [.int l1]) 12 (sp_X12_marksOf G hG (d - 1) (by omega) σ l0 l1 h0) h0 (by decide +kernel) kl_X12_186 fv_X12_marksOf dX12_layBoxes_24 (show _ = some 1 by decide +kernel) (by omega) (Nat.le_of_ble_eq_true rfl) (by decide) (by decide)) (fun v3 => ?_)
  refine tr_putI 11 h2 fl_X12_189 (by decide +kernel) dX12_layBoxes_27 ?_
  refine ms_ltS (fun s4 => ?_)
  refine tr_aload_n (i := 2) dX12_layBoxes_30 rfl ?_
  refine tr_iconst (v := 0) dX12_layBoxes_31 (by decide +kernel) ?_
  refine tr_putI 11 h2 fl_X12_192 (by decide +kernel) dX12_layBoxes_32 ?_
  refine ms_ltS (fun s5 => ?_)
  refine tr_aload_n (i := 2) dX12_layBoxes_35 rfl ?_
  refine tr_iload (i := 4) dX12_layBoxes_36 rfl ?_
  refine tr_putI 11 h2 fl_X12_195 (by decide +kernel) dX12_layBoxes_38 ?_
  refine ms_ltS (fun s6 => ?_)
  refine tr_aload_n (i := 2) dX12_layBoxes_41 rfl ?_
  refine tr_iload_n (i := 3) dX12_layBoxes_42 rfl ?_
  refine tr_putI 11 h2 fl_X12_198 (by decide +kernel) dX12_layBoxes_43 ?_
  refine ms_ltS (fun s7 => ?_)
  refine tr_aload_n (i := 2) dX12_layBoxes_46 rfl ?_
  refine tr_iconst (v := 0) dX12_layBoxes_47 (by decide +kernel) ?_
  refine tr_putI 11 h2 fl_X12_201 (by decide +kernel) dX12_layBoxes_48 ?_
  refine ms_ltS (fun s8 => ?_)
  refine tr_iconst (v := 0) dX12_layBoxes_51 (by decide +kernel) ?_
  refine tr_istore (lv' := [(0, .ref l0), (1, .int l1), (2, .ref l2), (3, .int v1), (4, .int v2), (5, .int v1), (6, .int 0), (7, .int 0)]) [1, 2, 3, 4, 5, 6, 7, 0] dX12_layBoxes_52 (by decide) rfl ?_
  exact t_X12_layBoxes_54 G hG d hd ms_fuel s8 l0 l1 l2 v1 v2 v1 0 0 h0 h2
theorem dX12_doOverlap_0 : decode cX12_doOverlap 0 = .ok (.aload_n 0, 1) := by decide +kernel
theorem dX12_doOverlap_1 : decode cX12_doOverlap 1 = .ok (.getfield 46, 3) := by decide +kernel
theorem dX12_doOverlap_4 : decode cX12_doOverlap 4 = .ok (.getfield 204, 3) := by decide +kernel
theorem dX12_doOverlap_7 : decode cX12_doOverlap 7 = .ok (.astore 4, 2) := by decide +kernel
theorem dX12_doOverlap_9 : decode cX12_doOverlap 9 = .ok (.aload_n 0, 1) := by decide +kernel
theorem dX12_doOverlap_10 : decode cX12_doOverlap 10 = .ok (.getfield 50, 3) := by decide +kernel
theorem dX12_doOverlap_13 : decode cX12_doOverlap 13 = .ok (.getfield 204, 3) := by decide +kernel
theorem dX12_doOverlap_16 : decode cX12_doOverlap 16 = .ok (.astore 5, 2) := by decide +kernel
theorem dX12_doOverlap_18 : decode cX12_doOverlap 18 = .ok (.aload 4, 2) := by decide +kernel
theorem dX12_doOverlap_20 : decode cX12_doOverlap 20 = .ok (.iconst 4, 1) := by decide +kernel
theorem dX12_doOverlap_21 : decode cX12_doOverlap 21 = .ok (.iload_n 1, 1) := by decide +kernel
theorem dX12_doOverlap_22 : decode cX12_doOverlap 22 = .ok (.imul, 1) := by decide +kernel
theorem dX12_doOverlap_23 : decode cX12_doOverlap 23 = .ok (.iaload, 1) := by decide +kernel
theorem dX12_doOverlap_24 : decode cX12_doOverlap 24 = .ok (.aload 5, 2) := by decide +kernel
theorem dX12_doOverlap_26 : decode cX12_doOverlap 26 = .ok (.iconst 4, 1) := by decide +kernel
theorem dX12_doOverlap_27 : decode cX12_doOverlap 27 = .ok (.iload_n 2, 1) := by decide +kernel
theorem dX12_doOverlap_28 : decode cX12_doOverlap 28 = .ok (.imul, 1) := by decide +kernel
theorem dX12_doOverlap_29 : decode cX12_doOverlap 29 = .ok (.iconst 1, 1) := by decide +kernel
theorem dX12_doOverlap_30 : decode cX12_doOverlap 30 = .ok (.iadd, 1) := by decide +kernel
theorem dX12_doOverlap_31 : decode cX12_doOverlap 31 = .ok (.iaload, 1) := by decide +kernel
theorem dX12_doOverlap_32 : decode cX12_doOverlap 32 = .ok (.iload_n 3, 1) := by decide +kernel
theorem dX12_doOverlap_33 : decode cX12_doOverlap 33 = .ok (.iadd, 1) := by decide +kernel
theorem dX12_doOverlap_34 : decode cX12_doOverlap 34 = .ok (.if_icmp .ge 26, 3) := by decide +kernel
theorem dX12_doOverlap_37 : decode cX12_doOverlap 37 = .ok (.aload 5, 2) := by decide +kernel
theorem dX12_doOverlap_39 : decode cX12_doOverlap 39 = .ok (.iconst 4, 1) := by decide +kernel
theorem dX12_doOverlap_40 : decode cX12_doOverlap 40 = .ok (.iload_n 2, 1) := by decide +kernel
theorem dX12_doOverlap_41 : decode cX12_doOverlap 41 = .ok (.imul, 1) := by decide +kernel
theorem dX12_doOverlap_42 : decode cX12_doOverlap 42 = .ok (.iaload, 1) := by decide +kernel
theorem dX12_doOverlap_43 : decode cX12_doOverlap 43 = .ok (.iload_n 3, 1) := by decide +kernel
theorem dX12_doOverlap_44 : decode cX12_doOverlap 44 = .ok (.iadd, 1) := by decide +kernel
theorem dX12_doOverlap_45 : decode cX12_doOverlap 45 = .ok (.aload 4, 2) := by decide +kernel
theorem dX12_doOverlap_47 : decode cX12_doOverlap 47 = .ok (.iconst 4, 1) := by decide +kernel
theorem dX12_doOverlap_48 : decode cX12_doOverlap 48 = .ok (.iload_n 1, 1) := by decide +kernel
theorem dX12_doOverlap_49 : decode cX12_doOverlap 49 = .ok (.imul, 1) := by decide +kernel
theorem dX12_doOverlap_50 : decode cX12_doOverlap 50 = .ok (.iconst 1, 1) := by decide +kernel
theorem dX12_doOverlap_51 : decode cX12_doOverlap 51 = .ok (.iadd, 1) := by decide +kernel
theorem dX12_doOverlap_52 : decode cX12_doOverlap 52 = .ok (.iaload, 1) := by decide +kernel
theorem dX12_doOverlap_53 : decode cX12_doOverlap 53 = .ok (.if_icmp .ge 7, 3) := by decide +kernel
theorem dX12_doOverlap_56 : decode cX12_doOverlap 56 = .ok (.iconst 1, 1) := by decide +kernel
theorem dX12_doOverlap_57 : decode cX12_doOverlap 57 = .ok (.goto 4, 3) := by decide +kernel
theorem dX12_doOverlap_60 : decode cX12_doOverlap 60 = .ok (.iconst 0, 1) := by decide +kernel
theorem dX12_doOverlap_61 : decode cX12_doOverlap 61 = .ok (.istore 6, 2) := by decide +kernel
theorem dX12_doOverlap_63 : decode cX12_doOverlap 63 = .ok (.iload 6, 2) := by decide +kernel
theorem dX12_doOverlap_65 : decode cX12_doOverlap 65 = .ok (.ifCond .eq 45, 3) := by decide +kernel
theorem dX12_doOverlap_68 : decode cX12_doOverlap 68 = .ok (.aload 4, 2) := by decide +kernel
theorem dX12_doOverlap_70 : decode cX12_doOverlap 70 = .ok (.iconst 4, 1) := by decide +kernel
theorem dX12_doOverlap_71 : decode cX12_doOverlap 71 = .ok (.iload_n 1, 1) := by decide +kernel
theorem dX12_doOverlap_72 : decode cX12_doOverlap 72 = .ok (.imul, 1) := by decide +kernel
theorem dX12_doOverlap_73 : decode cX12_doOverlap 73 = .ok (.iconst 2, 1) := by decide +kernel
theorem dX12_doOverlap_74 : decode cX12_doOverlap 74 = .ok (.iadd, 1) := by decide +kernel
theorem dX12_doOverlap_75 : decode cX12_doOverlap 75 = .ok (.iaload, 1) := by decide +kernel
theorem dX12_doOverlap_76 : decode cX12_doOverlap 76 = .ok (.aload 5, 2) := by decide +kernel
theorem dX12_doOverlap_78 : decode cX12_doOverlap 78 = .ok (.iconst 4, 1) := by decide +kernel
theorem dX12_doOverlap_79 : decode cX12_doOverlap 79 = .ok (.iload_n 2, 1) := by decide +kernel
theorem dX12_doOverlap_80 : decode cX12_doOverlap 80 = .ok (.imul, 1) := by decide +kernel
theorem dX12_doOverlap_81 : decode cX12_doOverlap 81 = .ok (.iconst 3, 1) := by decide +kernel
theorem dX12_doOverlap_82 : decode cX12_doOverlap 82 = .ok (.iadd, 1) := by decide +kernel
theorem dX12_doOverlap_83 : decode cX12_doOverlap 83 = .ok (.iaload, 1) := by decide +kernel
theorem dX12_doOverlap_84 : decode cX12_doOverlap 84 = .ok (.if_icmp .ge 26, 3) := by decide +kernel
theorem dX12_doOverlap_87 : decode cX12_doOverlap 87 = .ok (.aload 5, 2) := by decide +kernel
theorem dX12_doOverlap_89 : decode cX12_doOverlap 89 = .ok (.iconst 4, 1) := by decide +kernel
theorem dX12_doOverlap_90 : decode cX12_doOverlap 90 = .ok (.iload_n 2, 1) := by decide +kernel
theorem dX12_doOverlap_91 : decode cX12_doOverlap 91 = .ok (.imul, 1) := by decide +kernel
theorem dX12_doOverlap_92 : decode cX12_doOverlap 92 = .ok (.iconst 2, 1) := by decide +kernel
theorem dX12_doOverlap_93 : decode cX12_doOverlap 93 = .ok (.iadd, 1) := by decide +kernel
theorem dX12_doOverlap_94 : decode cX12_doOverlap 94 = .ok (.iaload, 1) := by decide +kernel
theorem dX12_doOverlap_95 : decode cX12_doOverlap 95 = .ok (.aload 4, 2) := by decide +kernel
theorem dX12_doOverlap_97 : decode cX12_doOverlap 97 = .ok (.iconst 4, 1) := by decide +kernel
theorem dX12_doOverlap_98 : decode cX12_doOverlap 98 = .ok (.iload_n 1, 1) := by decide +kernel
theorem dX12_doOverlap_99 : decode cX12_doOverlap 99 = .ok (.imul, 1) := by decide +kernel
theorem dX12_doOverlap_100 : decode cX12_doOverlap 100 = .ok (.iconst 3, 1) := by decide +kernel
theorem dX12_doOverlap_101 : decode cX12_doOverlap 101 = .ok (.iadd, 1) := by decide +kernel
theorem dX12_doOverlap_102 : decode cX12_doOverlap 102 = .ok (.iaload, 1) := by decide +kernel
theorem dX12_doOverlap_103 : decode cX12_doOverlap 103 = .ok (.if_icmp .ge 7, 3) := by decide +kernel
theorem dX12_doOverlap_106 : decode cX12_doOverlap 106 = .ok (.iconst 1, 1) := by decide +kernel
theorem dX12_doOverlap_107 : decode cX12_doOverlap 107 = .ok (.goto 4, 3) := by decide +kernel
theorem dX12_doOverlap_110 : decode cX12_doOverlap 110 = .ok (.iconst 0, 1) := by decide +kernel
theorem dX12_doOverlap_111 : decode cX12_doOverlap 111 = .ok (.ireturn, 1) := by decide +kernel
set_option maxRecDepth 100000 in
theorem t_X12_doOverlap_61 (G : MG) (hG : (g_l G).stackTraces = false) (d : Nat) (hd : 0 ≤ d)   (σ : MsSt)  (l1 : Int32) (l2 : Int32) (l4 : Nat) (l5 : Nat) (t0 : Int32) (h4 : ms_kd l4 = 20) (h5 : ms_kd l5 = 20) : TrO G mX12_doOverlap d 0 0 0 0 (ms_ki σ) 61 [(1, .int l1), (2, .int l2), (4, .ref l4), (5, .ref l5)] [.int t0] σ (f_X12_doOverlap_61 σ l1 l2 l4 l5 t0) := by
  show TrO G mX12_doOverlap d 0 0 0 0 (ms_ki σ) 61 [(1, .int l1), (2, .int l2), (4, .ref l4), (5, .ref l5)] [.int t0] σ (if t0 = 0 then some 0 else (ms_ald σ l4 ((4 * l1) + 2)).bind fun v3 => (ms_ald σ l5 ((4 * l2) + 3)).bind fun v4 => if v3 < v4 then (ms_ald σ l5 ((4 * l2) + 2)).bind fun v5 => (ms_ald σ l4 ((4 * l1) + 3)).bind fun v6 => if v5 < v6 then some 1 else some 0 else some 0)
  refine tr_istore (lv' := [(1, .int l1), (2, .int l2), (4, .ref l4), (5, .ref l5), (6, .int t0)]) [1, 2, 3, 4, 0] dX12_doOverlap_61 (by decide) rfl ?_
  refine tr_iload (i := 4) dX12_doOverlap_63 rfl ?_
  refine tr_ifeq (o := none) (tgt := 110) dX12_doOverlap_65 (by decide) ?_ ?_
  · refine tr_iconst (v := 0) dX12_doOverlap_110 (by decide +kernel) ?_
    exact tr_zret rfl (by decide +kernel) rfl (by decide) (by decide) dX12_doOverlap_111
  · refine tr_aload (i := 2) dX12_doOverlap_68 rfl ?_
    refine tr_iconst (v := 4) dX12_doOverlap_70 (by decide +kernel) ?_
    refine tr_iload_n (i := 0) dX12_doOverlap_71 rfl ?_
    refine tr_imul dX12_doOverlap_72 ?_
    refine tr_iconst (v := 2) dX12_doOverlap_73 (by decide +kernel) ?_
    refine tr_iadd dX12_doOverlap_74 ?_
    refine tr_ald h4 dX12_doOverlap_75 (fun v3 => ?_)
    refine tr_aload (i := 3) dX12_doOverlap_76 rfl ?_
    refine tr_iconst (v := 4) dX12_doOverlap_78 (by decide +kernel) ?_
    refine tr_iload_n (i := 1) dX12_doOverlap_79 rfl ?_
    refine tr_imul dX12_doOverlap_80 ?_
    refine tr_iconst (v := 3) dX12_doOverlap_81 (by decide +kernel) ?_
    refine tr_iadd dX12_doOverlap_82 ?_
    refine tr_ald h5 dX12_doOverlap_83 (fun v4 => ?_)
    refine tr_icge (o := none) (tgt := 110) dX12_doOverlap_84 (by decide) ?_ ?_
    · refine tr_iconst (v := 0) dX12_doOverlap_110 (by decide +kernel) ?_
      exact tr_zret rfl (by decide +kernel) rfl (by decide) (by decide) dX12_doOverlap_111
    · refine tr_aload (i := 3) dX12_doOverlap_87 rfl ?_
      refine tr_iconst (v := 4) dX12_doOverlap_89 (by decide +kernel) ?_
      refine tr_iload_n (i := 1) dX12_doOverlap_90 rfl ?_
      refine tr_imul dX12_doOverlap_91 ?_
      refine tr_iconst (v := 2) dX12_doOverlap_92 (by decide +kernel) ?_
      refine tr_iadd dX12_doOverlap_93 ?_
      refine tr_ald h5 dX12_doOverlap_94 (fun v5 => ?_)
      refine tr_aload (i := 2) dX12_doOverlap_95 rfl ?_
      refine tr_iconst (v := 4) dX12_doOverlap_97 (by decide +kernel) ?_
      refine tr_iload_n (i := 0) dX12_doOverlap_98 rfl ?_
      refine tr_imul dX12_doOverlap_99 ?_
      refine tr_iconst (v := 3) dX12_doOverlap_100 (by decide +kernel) ?_
      refine tr_iadd dX12_doOverlap_101 ?_
      refine tr_ald h4 dX12_doOverlap_102 (fun v6 => ?_)
      refine tr_icge (o := none) (tgt := 110) dX12_doOverlap_103 (by decide) ?_ ?_
      · refine tr_iconst (v := 0) dX12_doOverlap_110 (by decide +kernel) ?_
        exact tr_zret rfl (by decide +kernel) rfl (by decide) (by decide) dX12_doOverlap_111
      · refine tr_iconst (v := 1) dX12_doOverlap_106 (by decide +kernel) ?_
        refine tr_goto (tgt := 111) dX12_doOverlap_107 (by decide) ?_
        exact tr_zret rfl (by decide +kernel) rfl (by decide) (by decide) dX12_doOverlap_111
set_option maxRecDepth 100000 in
theorem t_X12_doOverlap_60 (G : MG) (hG : (g_l G).stackTraces = false) (d : Nat) (hd : 0 ≤ d)   (σ : MsSt)  (l1 : Int32) (l2 : Int32) (l4 : Nat) (l5 : Nat) (h4 : ms_kd l4 = 20) (h5 : ms_kd l5 = 20) : TrO G mX12_doOverlap d 0 0 0 0 (ms_ki σ) 60 [(1, .int l1), (2, .int l2), (4, .ref l4), (5, .ref l5)] [] σ (f_X12_doOverlap_60 σ l1 l2 l4 l5) := by
  show TrO G mX12_doOverlap d 0 0 0 0 (ms_ki σ) 60 [(1, .int l1), (2, .int l2), (4, .ref l4), (5, .ref l5)] [] σ (f_X12_doOverlap_61 σ l1 l2 l4 l5 0)
  refine tr_iconst (v := 0) dX12_doOverlap_60 (by decide +kernel) ?_
  exact t_X12_doOverlap_61 G hG d hd σ l1 l2 l4 l5 0 h4 h5
set_option maxRecDepth 100000 in
theorem sp_X12_doOverlap (G : MG) (hG : (g_l G).stackTraces = false) (d : Nat) (hd : 0 ≤ d)   (σ : MsSt) (l0 : Nat) (l1 : Int32) (l2 : Int32) (l3 : Int32) (h0 : ms_kd l0 = 13) : MsSpec G mX12_doOverlap d 0 0 [.ref l0, .int l1, .int l2, .int l3] σ (ms_ki σ) (f_X12_doOverlap σ l0 l1 l2 l3) := by
  refine ms_start (by decide +kernel) rfl rfl (Nat.le_of_ble_eq_true rfl) ?_
  show TrO G mX12_doOverlap d 0 0 0 0 (ms_ki σ) 0 [(0, .ref l0), (1, .int l1), (2, .int l2), (3, .int l3)] [] σ ((ms_ald σ (ms_rf (ms_rf l0 18) 0) (4 * l1)).bind fun v1 => (ms_ald σ (ms_rf (ms_rf l0 19) 0) ((4 * l2) + 1)).bind fun v2 => if v1 < (v2 + l3) then (ms_ald σ (ms_rf (ms_rf l0 19) 0) (4 * l2)).bind fun v7 => (ms_ald σ (ms_rf (ms_rf l0 18) 0) ((4 * l1) + 1)).bind fun v8 => if (v7 + l3) < v8 then f_X12_doOverlap_61 σ l1 l2 (ms_rf (ms_rf l0 18) 0) (ms_rf (ms_rf l0 19) 0) 1 else f_X12_doOverlap_60 σ l1 l2 (ms_rf (ms_rf l0 18) 0) (ms_rf (ms_rf l0 19) 0) else f_X12_doOverlap_60 σ l1 l2 (ms_rf (ms_rf l0 18) 0) (ms_rf (ms_rf l0 19) 0))
  refine tr_aload_n (i := 0) dX12_doOverlap_0 rfl ?_
  refine tr_getR 12 h0 fl_X12_46 (by decide +kernel) dX12_doOverlap_1 ?_
  refine tr_getR 11 (rk_12_18 h0) fl_X12_204 (by decide +kernel) dX12_doOverlap_4 ?_
  refine tr_astore (lv' := [(0, .ref l0), (1, .int l1), (2, .int l2), (3, .int l3), (4, .ref (ms_rf (ms_rf l0 18) 0))]) [1, 2, 3, 4, 0] dX12_doOverlap_7 (by decide) rfl ?_
  refine tr_aload_n (i := 0) dX12_doOverlap_9 rfl ?_
  refine tr_getR 12 h0 fl_X12_50 (by decide +kernel) dX12_doOverlap_10 ?_
  refine tr_getR 11 (rk_12_19 h0) fl_X12_204 (by decide +kernel) dX12_doOverlap_13 ?_
  refine tr_astore (lv' := [(1, .int l1), (2, .int l2), (3, .int l3), (4, .ref (ms_rf (ms_rf l0 18) 0)), (5, .ref (ms_rf (ms_rf l0 19) 0))]) [2, 3, 4, 5, 0] dX12_doOverlap_16 (by decide) rfl ?_
  refine tr_aload (i := 3) dX12_doOverlap_18 rfl ?_
  refine tr_iconst (v := 4) dX12_doOverlap_20 (by decide +kernel) ?_
  refine tr_iload_n (i := 0) dX12_doOverlap_21 rfl ?_
  refine tr_imul dX12_doOverlap_22 ?_
  refine tr_ald (rk_11_0 (rk_12_18 h0)) dX12_doOverlap_23 (fun v1 => ?_)
  refine tr_aload (i := 4) dX12_doOverlap_24 rfl ?_
  refine tr_iconst (v := 4) dX12_doOverlap_26 (by decide +kernel) ?_
  refine tr_iload_n (i := 1) dX12_doOverlap_27 rfl ?_
  refine tr_imul dX12_doOverlap_28 ?_
  refine tr_iconst (v := 1) dX12_doOverlap_29 (by decide +kernel) ?_
  refine tr_iadd dX12_doOverlap_30 ?_
  refine tr_ald (rk_11_0 (rk_12_19 h0)) dX12_doOverlap_31 (fun v2 => ?_)
  refine tr_iload_n (i := 2) dX12_doOverlap_32 rfl ?_
  refine tr_iadd dX12_doOverlap_33 ?_
  refine tr_icge (o := none) (tgt := 60) dX12_doOverlap_34 (by decide) ?_ ?_
  · refine tr_weak [0, 1, 3, 4] (lv' := [(1, .int l1), (2, .int l2), (4, .ref (ms_rf (ms_rf l0 18) 0)), (5, .ref (ms_rf (ms_rf l0 19) 0))]) rfl ?_
    exact t_X12_doOverlap_60 G hG d hd σ l1 l2 (ms_rf (ms_rf l0 18) 0) (ms_rf (ms_rf l0 19) 0) (rk_11_0 (rk_12_18 h0)) (rk_11_0 (rk_12_19 h0))
  · refine tr_aload (i := 4) dX12_doOverlap_37 rfl ?_
    refine tr_iconst (v := 4) dX12_doOverlap_39 (by decide +kernel) ?_
    refine tr_iload_n (i := 1) dX12_doOverlap_40 rfl ?_
    refine tr_imul dX12_doOverlap_41 ?_
    refine tr_ald (rk_11_0 (rk_12_19 h0)) dX12_doOverlap_42 (fun v7 => ?_)
    refine tr_iload_n (i := 2) dX12_doOverlap_43 rfl ?_
    refine tr_iadd dX12_doOverlap_44 ?_
    refine tr_aload (i := 3) dX12_doOverlap_45 rfl ?_
    refine tr_iconst (v := 4) dX12_doOverlap_47 (by decide +kernel) ?_
    refine tr_iload_n (i := 0) dX12_doOverlap_48 rfl ?_
    refine tr_imul dX12_doOverlap_49 ?_
    refine tr_iconst (v := 1) dX12_doOverlap_50 (by decide +kernel) ?_
    refine tr_iadd dX12_doOverlap_51 ?_
    refine tr_ald (rk_11_0 (rk_12_18 h0)) dX12_doOverlap_52 (fun v8 => ?_)
    refine tr_icge (o := none) (tgt := 60) dX12_doOverlap_53 (by decide) ?_ ?_
    · refine tr_weak [0, 1, 3, 4] (lv' := [(1, .int l1), (2, .int l2), (4, .ref (ms_rf (ms_rf l0 18) 0)), (5, .ref (ms_rf (ms_rf l0 19) 0))]) rfl ?_
      exact t_X12_doOverlap_60 G hG d hd σ l1 l2 (ms_rf (ms_rf l0 18) 0) (ms_rf (ms_rf l0 19) 0) (rk_11_0 (rk_12_18 h0)) (rk_11_0 (rk_12_19 h0))
    · refine tr_iconst (v := 1) dX12_doOverlap_56 (by decide +kernel) ?_
      refine tr_goto (tgt := 61) dX12_doOverlap_57 (by decide) ?_
      refine tr_weak [0, 1, 3, 4] (lv' := [(1, .int l1), (2, .int l2), (4, .ref (ms_rf (ms_rf l0 18) 0)), (5, .ref (ms_rf (ms_rf l0 19) 0))]) rfl ?_
      exact t_X12_doOverlap_61 G hG d hd σ l1 l2 (ms_rf (ms_rf l0 18) 0) (ms_rf (ms_rf l0 19) 0) 1 (rk_11_0 (rk_12_18 h0)) (rk_11_0 (rk_12_19 h0))
theorem dX12_isClash_0 : decode cX12_isClash 0 = .ok (.aload_n 0, 1) := by decide +kernel
theorem dX12_isClash_1 : decode cX12_isClash 1 = .ok (.iload_n 1, 1) := by decide +kernel
theorem dX12_isClash_2 : decode cX12_isClash 2 = .ok (.aload_n 0, 1) := by decide +kernel
theorem dX12_isClash_3 : decode cX12_isClash 3 = .ok (.getfield 46, 3) := by decide +kernel
theorem dX12_isClash_6 : decode cX12_isClash 6 = .ok (.invokevirtual 215, 3) := by decide +kernel
theorem dX12_isClash_9 : decode cX12_isClash 9 = .ok (.aload_n 0, 1) := by decide +kernel
theorem dX12_isClash_10 : decode cX12_isClash 10 = .ok (.iload_n 1, 1) := by decide +kernel
theorem dX12_isClash_11 : decode cX12_isClash 11 = .ok (.iconst 1, 1) := by decide +kernel
theorem dX12_isClash_12 : decode cX12_isClash 12 = .ok (.iadd, 1) := by decide +kernel
theorem dX12_isClash_13 : decode cX12_isClash 13 = .ok (.aload_n 0, 1) := by decide +kernel
theorem dX12_isClash_14 : decode cX12_isClash 14 = .ok (.getfield 50, 3) := by decide +kernel
theorem dX12_isClash_17 : decode cX12_isClash 17 = .ok (.invokevirtual 215, 3) := by decide +kernel
theorem dX12_isClash_20 : decode cX12_isClash 20 = .ok (.aload_n 0, 1) := by decide +kernel
theorem dX12_isClash_21 : decode cX12_isClash 21 = .ok (.iload_n 1, 1) := by decide +kernel
theorem dX12_isClash_22 : decode cX12_isClash 22 = .ok (.iconst 3, 1) := by decide +kernel
theorem dX12_isClash_23 : decode cX12_isClash 23 = .ok (.invokevirtual 177, 3) := by decide +kernel
theorem dX12_isClash_26 : decode cX12_isClash 26 = .ok (.istore_n 2, 1) := by decide +kernel
theorem dX12_isClash_27 : decode cX12_isClash 27 = .ok (.iconst 0, 1) := by decide +kernel
theorem dX12_isClash_28 : decode cX12_isClash 28 = .ok (.istore_n 3, 1) := by decide +kernel
theorem dX12_isClash_29 : decode cX12_isClash 29 = .ok (.iload_n 3, 1) := by decide +kernel
theorem dX12_isClash_30 : decode cX12_isClash 30 = .ok (.aload_n 0, 1) := by decide +kernel
theorem dX12_isClash_31 : decode cX12_isClash 31 = .ok (.getfield 46, 3) := by decide +kernel
theorem dX12_isClash_34 : decode cX12_isClash 34 = .ok (.getfield 189, 3) := by decide +kernel
theorem dX12_isClash_37 : decode cX12_isClash 37 = .ok (.if_icmp .ge 43, 3) := by decide +kernel
theorem dX12_isClash_40 : decode cX12_isClash 40 = .ok (.iconst 0, 1) := by decide +kernel
theorem dX12_isClash_41 : decode cX12_isClash 41 = .ok (.istore 4, 2) := by decide +kernel
theorem dX12_isClash_43 : decode cX12_isClash 43 = .ok (.iload 4, 2) := by decide +kernel
theorem dX12_isClash_45 : decode cX12_isClash 45 = .ok (.aload_n 0, 1) := by decide +kernel
theorem dX12_isClash_46 : decode cX12_isClash 46 = .ok (.getfield 50, 3) := by decide +kernel
theorem dX12_isClash_49 : decode cX12_isClash 49 = .ok (.getfield 189, 3) := by decide +kernel
theorem dX12_isClash_52 : decode cX12_isClash 52 = .ok (.if_icmp .ge 22, 3) := by decide +kernel
theorem dX12_isClash_55 : decode cX12_isClash 55 = .ok (.aload_n 0, 1) := by decide +kernel
theorem dX12_isClash_56 : decode cX12_isClash 56 = .ok (.iload_n 3, 1) := by decide +kernel
theorem dX12_isClash_57 : decode cX12_isClash 57 = .ok (.iload 4, 2) := by decide +kernel
theorem dX12_isClash_59 : decode cX12_isClash 59 = .ok (.iload_n 2, 1) := by decide +kernel
theorem dX12_isClash_60 : decode cX12_isClash 60 = .ok (.invokevirtual 219, 3) := by decide +kernel
theorem dX12_isClash_63 : decode cX12_isClash 63 = .ok (.ifCond .eq 5, 3) := by decide +kernel
theorem dX12_isClash_66 : decode cX12_isClash 66 = .ok (.iconst 1, 1) := by decide +kernel
theorem dX12_isClash_67 : decode cX12_isClash 67 = .ok (.ireturn, 1) := by decide +kernel
theorem dX12_isClash_68 : decode cX12_isClash 68 = .ok (.iinc 4 1, 3) := by decide +kernel
theorem dX12_isClash_71 : decode cX12_isClash 71 = .ok (.goto (-28), 3) := by decide +kernel
theorem dX12_isClash_74 : decode cX12_isClash 74 = .ok (.iinc 3 1, 3) := by decide +kernel
theorem dX12_isClash_77 : decode cX12_isClash 77 = .ok (.goto (-48), 3) := by decide +kernel
theorem dX12_isClash_80 : decode cX12_isClash 80 = .ok (.iconst 0, 1) := by decide +kernel
theorem dX12_isClash_81 : decode cX12_isClash 81 = .ok (.ireturn, 1) := by decide +kernel
set_option maxRecDepth 100000 in
theorem t_X12_isClash_43 (G : MG) (hG : (g_l G).stackTraces = false) (d : Nat) (hd : 7 ≤ d)   (k29 : MsSt → Nat → Int32 → Int32 → Option (Int32 × MsSt)) (hk29 : ∀ (s : MsSt) (x1 : Nat) (x2 : Int32) (x3 : Int32), ms_kd x1 = 13 → TrO G mX12_isClash d 0 0 0 0 ms_wi 29 [(0, .ref x1), (2, .int x2), (3, .int x3)] [] s (k29 s x1 x2 x3)) : ∀ (n : Nat) (σ : MsSt) (l0 : Nat) (l2 : Int32) (l3 : Int32) (l4 : Int32) (h0 : ms_kd l0 = 13), TrO G mX12_isClash d 0 0 0 0 ms_wi 43 [(0, .ref l0), (2, .int l2), (3, .int l3), (4, .int l4)] [] σ (f_X12_isClash_43 k29 n σ l0 l2 l3 l4) := by
  intro n
  induction n with
  | zero => exact fun _ _ _ _ _ _ => tr_none
  | succ n ih =>
    intro σ l0 l2 l3 l4 h0
    show TrO G mX12_isClash d 0 0 0 0 ms_wi 43 [(0, .ref l0), (2, .int l2), (3, .int l3), (4, .int l4)] [] σ (if l4 < (ms_i σ (ms_rf l0 19) 1) then (f_X12_doOverlap σ l0 l3 l4 l2).bind fun v4 => if v4 = 0 then (f_X12_isClash_43 k29 n) σ l0 l2 l3 (l4 + 1) else some (1, σ) else k29 σ l0 l2 (l3 + 1))
    refine tr_iload (i := 3) dX12_isClash_43 rfl ?_
    refine tr_aload_n (i := 0) dX12_isClash_45 rfl ?_
    refine tr_getR 12 h0 fl_X12_50 (by decide +kernel) dX12_isClash_46 ?_
    refine tr_getI 11 (rk_12_19 h0) fl_X12_189 (by decide +kernel) dX12_isClash_49 ?_
    refine tr_icge (o := none) (tgt := 74) dX12_isClash_52 (by decide) ?_ ?_
    · refine tr_iinc (k := 2) (v := (l3 + 1)) (lv' := [(0, .ref l0), (2, .int l2), (3, .int (l3 + 1))]) [1, 2, 0] dX12_isClash_74 rfl rfl (by decide) rfl ?_
      refine tr_goto (tgt := 29) dX12_isClash_77 (by decide) ?_
      exact hk29 σ l0 l2 (l3 + 1) h0
    · refine tr_aload_n (i := 0) dX12_isClash_55 rfl ?_
      refine tr_iload_n (i := 2) dX12_isClash_56 rfl ?_
      refine tr_iload (i := 3) dX12_isClash_57 rfl ?_
      refine tr_iload_n (i := 1) dX12_isClash_59 rfl ?_
      refine tr_c_i (ms_cV (rest := []) (al := [.int l3, .int l4, .int l2]) 12 (sp_X12_doOverlap G hG (d - 1) (by omega) σ l0 l3 l4 l2 h0) h0 (by decide +kernel) kl_X12_219 fv_X12_doOverlap dX12_isClash_60 (show _ = some 3 by decide +kernel) (by omega) (Nat.le_of_ble_eq_true rfl) (by decide) (by decide)) (fun v4 => ?_)
      refine tr_ifeq (o := none) (tgt := 68) dX12_isClash_63 (by decide) ?_ ?_
      · refine tr_iinc (k := 3) (v := (l4 + 1)) (lv' := [(0, .ref l0), (2, .int l2), (3, .int l3), (4, .int (l4 + 1))]) [1, 2, 3, 0] dX12_isClash_68 rfl rfl (by decide) rfl ?_
        refine tr_goto (tgt := 43) dX12_isClash_71 (by decide) ?_
        exact (fun s y0 y1 y2 y3 g0 => ih s y0 y1 y2 y3 g0) σ l0 l2 l3 (l4 + 1) h0
      · refine tr_iconst (v := 1) dX12_isClash_66 (by decide +kernel) ?_
        exact tr_zret rfl (by decide +kernel) rfl (by decide) (by decide) dX12_isClash_67
set_option maxRecDepth 100000 in
theorem t_X12_isClash_29 (G : MG) (hG : (g_l G).stackTraces = false) (d : Nat) (hd : 7 ≤ d)    : ∀ (n : Nat) (σ : MsSt) (l0 : Nat) (l2 : Int32) (l3 : Int32) (h0 : ms_kd l0 = 13), TrO G mX12_isClash d 0 0 0 0 ms_wi 29 [(0, .ref l0), (2, .int l2), (3, .int l3)] [] σ (f_X12_isClash_29 n σ l0 l2 l3) := by
  intro n
  induction n with
  | zero => exact fun _ _ _ _ _ => tr_none
  | succ n ih =>
    intro σ l0 l2 l3 h0
    show TrO G mX12_isClash d 0 0 0 0 ms_wi 29 [(0, .ref l0), (2, .int l2), (3, .int l3)] [] σ (if l3 < (ms_i σ (ms_rf l0 18) 1) then f_X12_isClash_43 (f_X12_isClash_29 n) ms_fuel σ l0 l2 l3 0 else some (0, σ))
    refine tr_iload_n (i := 2) dX12_isClash_29 rfl ?_
    refine tr_aload_n (i := 0) dX12_isClash_30 rfl ?_
    refine tr_getR 12 h0 fl_X12_46 (by decide +kernel) dX12_isClash_31 ?_
    refine tr_getI 11 (rk_12_18 h0) fl_X12_189 (by decide +kernel) dX12_isClash_34 ?_
    refine tr_icge (o := none) (tgt := 80) dX12_isClash_37 (by decide) ?_ ?_
    · refine tr_iconst (v := 0) dX12_isClash_80 (by decide +kernel) ?_
      exact tr_zret rfl (by decide +kernel) rfl (by decide) (by decide) dX12_isClash_81
    · refine tr_iconst (v := 0) dX12_isClash_40 (by decide +kernel) ?_
      refine tr_istore (lv' := [(0, .ref l0), (2, .int l2), (3, .int l3), (4, .int 0)]) [1, 2, 3, 0] dX12_isClash_41 (by decide) rfl ?_
      exact t_X12_isClash_43 G hG d hd (f_X12_isClash_29 n) (fun s y0 y1 y2 g0 => ih s y0 y1 y2 g0) ms_fuel σ l0 l2 l3 0 h0
set_option maxRecDepth 100000 in
theorem sp_X12_isClash (G : MG) (hG : (g_l G).stackTraces = false) (d : Nat) (hd : 7 ≤ d)   (σ : MsSt) (l0 : Nat) (l1 : Int32) (h0 : ms_kd l0 = 13) : MsSpec G mX12_isClash d 0 0 [.ref l0, .int l1] σ ms_wi (f_X12_isClash σ l0 l1) := by
  refine ms_start (by decide +kernel) rfl rfl (Nat.le_of_ble_eq_true rfl) ?_
  show TrO G mX12_isClash d 0 0 0 0 ms_wi 0 [(0, .ref l0), (1, .int l1)] [] σ ((f_X12_layBoxes σ l0 l1 (ms_rf l0 18)).bind fun s1 => (f_X12_layBoxes s1 l0 (l1 + 1) (ms_rf l0 19)).bind fun s2 => (f_X12_ofBase s2 l0 l1 3).bind fun v3 => f_X12_isClash_29 ms_fuel s2 l0 v3 0)
  refine tr_aload_n (i := 0) dX12_isClash_0 rfl ?_
  refine tr_iload_n (i := 1) dX12_isClash_1 rfl ?_
  refine tr_aload_n (i := 0) dX12_isClash_2 rfl ?_
  refine tr_getR 12 h0 fl_X12_46 (by decide +kernel) dX12_isClash_3 ?_
  refine tr_c_wv (ms_cV (rest := []) (al := [.int l1, .ref (ms_rf l0 18)]) 12 (sp_X12_layBoxes G hG (d - 1) (by omega) σ l0 l1 (ms_rf l0 18) h0 (rk_12_18 h0)) h0 (by decide +kernel) kl_X12_215 fv_X12_layBoxes dX12_isClash_6 (show _ = some 2 by decide +kernel) (by omega) (Nat.le_of_ble_eq_true rfl) (by decide) (by decide)) (fun s1 => ?_)
  refine tr_aload_n (i := 0) dX12_isClash_9 rfl ?_
  refine tr_iload_n (i := 1) dX12_isClash_10 rfl ?_
  refine tr_iconst (v := 1) dX12_isClash_11 (by decide +kernel) ?_
  refine tr_iadd dX12_isClash_12 ?_
  refine tr_aload_n (i := 0) dX12_isClash_13 rfl ?_
  refine tr_getR 12 h0 fl_X12_50 (by decide +kernel) dX12_isClash_14 ?_
  refine tr_c_wv (ms_cV (rest := []) (al := [.int (l1 + 1), .ref (ms_rf l0 19)]) 12 (sp_X12_layBoxes G hG (d - 1) (by omega) s1 l0 (l1 + 1) (ms_rf l0 19) h0 (rk_12_19 h0)) h0 (by decide +kernel) kl_X12_215 fv_X12_layBoxes dX12_isClash_17 (show _ = some 2 by decide +kernel) (by omega) (Nat.le_of_ble_eq_true rfl) (by decide) (by decide)) (fun s2 => ?_)
  refine tr_aload_n (i := 0) dX12_isClash_20 rfl ?_
  refine tr_iload_n (i := 1) dX12_isClash_21 rfl ?_
  refine tr_iconst (v := 3) dX12_isClash_22 (by decide +kernel) ?_
  refine tr_c_i (ms_cV (rest := []) (al := [.int l1, .int 3]) 12 (sp_X12_ofBase G hG (d - 1) (by omega) s2 l0 l1 3 h0) h0 (by decide +kernel) kl_X12_177 fv_X12_ofBase dX12_isClash_23 (show _ = some 2 by decide +kernel) (by omega) (Nat.le_of_ble_eq_true rfl) (by decide) (by decide)) (fun v3 => ?_)
  refine tr_istore_n (lv' := [(0, .ref l0), (2, .int v3)]) [1, 0] dX12_isClash_26 (by decide) rfl ?_
  refine tr_iconst (v := 0) dX12_isClash_27 (by decide +kernel) ?_
  refine tr_istore_n (lv' := [(0, .ref l0), (2, .int v3), (3, .int 0)]) [1, 2, 0] dX12_isClash_28 (by decide) rfl ?_
  exact t_X12_isClash_29 G hG d hd ms_fuel s2 l0 v3 0 h0
theorem dX12_manyOf_0 : decode cX12_manyOf 0 = .ok (.iconst 0, 1) := by decide +kernel
theorem dX12_manyOf_1 : decode cX12_manyOf 1 = .ok (.istore_n 2, 1) := by decide +kernel
theorem dX12_manyOf_2 : decode cX12_manyOf 2 = .ok (.iconst 0, 1) := by decide +kernel
theorem dX12_manyOf_3 : decode cX12_manyOf 3 = .ok (.istore_n 3, 1) := by decide +kernel
theorem dX12_manyOf_4 : decode cX12_manyOf 4 = .ok (.iload_n 3, 1) := by decide +kernel
theorem dX12_manyOf_5 : decode cX12_manyOf 5 = .ok (.aload_n 0, 1) := by decide +kernel
theorem dX12_manyOf_6 : decode cX12_manyOf 6 = .ok (.getfield 9, 3) := by decide +kernel
theorem dX12_manyOf_9 : decode cX12_manyOf 9 = .ok (.iconst 0, 1) := by decide +kernel
theorem dX12_manyOf_10 : decode cX12_manyOf 10 = .ok (.iaload, 1) := by decide +kernel
theorem dX12_manyOf_11 : decode cX12_manyOf 11 = .ok (.if_icmp .ge 26, 3) := by decide +kernel
theorem dX12_manyOf_14 : decode cX12_manyOf 14 = .ok (.iload_n 2, 1) := by decide +kernel
theorem dX12_manyOf_15 : decode cX12_manyOf 15 = .ok (.aload_n 0, 1) := by decide +kernel
theorem dX12_manyOf_16 : decode cX12_manyOf 16 = .ok (.iload_n 3, 1) := by decide +kernel
theorem dX12_manyOf_17 : decode cX12_manyOf 17 = .ok (.iload_n 1, 1) := by decide +kernel
theorem dX12_manyOf_18 : decode cX12_manyOf 18 = .ok (.invokevirtual 128, 3) := by decide +kernel
theorem dX12_manyOf_21 : decode cX12_manyOf 21 = .ok (.ifCond .eq 7, 3) := by decide +kernel
theorem dX12_manyOf_24 : decode cX12_manyOf 24 = .ok (.iconst 1, 1) := by decide +kernel
theorem dX12_manyOf_25 : decode cX12_manyOf 25 = .ok (.goto 4, 3) := by decide +kernel
theorem dX12_manyOf_28 : decode cX12_manyOf 28 = .ok (.iconst 0, 1) := by decide +kernel
theorem dX12_manyOf_29 : decode cX12_manyOf 29 = .ok (.iadd, 1) := by decide +kernel
theorem dX12_manyOf_30 : decode cX12_manyOf 30 = .ok (.istore_n 2, 1) := by decide +kernel
theorem dX12_manyOf_31 : decode cX12_manyOf 31 = .ok (.iinc 3 1, 3) := by decide +kernel
theorem dX12_manyOf_34 : decode cX12_manyOf 34 = .ok (.goto (-30), 3) := by decide +kernel
theorem dX12_manyOf_37 : decode cX12_manyOf 37 = .ok (.iload_n 2, 1) := by decide +kernel
theorem dX12_manyOf_38 : decode cX12_manyOf 38 = .ok (.ireturn, 1) := by decide +kernel
set_option maxRecDepth 100000 in
theorem t_X12_manyOf_4 (G : MG) (hG : (g_l G).stackTraces = false) (d : Nat) (hd : 2 ≤ d)   (σ : MsSt)  : ∀ (n : Nat) (l0 : Nat) (l1 : Int32) (l2 : Int32) (l3 : Int32) (h0 : ms_kd l0 = 13), TrO G mX12_manyOf d 0 0 0 0 (ms_ki σ) 4 [(0, .ref l0), (1, .int l1), (2, .int l2), (3, .int l3)] [] σ (f_X12_manyOf_4 σ n l0 l1 l2 l3) := by
  intro n
  induction n with
  | zero => exact fun _ _ _ _ _ => tr_none
  | succ n ih =>
    intro l0 l1 l2 l3 h0
    show TrO G mX12_manyOf d 0 0 0 0 (ms_ki σ) 4 [(0, .ref l0), (1, .int l1), (2, .int l2), (3, .int l3)] [] σ ((ms_ald σ (ms_rf l0 0) 0).bind fun v1 => if l3 < v1 then (f_X12_isOfKind σ l0 l3 l1).bind fun v2 => if v2 = 0 then (f_X12_manyOf_4 σ n) l0 l1 (l2 + 0) (l3 + 1) else (f_X12_manyOf_4 σ n) l0 l1 (l2 + 1) (l3 + 1) else some l2)
    refine tr_iload_n (i := 3) dX12_manyOf_4 rfl ?_
    refine tr_aload_n (i := 0) dX12_manyOf_5 rfl ?_
    refine tr_getR 12 h0 fl_X12_9 (by decide +kernel) dX12_manyOf_6 ?_
    refine tr_iconst (v := 0) dX12_manyOf_9 (by decide +kernel) ?_
    refine tr_ald (rk_12_0 h0) dX12_manyOf_10 (fun v1 => ?_)
    refine tr_icge (o := none) (tgt := 37) dX12_manyOf_11 (by decide) ?_ ?_
    · refine tr_iload_n (i := 2) dX12_manyOf_37 rfl ?_
      exact tr_iret rfl rfl (by decide) (by decide) dX12_manyOf_38
    · refine tr_iload_n (i := 2) dX12_manyOf_14 rfl ?_
      refine tr_aload_n (i := 0) dX12_manyOf_15 rfl ?_
      refine tr_iload_n (i := 3) dX12_manyOf_16 rfl ?_
      refine tr_iload_n (i := 1) dX12_manyOf_17 rfl ?_
      refine tr_c_i (ms_cV (rest := [.int l2]) (al := [.int l3, .int l1]) 12 (sp_X12_isOfKind G hG (d - 1) (by omega) σ l0 l3 l1 h0) h0 (by decide +kernel) kl_X12_128 fv_X12_isOfKind dX12_manyOf_18 (show _ = some 2 by decide +kernel) (by omega) (Nat.le_of_ble_eq_true rfl) (by decide) (by decide)) (fun v2 => ?_)
      refine tr_ifeq (o := none) (tgt := 28) dX12_manyOf_21 (by decide) ?_ ?_
      · refine tr_iconst (v := 0) dX12_manyOf_28 (by decide +kernel) ?_
        refine tr_iadd dX12_manyOf_29 ?_
        refine tr_istore_n (lv' := [(0, .ref l0), (1, .int l1), (2, .int (l2 + 0)), (3, .int l3)]) [1, 2, 0, 3] dX12_manyOf_30 (by decide) rfl ?_
        refine tr_iinc (k := 3) (v := (l3 + 1)) (lv' := [(0, .ref l0), (1, .int l1), (2, .int (l2 + 0)), (3, .int (l3 + 1))]) [1, 2, 3, 0] dX12_manyOf_31 rfl rfl (by decide) rfl ?_
        refine tr_goto (tgt := 4) dX12_manyOf_34 (by decide) ?_
        exact (fun y0 y1 y2 y3 g0 => ih y0 y1 y2 y3 g0) l0 l1 (l2 + 0) (l3 + 1) h0
      · refine tr_iconst (v := 1) dX12_manyOf_24 (by decide +kernel) ?_
        refine tr_goto (tgt := 29) dX12_manyOf_25 (by decide) ?_
        refine tr_iadd dX12_manyOf_29 ?_
        refine tr_istore_n (lv' := [(0, .ref l0), (1, .int l1), (2, .int (l2 + 1)), (3, .int l3)]) [1, 2, 0, 3] dX12_manyOf_30 (by decide) rfl ?_
        refine tr_iinc (k := 3) (v := (l3 + 1)) (lv' := [(0, .ref l0), (1, .int l1), (2, .int (l2 + 1)), (3, .int (l3 + 1))]) [1, 2, 3, 0] dX12_manyOf_31 rfl rfl (by decide) rfl ?_
        refine tr_goto (tgt := 4) dX12_manyOf_34 (by decide) ?_
        exact (fun y0 y1 y2 y3 g0 => ih y0 y1 y2 y3 g0) l0 l1 (l2 + 1) (l3 + 1) h0
set_option maxRecDepth 100000 in
theorem sp_X12_manyOf (G : MG) (hG : (g_l G).stackTraces = false) (d : Nat) (hd : 2 ≤ d)   (σ : MsSt) (l0 : Nat) (l1 : Int32) (h0 : ms_kd l0 = 13) : MsSpec G mX12_manyOf d 0 0 [.ref l0, .int l1] σ (ms_ki σ) (f_X12_manyOf σ l0 l1) := by
  refine ms_start (by decide +kernel) rfl rfl (Nat.le_of_ble_eq_true rfl) ?_
  show TrO G mX12_manyOf d 0 0 0 0 (ms_ki σ) 0 [(0, .ref l0), (1, .int l1)] [] σ (f_X12_manyOf_4 σ ms_fuel l0 l1 0 0)
  refine tr_iconst (v := 0) dX12_manyOf_0 (by decide +kernel) ?_
  refine tr_istore_n (lv' := [(0, .ref l0), (1, .int l1), (2, .int 0)]) [1, 2, 0] dX12_manyOf_1 (by decide) rfl ?_
  refine tr_iconst (v := 0) dX12_manyOf_2 (by decide +kernel) ?_
  refine tr_istore_n (lv' := [(0, .ref l0), (1, .int l1), (2, .int 0), (3, .int 0)]) [1, 2, 3, 0] dX12_manyOf_3 (by decide) rfl ?_
  exact t_X12_manyOf_4 G hG d hd σ ms_fuel l0 l1 0 0 h0
theorem dX12_spares_0 : decode cX12_spares 0 = .ok (.iconst 0, 1) := by decide +kernel
theorem dX12_spares_1 : decode cX12_spares 1 = .ok (.istore_n 1, 1) := by decide +kernel
theorem dX12_spares_2 : decode cX12_spares 2 = .ok (.iconst 0, 1) := by decide +kernel
theorem dX12_spares_3 : decode cX12_spares 3 = .ok (.istore_n 2, 1) := by decide +kernel
theorem dX12_spares_4 : decode cX12_spares 4 = .ok (.iload_n 2, 1) := by decide +kernel
theorem dX12_spares_5 : decode cX12_spares 5 = .ok (.aload_n 0, 1) := by decide +kernel
theorem dX12_spares_6 : decode cX12_spares 6 = .ok (.getfield 9, 3) := by decide +kernel
theorem dX12_spares_9 : decode cX12_spares 9 = .ok (.iconst 0, 1) := by decide +kernel
theorem dX12_spares_10 : decode cX12_spares 10 = .ok (.iaload, 1) := by decide +kernel
theorem dX12_spares_11 : decode cX12_spares 11 = .ok (.if_icmp .ge 35, 3) := by decide +kernel
theorem dX12_spares_14 : decode cX12_spares 14 = .ok (.iload_n 1, 1) := by decide +kernel
theorem dX12_spares_15 : decode cX12_spares 15 = .ok (.aload_n 0, 1) := by decide +kernel
theorem dX12_spares_16 : decode cX12_spares 16 = .ok (.iload_n 2, 1) := by decide +kernel
theorem dX12_spares_17 : decode cX12_spares 17 = .ok (.iconst 2, 1) := by decide +kernel
theorem dX12_spares_18 : decode cX12_spares 18 = .ok (.invokevirtual 128, 3) := by decide +kernel
theorem dX12_spares_21 : decode cX12_spares 21 = .ok (.ifCond .eq 16, 3) := by decide +kernel
theorem dX12_spares_24 : decode cX12_spares 24 = .ok (.aload_n 0, 1) := by decide +kernel
theorem dX12_spares_25 : decode cX12_spares 25 = .ok (.getfield 9, 3) := by decide +kernel
theorem dX12_spares_28 : decode cX12_spares 28 = .ok (.iload_n 2, 1) := by decide +kernel
theorem dX12_spares_29 : decode cX12_spares 29 = .ok (.iconst 5, 1) := by decide +kernel
theorem dX12_spares_30 : decode cX12_spares 30 = .ok (.invokestatic 114, 3) := by decide +kernel
theorem dX12_spares_33 : decode cX12_spares 33 = .ok (.iaload, 1) := by decide +kernel
theorem dX12_spares_34 : decode cX12_spares 34 = .ok (.goto 4, 3) := by decide +kernel
theorem dX12_spares_37 : decode cX12_spares 37 = .ok (.iconst 0, 1) := by decide +kernel
theorem dX12_spares_38 : decode cX12_spares 38 = .ok (.iadd, 1) := by decide +kernel
theorem dX12_spares_39 : decode cX12_spares 39 = .ok (.istore_n 1, 1) := by decide +kernel
theorem dX12_spares_40 : decode cX12_spares 40 = .ok (.iinc 2 1, 3) := by decide +kernel
theorem dX12_spares_43 : decode cX12_spares 43 = .ok (.goto (-39), 3) := by decide +kernel
theorem dX12_spares_46 : decode cX12_spares 46 = .ok (.iload_n 1, 1) := by decide +kernel
theorem dX12_spares_47 : decode cX12_spares 47 = .ok (.ireturn, 1) := by decide +kernel
set_option maxRecDepth 100000 in
theorem t_X12_spares_4 (G : MG) (hG : (g_l G).stackTraces = false) (d : Nat) (hd : 2 ≤ d)   (σ : MsSt)  : ∀ (n : Nat) (l0 : Nat) (l1 : Int32) (l2 : Int32) (h0 : ms_kd l0 = 13), TrO G mX12_spares d 0 0 0 0 (ms_ki σ) 4 [(0, .ref l0), (1, .int l1), (2, .int l2)] [] σ (f_X12_spares_4 σ n l0 l1 l2) := by
  intro n
  induction n with
  | zero => exact fun _ _ _ _ => tr_none
  | succ n ih =>
    intro l0 l1 l2 h0
    show TrO G mX12_spares d 0 0 0 0 (ms_ki σ) 4 [(0, .ref l0), (1, .int l1), (2, .int l2)] [] σ ((ms_ald σ (ms_rf l0 0) 0).bind fun v1 => if l2 < v1 then (f_X12_isOfKind σ l0 l2 2).bind fun v2 => if v2 = 0 then (f_X12_spares_4 σ n) l0 (l1 + 0) (l2 + 1) else (f_X12_of σ l2 5).bind fun v3 => (ms_ald σ (ms_rf l0 0) v3).bind fun v4 => (f_X12_spares_4 σ n) l0 (l1 + v4) (l2 + 1) else some l1)
    refine tr_iload_n (i := 2) dX12_spares_4 rfl ?_
    refine tr_aload_n (i := 0) dX12_spares_5 rfl ?_
    refine tr_getR 12 h0 fl_X12_9 (by decide +kernel) dX12_spares_6 ?_
    refine tr_iconst (v := 0) dX12_spares_9 (by decide +kernel) ?_
    refine tr_ald (rk_12_0 h0) dX12_spares_10 (fun v1 => ?_)
    refine tr_icge (o := none) (tgt := 46) dX12_spares_11 (by decide) ?_ ?_
    · refine tr_iload_n (i := 1) dX12_spares_46 rfl ?_
      exact tr_iret rfl rfl (by decide) (by decide) dX12_spares_47
    · refine tr_iload_n (i := 1) dX12_spares_14 rfl ?_
      refine tr_aload_n (i := 0) dX12_spares_15 rfl ?_
      refine tr_iload_n (i := 2) dX12_spares_16 rfl ?_
      refine tr_iconst (v := 2) dX12_spares_17 (by decide +kernel) ?_
      refine tr_c_i (ms_cV (rest := [.int l1]) (al := [.int l2, .int 2]) 12 (sp_X12_isOfKind G hG (d - 1) (by omega) σ l0 l2 2 h0) h0 (by decide +kernel) kl_X12_128 fv_X12_isOfKind dX12_spares_18 (show _ = some 2 by decide +kernel) (by omega) (Nat.le_of_ble_eq_true rfl) (by decide) (by decide)) (fun v2 => ?_)
      refine tr_ifeq (o := none) (tgt := 37) dX12_spares_21 (by decide) ?_ ?_
      · refine tr_iconst (v := 0) dX12_spares_37 (by decide +kernel) ?_
        refine tr_iadd dX12_spares_38 ?_
        refine tr_istore_n (lv' := [(0, .ref l0), (1, .int (l1 + 0)), (2, .int l2)]) [1, 0, 2] dX12_spares_39 (by decide) rfl ?_
        refine tr_iinc (k := 2) (v := (l2 + 1)) (lv' := [(0, .ref l0), (1, .int (l1 + 0)), (2, .int (l2 + 1))]) [1, 2, 0] dX12_spares_40 rfl rfl (by decide) rfl ?_
        refine tr_goto (tgt := 4) dX12_spares_43 (by decide) ?_
        exact (fun y0 y1 y2 g0 => ih y0 y1 y2 g0) l0 (l1 + 0) (l2 + 1) h0
      · refine tr_aload_n (i := 0) dX12_spares_24 rfl ?_
        refine tr_getR 12 h0 fl_X12_9 (by decide +kernel) dX12_spares_25 ?_
        refine tr_iload_n (i := 2) dX12_spares_28 rfl ?_
        refine tr_iconst (v := 5) dX12_spares_29 (by decide +kernel) ?_
        refine tr_c_i (ms_cS (rest := [.ref (ms_rf l0 0), .int l1]) (al := [.int l2, .int 5]) (sp_X12_of G hG (d - 1) (by omega) σ l2 5) kl_X12_114 fs_X12_of dX12_spares_30 (show _ = some 2 by decide +kernel) (by omega) (Nat.le_of_ble_eq_true rfl) (by decide) (by decide)) (fun v3 => ?_)
        refine tr_ald (rk_12_0 h0) dX12_spares_33 (fun v4 => ?_)
        refine tr_goto (tgt := 38) dX12_spares_34 (by decide) ?_
        refine tr_iadd dX12_spares_38 ?_
        refine tr_istore_n (lv' := [(0, .ref l0), (1, .int (l1 + v4)), (2, .int l2)]) [1, 0, 2] dX12_spares_39 (by decide) rfl ?_
        refine tr_iinc (k := 2) (v := (l2 + 1)) (lv' := [(0, .ref l0), (1, .int (l1 + v4)), (2, .int (l2 + 1))]) [1, 2, 0] dX12_spares_40 rfl rfl (by decide) rfl ?_
        refine tr_goto (tgt := 4) dX12_spares_43 (by decide) ?_
        exact (fun y0 y1 y2 g0 => ih y0 y1 y2 g0) l0 (l1 + v4) (l2 + 1) h0
set_option maxRecDepth 100000 in
theorem sp_X12_spares (G : MG) (hG : (g_l G).stackTraces = false) (d : Nat) (hd : 2 ≤ d)   (σ : MsSt) (l0 : Nat) (h0 : ms_kd l0 = 13) : MsSpec G mX12_spares d 0 0 [.ref l0] σ (ms_ki σ) (f_X12_spares σ l0) := by
  refine ms_start (by decide +kernel) rfl rfl (Nat.le_of_ble_eq_true rfl) ?_
  show TrO G mX12_spares d 0 0 0 0 (ms_ki σ) 0 [(0, .ref l0)] [] σ (f_X12_spares_4 σ ms_fuel l0 0 0)
  refine tr_iconst (v := 0) dX12_spares_0 (by decide +kernel) ?_
  refine tr_istore_n (lv' := [(0, .ref l0), (1, .int 0)]) [1, 0] dX12_spares_1 (by decide) rfl ?_
  refine tr_iconst (v := 0) dX12_spares_2 (by decide +kernel) ?_
  refine tr_istore_n (lv' := [(0, .ref l0), (1, .int 0), (2, .int 0)]) [1, 2, 0] dX12_spares_3 (by decide) rfl ?_
  exact t_X12_spares_4 G hG d hd σ ms_fuel l0 0 0 h0
theorem dX12_size_0 : decode cX12_size 0 = .ok (.aload_n 0, 1) := by decide +kernel
theorem dX12_size_1 : decode cX12_size 1 = .ok (.iconst 0, 1) := by decide +kernel
theorem dX12_size_2 : decode cX12_size 2 = .ok (.putfield 107, 3) := by decide +kernel
theorem dX12_size_5 : decode cX12_size 5 = .ok (.iload_n 1, 1) := by decide +kernel
theorem dX12_size_6 : decode cX12_size 6 = .ok (.tableswitch 76 0 6 #[42, 49, 49, 49, 57, 62, 69], 42) := by decide +kernel
theorem dX12_size_48 : decode cX12_size 48 = .ok (.aload_n 0, 1) := by decide +kernel
theorem dX12_size_49 : decode cX12_size 49 = .ok (.getfield 9, 3) := by decide +kernel
theorem dX12_size_52 : decode cX12_size 52 = .ok (.iconst 0, 1) := by decide +kernel
theorem dX12_size_53 : decode cX12_size 53 = .ok (.iaload, 1) := by decide +kernel
theorem dX12_size_54 : decode cX12_size 54 = .ok (.ireturn, 1) := by decide +kernel
theorem dX12_size_55 : decode cX12_size 55 = .ok (.aload_n 0, 1) := by decide +kernel
theorem dX12_size_56 : decode cX12_size 56 = .ok (.iload_n 1, 1) := by decide +kernel
theorem dX12_size_57 : decode cX12_size 57 = .ok (.iconst 1, 1) := by decide +kernel
theorem dX12_size_58 : decode cX12_size 58 = .ok (.isub, 1) := by decide +kernel
theorem dX12_size_59 : decode cX12_size 59 = .ok (.invokevirtual 223, 3) := by decide +kernel
theorem dX12_size_62 : decode cX12_size 62 = .ok (.ireturn, 1) := by decide +kernel
theorem dX12_size_63 : decode cX12_size 63 = .ok (.aload_n 0, 1) := by decide +kernel
theorem dX12_size_64 : decode cX12_size 64 = .ok (.invokevirtual 226, 3) := by decide +kernel
theorem dX12_size_67 : decode cX12_size 67 = .ok (.ireturn, 1) := by decide +kernel
theorem dX12_size_68 : decode cX12_size 68 = .ok (.aload_n 0, 1) := by decide +kernel
theorem dX12_size_69 : decode cX12_size 69 = .ok (.getfield 9, 3) := by decide +kernel
theorem dX12_size_72 : decode cX12_size 72 = .ok (.iconst 1, 1) := by decide +kernel
theorem dX12_size_73 : decode cX12_size 73 = .ok (.iaload, 1) := by decide +kernel
theorem dX12_size_74 : decode cX12_size 74 = .ok (.ireturn, 1) := by decide +kernel
theorem dX12_size_75 : decode cX12_size 75 = .ok (.aload_n 0, 1) := by decide +kernel
theorem dX12_size_76 : decode cX12_size 76 = .ok (.getfield 9, 3) := by decide +kernel
theorem dX12_size_79 : decode cX12_size 79 = .ok (.iconst 2, 1) := by decide +kernel
theorem dX12_size_80 : decode cX12_size 80 = .ok (.iaload, 1) := by decide +kernel
theorem dX12_size_81 : decode cX12_size 81 = .ok (.ireturn, 1) := by decide +kernel
theorem dX12_size_82 : decode cX12_size 82 = .ok (.aload_n 0, 1) := by decide +kernel
theorem dX12_size_83 : decode cX12_size 83 = .ok (.iconst 1, 1) := by decide +kernel
theorem dX12_size_84 : decode cX12_size 84 = .ok (.invokevirtual 230, 3) := by decide +kernel
theorem dX12_size_87 : decode cX12_size 87 = .ok (.ireturn, 1) := by decide +kernel
set_option maxRecDepth 100000 in
theorem sp_X12_size (G : MG) (hG : (g_l G).stackTraces = false) (d : Nat) (hd : 3 ≤ d)   (σ : MsSt) (l0 : Nat) (l1 : Int32) (h0 : ms_kd l0 = 13) : MsSpec G mX12_size d 0 0 [.ref l0, .int l1] σ ms_wi (f_X12_size σ l0 l1) := by
  refine ms_start (by decide +kernel) rfl rfl (Nat.le_of_ble_eq_true rfl) ?_
  show TrO G mX12_size d 0 0 0 0 ms_wi 0 [(0, .ref l0), (1, .int l1)] [] σ (ms_nm (ms_si σ l0 7 0) fun s1 => if l1 = 0 then (ms_ald s1 (ms_rf l0 0) 0).bind fun v4 => some (v4, s1) else if l1 = 1 then (f_X12_manyOf s1 l0 (l1 - 1)).bind fun v5 => some (v5, s1) else if l1 = 2 then (f_X12_manyOf s1 l0 (l1 - 1)).bind fun v6 => some (v6, s1) else if l1 = 3 then (f_X12_manyOf s1 l0 (l1 - 1)).bind fun v7 => some (v7, s1) else if l1 = 4 then (f_X12_spares s1 l0).bind fun v8 => some (v8, s1) else if l1 = 5 then (ms_ald s1 (ms_rf l0 0) 1).bind fun v9 => some (v9, s1) else if l1 = 6 then (ms_ald s1 (ms_rf l0 0) 2).bind fun v10 => some (v10, s1) else ms_b2 (f_X12_raise s1 l0 1) fun v2 s3 => some (v2, s3))
  refine tr_aload_n (i := 0) dX12_size_0 rfl ?_
  refine tr_iconst (v := 0) dX12_size_1 (by decide +kernel) ?_
  refine tr_putI 12 h0 fl_X12_107 (by decide +kernel) dX12_size_2 ?_
  refine ms_ltS (fun s1 => ?_)
  refine tr_iload_n (i := 1) dX12_size_5 rfl ?_
  refine tr_tsIn (tgt := 48) (off := 42) 0 dX12_size_6 (by decide +kernel) (by decide +kernel) (by decide +kernel) (by decide) ?_ (fun n0 => ?_)
  · refine tr_aload_n (i := 0) dX12_size_48 rfl ?_
    refine tr_getR 12 h0 fl_X12_9 (by decide +kernel) dX12_size_49 ?_
    refine tr_iconst (v := 0) dX12_size_52 (by decide +kernel) ?_
    refine tr_ald (rk_12_0 h0) dX12_size_53 (fun v4 => ?_)
    exact tr_iret rfl rfl (by decide) (by decide) dX12_size_54
  refine tr_tsIn (tgt := 55) (off := 49) 1 dX12_size_6 (by decide +kernel) (by decide +kernel) (by decide +kernel) (by decide) ?_ (fun n1 => ?_)
  · refine tr_aload_n (i := 0) dX12_size_55 rfl ?_
    refine tr_iload_n (i := 1) dX12_size_56 rfl ?_
    refine tr_iconst (v := 1) dX12_size_57 (by decide +kernel) ?_
    refine tr_isub dX12_size_58 ?_
    refine tr_c_i (ms_cV (rest := []) (al := [.int (l1 - 1)]) 12 (sp_X12_manyOf G hG (d - 1) (by omega) s1 l0 (l1 - 1) h0) h0 (by decide +kernel) kl_X12_223 fv_X12_manyOf dX12_size_59 (show _ = some 1 by decide +kernel) (by omega) (Nat.le_of_ble_eq_true rfl) (by decide) (by decide)) (fun v5 => ?_)
    exact tr_iret rfl rfl (by decide) (by decide) dX12_size_62
  refine tr_tsIn (tgt := 55) (off := 49) 2 dX12_size_6 (by decide +kernel) (by decide +kernel) (by decide +kernel) (by decide) ?_ (fun n2 => ?_)
  · refine tr_aload_n (i := 0) dX12_size_55 rfl ?_
    refine tr_iload_n (i := 1) dX12_size_56 rfl ?_
    refine tr_iconst (v := 1) dX12_size_57 (by decide +kernel) ?_
    refine tr_isub dX12_size_58 ?_
    refine tr_c_i (ms_cV (rest := []) (al := [.int (l1 - 1)]) 12 (sp_X12_manyOf G hG (d - 1) (by omega) s1 l0 (l1 - 1) h0) h0 (by decide +kernel) kl_X12_223 fv_X12_manyOf dX12_size_59 (show _ = some 1 by decide +kernel) (by omega) (Nat.le_of_ble_eq_true rfl) (by decide) (by decide)) (fun v6 => ?_)
    exact tr_iret rfl rfl (by decide) (by decide) dX12_size_62
  refine tr_tsIn (tgt := 55) (off := 49) 3 dX12_size_6 (by decide +kernel) (by decide +kernel) (by decide +kernel) (by decide) ?_ (fun n3 => ?_)
  · refine tr_aload_n (i := 0) dX12_size_55 rfl ?_
    refine tr_iload_n (i := 1) dX12_size_56 rfl ?_
    refine tr_iconst (v := 1) dX12_size_57 (by decide +kernel) ?_
    refine tr_isub dX12_size_58 ?_
    refine tr_c_i (ms_cV (rest := []) (al := [.int (l1 - 1)]) 12 (sp_X12_manyOf G hG (d - 1) (by omega) s1 l0 (l1 - 1) h0) h0 (by decide +kernel) kl_X12_223 fv_X12_manyOf dX12_size_59 (show _ = some 1 by decide +kernel) (by omega) (Nat.le_of_ble_eq_true rfl) (by decide) (by decide)) (fun v7 => ?_)
    exact tr_iret rfl rfl (by decide) (by decide) dX12_size_62
  refine tr_tsIn (tgt := 63) (off := 57) 4 dX12_size_6 (by decide +kernel) (by decide +kernel) (by decide +kernel) (by decide) ?_ (fun n4 => ?_)
  · refine tr_aload_n (i := 0) dX12_size_63 rfl ?_
    refine tr_c_i (ms_cV (rest := []) (al := []) 12 (sp_X12_spares G hG (d - 1) (by omega) s1 l0 h0) h0 (by decide +kernel) kl_X12_226 fv_X12_spares dX12_size_64 (show _ = some 0 by decide +kernel) (by omega) (Nat.le_of_ble_eq_true rfl) (by decide) (by decide)) (fun v8 => ?_)
    exact tr_iret rfl rfl (by decide) (by decide) dX12_size_67
  refine tr_tsIn (tgt := 68) (off := 62) 5 dX12_size_6 (by decide +kernel) (by decide +kernel) (by decide +kernel) (by decide) ?_ (fun n5 => ?_)
  · refine tr_aload_n (i := 0) dX12_size_68 rfl ?_
    refine tr_getR 12 h0 fl_X12_9 (by decide +kernel) dX12_size_69 ?_
    refine tr_iconst (v := 1) dX12_size_72 (by decide +kernel) ?_
    refine tr_ald (rk_12_0 h0) dX12_size_73 (fun v9 => ?_)
    exact tr_iret rfl rfl (by decide) (by decide) dX12_size_74
  refine tr_tsIn (tgt := 75) (off := 69) 6 dX12_size_6 (by decide +kernel) (by decide +kernel) (by decide +kernel) (by decide) ?_ (fun n6 => ?_)
  · refine tr_aload_n (i := 0) dX12_size_75 rfl ?_
    refine tr_getR 12 h0 fl_X12_9 (by decide +kernel) dX12_size_76 ?_
    refine tr_iconst (v := 2) dX12_size_79 (by decide +kernel) ?_
    refine tr_ald (rk_12_0 h0) dX12_size_80 (fun v10 => ?_)
    exact tr_iret rfl rfl (by decide) (by decide) dX12_size_81
  refine tr_tsOut (tgt := 82) dX12_size_6 ?_ (by decide) ?_
  · have q0 := lv_neT (a := 0) n0 (by decide +kernel); have q1 := lv_neT (a := 1) n1 (by decide +kernel); have q2 := lv_neT (a := 2) n2 (by decide +kernel); have q3 := lv_neT (a := 3) n3 (by decide +kernel); have q4 := lv_neT (a := 4) n4 (by decide +kernel); have q5 := lv_neT (a := 5) n5 (by decide +kernel); have q6 := lv_neT (a := 6) n6 (by decide +kernel); omega
  refine tr_aload_n (i := 0) dX12_size_82 rfl ?_
  refine tr_iconst (v := 1) dX12_size_83 (by decide +kernel) ?_
  refine tr_d_wi (ms_cV (rest := []) (al := [.int 1]) 12 (sp_X12_raise G hG (d - 1) (by omega) s1 l0 1 h0) h0 (by decide +kernel) kl_X12_230 fv_X12_raise dX12_size_84 (show _ = some 1 by decide +kernel) (by omega) (Nat.le_of_ble_eq_true rfl) (by decide) (by decide)) (fun v2 s3 => ?_)
  exact tr_iret rfl rfl (by decide) (by decide) dX12_size_87
theorem dX12_linesWith_0 : decode cX12_linesWith 0 = .ok (.iconst 0, 1) := by decide +kernel
theorem dX12_linesWith_1 : decode cX12_linesWith 1 = .ok (.istore_n 2, 1) := by decide +kernel
theorem dX12_linesWith_2 : decode cX12_linesWith 2 = .ok (.iconst 0, 1) := by decide +kernel
theorem dX12_linesWith_3 : decode cX12_linesWith 3 = .ok (.istore_n 3, 1) := by decide +kernel
theorem dX12_linesWith_4 : decode cX12_linesWith 4 = .ok (.iload_n 3, 1) := by decide +kernel
theorem dX12_linesWith_5 : decode cX12_linesWith 5 = .ok (.aload_n 0, 1) := by decide +kernel
theorem dX12_linesWith_6 : decode cX12_linesWith 6 = .ok (.getfield 9, 3) := by decide +kernel
theorem dX12_linesWith_9 : decode cX12_linesWith 9 = .ok (.iconst 1, 1) := by decide +kernel
theorem dX12_linesWith_10 : decode cX12_linesWith 10 = .ok (.iaload, 1) := by decide +kernel
theorem dX12_linesWith_11 : decode cX12_linesWith 11 = .ok (.if_icmp .ge 74, 3) := by decide +kernel
theorem dX12_linesWith_14 : decode cX12_linesWith 14 = .ok (.iconst 0, 1) := by decide +kernel
theorem dX12_linesWith_15 : decode cX12_linesWith 15 = .ok (.istore 4, 2) := by decide +kernel
theorem dX12_linesWith_17 : decode cX12_linesWith 17 = .ok (.iconst 0, 1) := by decide +kernel
theorem dX12_linesWith_18 : decode cX12_linesWith 18 = .ok (.istore 5, 2) := by decide +kernel
theorem dX12_linesWith_20 : decode cX12_linesWith 20 = .ok (.iload 5, 2) := by decide +kernel
theorem dX12_linesWith_22 : decode cX12_linesWith 22 = .ok (.aload_n 0, 1) := by decide +kernel
theorem dX12_linesWith_23 : decode cX12_linesWith 23 = .ok (.getfield 9, 3) := by decide +kernel
theorem dX12_linesWith_26 : decode cX12_linesWith 26 = .ok (.iconst 3, 1) := by decide +kernel
theorem dX12_linesWith_27 : decode cX12_linesWith 27 = .ok (.iload_n 3, 1) := by decide +kernel
theorem dX12_linesWith_28 : decode cX12_linesWith 28 = .ok (.iadd, 1) := by decide +kernel
theorem dX12_linesWith_29 : decode cX12_linesWith 29 = .ok (.iaload, 1) := by decide +kernel
theorem dX12_linesWith_30 : decode cX12_linesWith 30 = .ok (.if_icmp .ge 36, 3) := by decide +kernel
theorem dX12_linesWith_33 : decode cX12_linesWith 33 = .ok (.iload 4, 2) := by decide +kernel
theorem dX12_linesWith_35 : decode cX12_linesWith 35 = .ok (.ifCond .ne 18, 3) := by decide +kernel
theorem dX12_linesWith_38 : decode cX12_linesWith 38 = .ok (.aload_n 0, 1) := by decide +kernel
theorem dX12_linesWith_39 : decode cX12_linesWith 39 = .ok (.getfield 9, 3) := by decide +kernel
theorem dX12_linesWith_42 : decode cX12_linesWith 42 = .ok (.iload_n 3, 1) := by decide +kernel
theorem dX12_linesWith_43 : decode cX12_linesWith 43 = .ok (.iload 5, 2) := by decide +kernel
theorem dX12_linesWith_45 : decode cX12_linesWith 45 = .ok (.invokestatic 149, 3) := by decide +kernel
theorem dX12_linesWith_48 : decode cX12_linesWith 48 = .ok (.iaload, 1) := by decide +kernel
theorem dX12_linesWith_49 : decode cX12_linesWith 49 = .ok (.iload_n 1, 1) := by decide +kernel
theorem dX12_linesWith_50 : decode cX12_linesWith 50 = .ok (.if_icmp .ne 7, 3) := by decide +kernel
theorem dX12_linesWith_53 : decode cX12_linesWith 53 = .ok (.iconst 1, 1) := by decide +kernel
theorem dX12_linesWith_54 : decode cX12_linesWith 54 = .ok (.goto 4, 3) := by decide +kernel
theorem dX12_linesWith_57 : decode cX12_linesWith 57 = .ok (.iconst 0, 1) := by decide +kernel
theorem dX12_linesWith_58 : decode cX12_linesWith 58 = .ok (.istore 4, 2) := by decide +kernel
theorem dX12_linesWith_60 : decode cX12_linesWith 60 = .ok (.iinc 5 1, 3) := by decide +kernel
theorem dX12_linesWith_63 : decode cX12_linesWith 63 = .ok (.goto (-43), 3) := by decide +kernel
theorem dX12_linesWith_66 : decode cX12_linesWith 66 = .ok (.iload_n 2, 1) := by decide +kernel
theorem dX12_linesWith_67 : decode cX12_linesWith 67 = .ok (.iload 4, 2) := by decide +kernel
theorem dX12_linesWith_69 : decode cX12_linesWith 69 = .ok (.ifCond .eq 7, 3) := by decide +kernel
theorem dX12_linesWith_72 : decode cX12_linesWith 72 = .ok (.iconst 1, 1) := by decide +kernel
theorem dX12_linesWith_73 : decode cX12_linesWith 73 = .ok (.goto 4, 3) := by decide +kernel
theorem dX12_linesWith_76 : decode cX12_linesWith 76 = .ok (.iconst 0, 1) := by decide +kernel
theorem dX12_linesWith_77 : decode cX12_linesWith 77 = .ok (.iadd, 1) := by decide +kernel
theorem dX12_linesWith_78 : decode cX12_linesWith 78 = .ok (.istore_n 2, 1) := by decide +kernel
theorem dX12_linesWith_79 : decode cX12_linesWith 79 = .ok (.iinc 3 1, 3) := by decide +kernel
theorem dX12_linesWith_82 : decode cX12_linesWith 82 = .ok (.goto (-78), 3) := by decide +kernel
theorem dX12_linesWith_85 : decode cX12_linesWith 85 = .ok (.iload_n 2, 1) := by decide +kernel
theorem dX12_linesWith_86 : decode cX12_linesWith 86 = .ok (.ireturn, 1) := by decide +kernel
set_option maxRecDepth 100000 in
theorem t_X12_linesWith_20 (G : MG) (hG : (g_l G).stackTraces = false) (d : Nat) (hd : 1 ≤ d)   (σ : MsSt) (k4 : Nat → Int32 → Int32 → Int32 → Option (Int32)) (hk4 : ∀ (x1 : Nat) (x2 : Int32) (x3 : Int32) (x4 : Int32), ms_kd x1 = 13 → TrO G mX12_linesWith d 0 0 0 0 (ms_ki σ) 4 [(0, .ref x1), (1, .int x2), (2, .int x3), (3, .int x4)] [] σ (k4 x1 x2 x3 x4)) : ∀ (n : Nat) (l0 : Nat) (l1 : Int32) (l2 : Int32) (l3 : Int32) (l4 : Int32) (l5 : Int32) (h0 : ms_kd l0 = 13), TrO G mX12_linesWith d 0 0 0 0 (ms_ki σ) 20 [(0, .ref l0), (1, .int l1), (2, .int l2), (3, .int l3), (4, .int l4), (5, .int l5)] [] σ (f_X12_linesWith_20 σ k4 n l0 l1 l2 l3 l4 l5) := by
  intro n
  induction n with
  | zero => exact fun _ _ _ _ _ _ _ => tr_none
  | succ n ih =>
    intro l0 l1 l2 l3 l4 l5 h0
    show TrO G mX12_linesWith d 0 0 0 0 (ms_ki σ) 20 [(0, .ref l0), (1, .int l1), (2, .int l2), (3, .int l3), (4, .int l4), (5, .int l5)] [] σ ((ms_ald σ (ms_rf l0 0) (3 + l3)).bind fun v2 => if l5 < v2 then if l4 = 0 then (f_X12_spot σ l3 l5).bind fun v3 => (ms_ald σ (ms_rf l0 0) v3).bind fun v4 => if v4 = l1 then (f_X12_linesWith_20 σ k4 n) l0 l1 l2 l3 1 (l5 + 1) else (f_X12_linesWith_20 σ k4 n) l0 l1 l2 l3 0 (l5 + 1) else (f_X12_linesWith_20 σ k4 n) l0 l1 l2 l3 1 (l5 + 1) else if l4 = 0 then k4 l0 l1 (l2 + 0) (l3 + 1) else k4 l0 l1 (l2 + 1) (l3 + 1))
    refine tr_iload (i := 5) dX12_linesWith_20 rfl ?_
    refine tr_aload_n (i := 0) dX12_linesWith_22 rfl ?_
    refine tr_getR 12 h0 fl_X12_9 (by decide +kernel) dX12_linesWith_23 ?_
    refine tr_iconst (v := 3) dX12_linesWith_26 (by decide +kernel) ?_
    refine tr_iload_n (i := 3) dX12_linesWith_27 rfl ?_
    refine tr_iadd dX12_linesWith_28 ?_
    refine tr_ald (rk_12_0 h0) dX12_linesWith_29 (fun v2 => ?_)
    refine tr_icge (o := none) (tgt := 66) dX12_linesWith_30 (by decide) ?_ ?_
    · refine tr_iload_n (i := 2) dX12_linesWith_66 rfl ?_
      refine tr_iload (i := 4) dX12_linesWith_67 rfl ?_
      refine tr_ifeq (o := none) (tgt := 76) dX12_linesWith_69 (by decide) ?_ ?_
      · refine tr_iconst (v := 0) dX12_linesWith_76 (by decide +kernel) ?_
        refine tr_iadd dX12_linesWith_77 ?_
        refine tr_istore_n (lv' := [(0, .ref l0), (1, .int l1), (2, .int (l2 + 0)), (3, .int l3)]) [1, 2, 0, 3] dX12_linesWith_78 (by decide) rfl ?_
        refine tr_iinc (k := 3) (v := (l3 + 1)) (lv' := [(0, .ref l0), (1, .int l1), (2, .int (l2 + 0)), (3, .int (l3 + 1))]) [1, 2, 3, 0] dX12_linesWith_79 rfl rfl (by decide) rfl ?_
        refine tr_goto (tgt := 4) dX12_linesWith_82 (by decide) ?_
        exact hk4 l0 l1 (l2 + 0) (l3 + 1) h0
      · refine tr_iconst (v := 1) dX12_linesWith_72 (by decide +kernel) ?_
        refine tr_goto (tgt := 77) dX12_linesWith_73 (by decide) ?_
        refine tr_iadd dX12_linesWith_77 ?_
        refine tr_istore_n (lv' := [(0, .ref l0), (1, .int l1), (2, .int (l2 + 1)), (3, .int l3)]) [1, 2, 0, 3] dX12_linesWith_78 (by decide) rfl ?_
        refine tr_iinc (k := 3) (v := (l3 + 1)) (lv' := [(0, .ref l0), (1, .int l1), (2, .int (l2 + 1)), (3, .int (l3 + 1))]) [1, 2, 3, 0] dX12_linesWith_79 rfl rfl (by decide) rfl ?_
        refine tr_goto (tgt := 4) dX12_linesWith_82 (by decide) ?_
        exact hk4 l0 l1 (l2 + 1) (l3 + 1) h0
    · refine tr_iload (i := 4) dX12_linesWith_33 rfl ?_
      refine tr_ifne (o := none) (tgt := 53) dX12_linesWith_35 (by decide) ?_ ?_
      · refine tr_iconst (v := 1) dX12_linesWith_53 (by decide +kernel) ?_
        refine tr_goto (tgt := 58) dX12_linesWith_54 (by decide) ?_
        refine tr_istore (lv' := [(0, .ref l0), (1, .int l1), (2, .int l2), (3, .int l3), (4, .int 1), (5, .int l5)]) [1, 2, 3, 4, 0, 5] dX12_linesWith_58 (by decide) rfl ?_
        refine tr_iinc (k := 5) (v := (l5 + 1)) (lv' := [(0, .ref l0), (1, .int l1), (2, .int l2), (3, .int l3), (4, .int 1), (5, .int (l5 + 1))]) [1, 2, 3, 4, 5, 0] dX12_linesWith_60 rfl rfl (by decide) rfl ?_
        refine tr_goto (tgt := 20) dX12_linesWith_63 (by decide) ?_
        exact (fun y0 y1 y2 y3 y4 y5 g0 => ih y0 y1 y2 y3 y4 y5 g0) l0 l1 l2 l3 1 (l5 + 1) h0
      · refine tr_aload_n (i := 0) dX12_linesWith_38 rfl ?_
        refine tr_getR 12 h0 fl_X12_9 (by decide +kernel) dX12_linesWith_39 ?_
        refine tr_iload_n (i := 3) dX12_linesWith_42 rfl ?_
        refine tr_iload (i := 5) dX12_linesWith_43 rfl ?_
        refine tr_c_i (ms_cS (rest := [.ref (ms_rf l0 0)]) (al := [.int l3, .int l5]) (sp_X12_spot G hG (d - 1) (by omega) σ l3 l5) kl_X12_149 fs_X12_spot dX12_linesWith_45 (show _ = some 2 by decide +kernel) (by omega) (Nat.le_of_ble_eq_true rfl) (by decide) (by decide)) (fun v3 => ?_)
        refine tr_ald (rk_12_0 h0) dX12_linesWith_48 (fun v4 => ?_)
        refine tr_iload_n (i := 1) dX12_linesWith_49 rfl ?_
        refine tr_icne (o := none) (tgt := 57) dX12_linesWith_50 (by decide) ?_ ?_
        · refine tr_iconst (v := 0) dX12_linesWith_57 (by decide +kernel) ?_
          refine tr_istore (lv' := [(0, .ref l0), (1, .int l1), (2, .int l2), (3, .int l3), (4, .int 0), (5, .int l5)]) [1, 2, 3, 4, 0, 5] dX12_linesWith_58 (by decide) rfl ?_
          refine tr_iinc (k := 5) (v := (l5 + 1)) (lv' := [(0, .ref l0), (1, .int l1), (2, .int l2), (3, .int l3), (4, .int 0), (5, .int (l5 + 1))]) [1, 2, 3, 4, 5, 0] dX12_linesWith_60 rfl rfl (by decide) rfl ?_
          refine tr_goto (tgt := 20) dX12_linesWith_63 (by decide) ?_
          exact (fun y0 y1 y2 y3 y4 y5 g0 => ih y0 y1 y2 y3 y4 y5 g0) l0 l1 l2 l3 0 (l5 + 1) h0
        · refine tr_iconst (v := 1) dX12_linesWith_53 (by decide +kernel) ?_
          refine tr_goto (tgt := 58) dX12_linesWith_54 (by decide) ?_
          refine tr_istore (lv' := [(0, .ref l0), (1, .int l1), (2, .int l2), (3, .int l3), (4, .int 1), (5, .int l5)]) [1, 2, 3, 4, 0, 5] dX12_linesWith_58 (by decide) rfl ?_
          refine tr_iinc (k := 5) (v := (l5 + 1)) (lv' := [(0, .ref l0), (1, .int l1), (2, .int l2), (3, .int l3), (4, .int 1), (5, .int (l5 + 1))]) [1, 2, 3, 4, 5, 0] dX12_linesWith_60 rfl rfl (by decide) rfl ?_
          refine tr_goto (tgt := 20) dX12_linesWith_63 (by decide) ?_
          exact (fun y0 y1 y2 y3 y4 y5 g0 => ih y0 y1 y2 y3 y4 y5 g0) l0 l1 l2 l3 1 (l5 + 1) h0
set_option maxRecDepth 100000 in
theorem t_X12_linesWith_4 (G : MG) (hG : (g_l G).stackTraces = false) (d : Nat) (hd : 1 ≤ d)   (σ : MsSt)  : ∀ (n : Nat) (l0 : Nat) (l1 : Int32) (l2 : Int32) (l3 : Int32) (h0 : ms_kd l0 = 13), TrO G mX12_linesWith d 0 0 0 0 (ms_ki σ) 4 [(0, .ref l0), (1, .int l1), (2, .int l2), (3, .int l3)] [] σ (f_X12_linesWith_4 σ n l0 l1 l2 l3) := by
  intro n
  induction n with
  | zero => exact fun _ _ _ _ _ => tr_none
  | succ n ih =>
    intro l0 l1 l2 l3 h0
    show TrO G mX12_linesWith d 0 0 0 0 (ms_ki σ) 4 [(0, .ref l0), (1, .int l1), (2, .int l2), (3, .int l3)] [] σ ((ms_ald σ (ms_rf l0 0) 1).bind fun v1 => if l3 < v1 then f_X12_linesWith_20 σ (f_X12_linesWith_4 σ n) ms_fuel l0 l1 l2 l3 0 0 else some l2)
    refine tr_iload_n (i := 3) dX12_linesWith_4 rfl ?_
    refine tr_aload_n (i := 0) dX12_linesWith_5 rfl ?_
    refine tr_getR 12 h0 fl_X12_9 (by decide +kernel) dX12_linesWith_6 ?_
    refine tr_iconst (v := 1) dX12_linesWith_9 (by decide +kernel) ?_
    refine tr_ald (rk_12_0 h0) dX12_linesWith_10 (fun v1 => ?_)
    refine tr_icge (o := none) (tgt := 85) dX12_linesWith_11 (by decide) ?_ ?_
    · refine tr_iload_n (i := 2) dX12_linesWith_85 rfl ?_
      exact tr_iret rfl rfl (by decide) (by decide) dX12_linesWith_86
    · refine tr_iconst (v := 0) dX12_linesWith_14 (by decide +kernel) ?_
      refine tr_istore (lv' := [(0, .ref l0), (1, .int l1), (2, .int l2), (3, .int l3), (4, .int 0)]) [1, 2, 3, 4, 0] dX12_linesWith_15 (by decide) rfl ?_
      refine tr_iconst (v := 0) dX12_linesWith_17 (by decide +kernel) ?_
      refine tr_istore (lv' := [(0, .ref l0), (1, .int l1), (2, .int l2), (3, .int l3), (4, .int 0), (5, .int 0)]) [1, 2, 3, 4, 5, 0] dX12_linesWith_18 (by decide) rfl ?_
      exact t_X12_linesWith_20 G hG d hd σ (f_X12_linesWith_4 σ n) (fun y0 y1 y2 y3 g0 => ih y0 y1 y2 y3 g0) ms_fuel l0 l1 l2 l3 0 0 h0
set_option maxRecDepth 100000 in
theorem sp_X12_linesWith (G : MG) (hG : (g_l G).stackTraces = false) (d : Nat) (hd : 1 ≤ d)   (σ : MsSt) (l0 : Nat) (l1 : Int32) (h0 : ms_kd l0 = 13) : MsSpec G mX12_linesWith d 0 0 [.ref l0, .int l1] σ (ms_ki σ) (f_X12_linesWith σ l0 l1) := by
  refine ms_start (by decide +kernel) rfl rfl (Nat.le_of_ble_eq_true rfl) ?_
  show TrO G mX12_linesWith d 0 0 0 0 (ms_ki σ) 0 [(0, .ref l0), (1, .int l1)] [] σ (f_X12_linesWith_4 σ ms_fuel l0 l1 0 0)
  refine tr_iconst (v := 0) dX12_linesWith_0 (by decide +kernel) ?_
  refine tr_istore_n (lv' := [(0, .ref l0), (1, .int l1), (2, .int 0)]) [1, 2, 0] dX12_linesWith_1 (by decide) rfl ?_
  refine tr_iconst (v := 0) dX12_linesWith_2 (by decide +kernel) ?_
  refine tr_istore_n (lv' := [(0, .ref l0), (1, .int l1), (2, .int 0), (3, .int 0)]) [1, 2, 3, 0] dX12_linesWith_3 (by decide) rfl ?_
  exact t_X12_linesWith_4 G hG d hd σ ms_fuel l0 l1 0 0 h0
theorem dX12_sign_0 : decode cX12_sign 0 = .ok (.aload_n 0, 1) := by decide +kernel
theorem dX12_sign_1 : decode cX12_sign 1 = .ok (.iload_n 1, 1) := by decide +kernel
theorem dX12_sign_2 : decode cX12_sign 2 = .ok (.invokevirtual 233, 3) := by decide +kernel
theorem dX12_sign_5 : decode cX12_sign 5 = .ok (.ifCond .eq 5, 3) := by decide +kernel
theorem dX12_sign_8 : decode cX12_sign 8 = .ok (.iconst 0, 1) := by decide +kernel
theorem dX12_sign_9 : decode cX12_sign 9 = .ok (.ireturn, 1) := by decide +kernel
theorem dX12_sign_10 : decode cX12_sign 10 = .ok (.iload_n 2, 1) := by decide +kernel
theorem dX12_sign_11 : decode cX12_sign 11 = .ok (.i2l, 1) := by decide +kernel
theorem dX12_sign_12 : decode cX12_sign 12 = .ok (.lconst 0, 1) := by decide +kernel
theorem dX12_sign_13 : decode cX12_sign 13 = .ok (.ldc2_w 236, 3) := by decide +kernel
theorem dX12_sign_16 : decode cX12_sign 16 = .ok (.invokestatic 110, 3) := by decide +kernel
theorem dX12_sign_19 : decode cX12_sign 19 = .ok (.ifCond .ne 9, 3) := by decide +kernel
theorem dX12_sign_22 : decode cX12_sign 22 = .ok (.aload_n 0, 1) := by decide +kernel
theorem dX12_sign_23 : decode cX12_sign 23 = .ok (.iconst 1, 1) := by decide +kernel
theorem dX12_sign_24 : decode cX12_sign 24 = .ok (.invokevirtual 230, 3) := by decide +kernel
theorem dX12_sign_27 : decode cX12_sign 27 = .ok (.ireturn, 1) := by decide +kernel
theorem dX12_sign_28 : decode cX12_sign 28 = .ok (.iload_n 2, 1) := by decide +kernel
theorem dX12_sign_29 : decode cX12_sign 29 = .ok (.iconst 2, 1) := by decide +kernel
theorem dX12_sign_30 : decode cX12_sign 30 = .ok (.if_icmp .ne 12, 3) := by decide +kernel
theorem dX12_sign_33 : decode cX12_sign 33 = .ok (.aload_n 0, 1) := by decide +kernel
theorem dX12_sign_34 : decode cX12_sign 34 = .ok (.getfield 9, 3) := by decide +kernel
theorem dX12_sign_37 : decode cX12_sign 37 = .ok (.iload_n 1, 1) := by decide +kernel
theorem dX12_sign_38 : decode cX12_sign 38 = .ok (.invokestatic 125, 3) := by decide +kernel
theorem dX12_sign_41 : decode cX12_sign 41 = .ok (.ireturn, 1) := by decide +kernel
theorem dX12_sign_42 : decode cX12_sign 42 = .ok (.iload_n 2, 1) := by decide +kernel
theorem dX12_sign_43 : decode cX12_sign 43 = .ok (.bipush 6, 2) := by decide +kernel
theorem dX12_sign_45 : decode cX12_sign 45 = .ok (.if_icmp .ne 20, 3) := by decide +kernel
theorem dX12_sign_48 : decode cX12_sign 48 = .ok (.aload_n 0, 1) := by decide +kernel
theorem dX12_sign_49 : decode cX12_sign 49 = .ok (.iload_n 1, 1) := by decide +kernel
theorem dX12_sign_50 : decode cX12_sign 50 = .ok (.iconst 2, 1) := by decide +kernel
theorem dX12_sign_51 : decode cX12_sign 51 = .ok (.invokevirtual 128, 3) := by decide +kernel
theorem dX12_sign_54 : decode cX12_sign 54 = .ok (.ifCond .eq 11, 3) := by decide +kernel
theorem dX12_sign_57 : decode cX12_sign 57 = .ok (.aload_n 0, 1) := by decide +kernel
theorem dX12_sign_58 : decode cX12_sign 58 = .ok (.iload_n 1, 1) := by decide +kernel
theorem dX12_sign_59 : decode cX12_sign 59 = .ok (.invokevirtual 238, 3) := by decide +kernel
theorem dX12_sign_62 : decode cX12_sign 62 = .ok (.goto 13, 3) := by decide +kernel
theorem dX12_sign_65 : decode cX12_sign 65 = .ok (.aload_n 0, 1) := by decide +kernel
theorem dX12_sign_66 : decode cX12_sign 66 = .ok (.getfield 9, 3) := by decide +kernel
theorem dX12_sign_69 : decode cX12_sign 69 = .ok (.iload_n 1, 1) := by decide +kernel
theorem dX12_sign_70 : decode cX12_sign 70 = .ok (.iload_n 2, 1) := by decide +kernel
theorem dX12_sign_71 : decode cX12_sign 71 = .ok (.invokestatic 114, 3) := by decide +kernel
theorem dX12_sign_74 : decode cX12_sign 74 = .ok (.iaload, 1) := by decide +kernel
theorem dX12_sign_75 : decode cX12_sign 75 = .ok (.ireturn, 1) := by decide +kernel
set_option maxRecDepth 100000 in
theorem sp_X12_sign (G : MG) (hG : (g_l G).stackTraces = false) (d : Nat) (hd : 3 ≤ d)   (σ : MsSt) (l0 : Nat) (l1 : Int32) (l2 : Int32) (h0 : ms_kd l0 = 13) : MsSpec G mX12_sign d 0 0 [.ref l0, .int l1, .int l2] σ ms_wi (f_X12_sign σ l0 l1 l2) := by
  refine ms_start (by decide +kernel) rfl rfl (Nat.le_of_ble_eq_true rfl) ?_
  show TrO G mX12_sign d 0 0 0 0 ms_wi 0 [(0, .ref l0), (1, .int l1), (2, .int l2)] [] σ (ms_b2 (f_X12_noSign σ l0 l1) fun v1 s2 => if v1 = 0 then (f_X12_inRange s2 l2.toInt64 0 6).bind fun v3 => if v3 = 0 then ms_b2 (f_X12_raise s2 l0 1) fun v11 s12 => some (v11, s12) else if l2 = 2 then (f_X12_parts s2 (ms_rf l0 0) l1).bind fun v10 => some (v10, s2) else if l2 = 6 then (f_X12_isOfKind s2 l0 l1 2).bind fun v6 => if v6 = 0 then (f_X12_of s2 l1 l2).bind fun v7 => (ms_ald s2 (ms_rf l0 0) v7).bind fun v8 => some (v8, s2) else (f_X12_linesWith s2 l0 l1).bind fun v9 => some (v9, s2) else (f_X12_of s2 l1 l2).bind fun v4 => (ms_ald s2 (ms_rf l0 0) v4).bind fun v5 => some (v5, s2) else some (0, s2))
  refine tr_aload_n (i := 0) dX12_sign_0 rfl ?_
  refine tr_iload_n (i := 1) dX12_sign_1 rfl ?_
  refine tr_d_wi (ms_cV (rest := []) (al := [.int l1]) 12 (sp_X12_noSign G hG (d - 1) (by omega) σ l0 l1 h0) h0 (by decide +kernel) kl_X12_233 fv_X12_noSign dX12_sign_2 (show _ = some 1 by decide +kernel) (by omega) (Nat.le_of_ble_eq_true rfl) (by decide) (by decide)) (fun v1 s2 => ?_)
  refine tr_ifeq (o := none) (tgt := 10) dX12_sign_5 (by decide) ?_ ?_
  · refine tr_iload_n (i := 2) dX12_sign_10 rfl ?_
    refine tr_i2l dX12_sign_11 ?_
    refine tr_lconst (v := 0) dX12_sign_12 (by decide +kernel) ?_
    refine tr_ldcl (v := 6) (List.mem_of_getElem? (i := 1811) (by decide +kernel)) dX12_sign_13 ?_
    refine tr_c_i (ms_cS (rest := []) (al := [.long l2.toInt64, .long 0, .long 6]) (sp_X12_inRange G hG (d - 1) (by omega) s2 l2.toInt64 0 6) kl_X12_110 fs_X12_inRange dX12_sign_16 (show _ = some 3 by decide +kernel) (by omega) (Nat.le_of_ble_eq_true rfl) (by decide) (by decide)) (fun v3 => ?_)
    refine tr_ifne (o := none) (tgt := 28) dX12_sign_19 (by decide) ?_ ?_
    · refine tr_iload_n (i := 2) dX12_sign_28 rfl ?_
      refine tr_iconst (v := 2) dX12_sign_29 (by decide +kernel) ?_
      refine tr_icne (o := none) (tgt := 42) dX12_sign_30 (by decide) ?_ ?_
      · refine tr_iload_n (i := 2) dX12_sign_42 rfl ?_
        refine tr_bipush (v := 6) dX12_sign_43 (by decide +kernel) ?_
        refine tr_icne (o := none) (tgt := 65) dX12_sign_45 (by decide) ?_ ?_
        · refine tr_aload_n (i := 0) dX12_sign_65 rfl ?_
          refine tr_getR 12 h0 fl_X12_9 (by decide +kernel) dX12_sign_66 ?_
          refine tr_iload_n (i := 1) dX12_sign_69 rfl ?_
          refine tr_iload_n (i := 2) dX12_sign_70 rfl ?_
          refine tr_c_i (ms_cS (rest := [.ref (ms_rf l0 0)]) (al := [.int l1, .int l2]) (sp_X12_of G hG (d - 1) (by omega) s2 l1 l2) kl_X12_114 fs_X12_of dX12_sign_71 (show _ = some 2 by decide +kernel) (by omega) (Nat.le_of_ble_eq_true rfl) (by decide) (by decide)) (fun v4 => ?_)
          refine tr_ald (rk_12_0 h0) dX12_sign_74 (fun v5 => ?_)
          exact tr_iret rfl rfl (by decide) (by decide) dX12_sign_75
        · refine tr_aload_n (i := 0) dX12_sign_48 rfl ?_
          refine tr_iload_n (i := 1) dX12_sign_49 rfl ?_
          refine tr_iconst (v := 2) dX12_sign_50 (by decide +kernel) ?_
          refine tr_c_i (ms_cV (rest := []) (al := [.int l1, .int 2]) 12 (sp_X12_isOfKind G hG (d - 1) (by omega) s2 l0 l1 2 h0) h0 (by decide +kernel) kl_X12_128 fv_X12_isOfKind dX12_sign_51 (show _ = some 2 by decide +kernel) (by omega) (Nat.le_of_ble_eq_true rfl) (by decide) (by decide)) (fun v6 => ?_)
          refine tr_ifeq (o := none) (tgt := 65) dX12_sign_54 (by decide) ?_ ?_
          · refine tr_aload_n (i := 0) dX12_sign_65 rfl ?_
            refine tr_getR 12 h0 fl_X12_9 (by decide +kernel) dX12_sign_66 ?_
            refine tr_iload_n (i := 1) dX12_sign_69 rfl ?_
            refine tr_iload_n (i := 2) dX12_sign_70 rfl ?_
            refine tr_c_i (ms_cS (rest := [.ref (ms_rf l0 0)]) (al := [.int l1, .int l2]) (sp_X12_of G hG (d - 1) (by omega) s2 l1 l2) kl_X12_114 fs_X12_of dX12_sign_71 (show _ = some 2 by decide +kernel) (by omega) (Nat.le_of_ble_eq_true rfl) (by decide) (by decide)) (fun v7 => ?_)
            refine tr_ald (rk_12_0 h0) dX12_sign_74 (fun v8 => ?_)
            exact tr_iret rfl rfl (by decide) (by decide) dX12_sign_75
          · refine tr_aload_n (i := 0) dX12_sign_57 rfl ?_
            refine tr_iload_n (i := 1) dX12_sign_58 rfl ?_
            refine tr_c_i (ms_cV (rest := []) (al := [.int l1]) 12 (sp_X12_linesWith G hG (d - 1) (by omega) s2 l0 l1 h0) h0 (by decide +kernel) kl_X12_238 fv_X12_linesWith dX12_sign_59 (show _ = some 1 by decide +kernel) (by omega) (Nat.le_of_ble_eq_true rfl) (by decide) (by decide)) (fun v9 => ?_)
            refine tr_goto (tgt := 75) dX12_sign_62 (by decide) ?_
            exact tr_iret rfl rfl (by decide) (by decide) dX12_sign_75
      · refine tr_aload_n (i := 0) dX12_sign_33 rfl ?_
        refine tr_getR 12 h0 fl_X12_9 (by decide +kernel) dX12_sign_34 ?_
        refine tr_iload_n (i := 1) dX12_sign_37 rfl ?_
        refine tr_c_i (ms_cS (rest := []) (al := [.ref (ms_rf l0 0), .int l1]) (sp_X12_parts G hG (d - 1) (by omega) s2 (ms_rf l0 0) l1 (rk_12_0 h0)) kl_X12_125 fs_X12_parts dX12_sign_38 (show _ = some 2 by decide +kernel) (by omega) (Nat.le_of_ble_eq_true rfl) (by decide) (by decide)) (fun v10 => ?_)
        exact tr_iret rfl rfl (by decide) (by decide) dX12_sign_41
    · refine tr_aload_n (i := 0) dX12_sign_22 rfl ?_
      refine tr_iconst (v := 1) dX12_sign_23 (by decide +kernel) ?_
      refine tr_d_wi (ms_cV (rest := []) (al := [.int 1]) 12 (sp_X12_raise G hG (d - 1) (by omega) s2 l0 1 h0) h0 (by decide +kernel) kl_X12_230 fv_X12_raise dX12_sign_24 (show _ = some 1 by decide +kernel) (by omega) (Nat.le_of_ble_eq_true rfl) (by decide) (by decide)) (fun v11 s12 => ?_)
      exact tr_iret rfl rfl (by decide) (by decide) dX12_sign_27
  · refine tr_iconst (v := 0) dX12_sign_8 (by decide +kernel) ?_
    exact tr_iret rfl rfl (by decide) (by decide) dX12_sign_9
theorem dX12_letter_0 : decode cX12_letter 0 = .ok (.aload_n 0, 1) := by decide +kernel
theorem dX12_letter_1 : decode cX12_letter 1 = .ok (.aload_n 0, 1) := by decide +kernel
theorem dX12_letter_2 : decode cX12_letter 2 = .ok (.iload_n 1, 1) := by decide +kernel
theorem dX12_letter_3 : decode cX12_letter 3 = .ok (.invokevirtual 122, 3) := by decide +kernel
theorem dX12_letter_6 : decode cX12_letter 6 = .ok (.ifCond .eq 11, 3) := by decide +kernel
theorem dX12_letter_9 : decode cX12_letter 9 = .ok (.iload_n 2, 1) := by decide +kernel
theorem dX12_letter_10 : decode cX12_letter 10 = .ok (.ifCond .lt 7, 3) := by decide +kernel
theorem dX12_letter_13 : decode cX12_letter 13 = .ok (.iconst 0, 1) := by decide +kernel
theorem dX12_letter_14 : decode cX12_letter 14 = .ok (.goto 4, 3) := by decide +kernel
theorem dX12_letter_17 : decode cX12_letter 17 = .ok (.iconst 1, 1) := by decide +kernel
theorem dX12_letter_18 : decode cX12_letter 18 = .ok (.putfield 107, 3) := by decide +kernel
theorem dX12_letter_21 : decode cX12_letter 21 = .ok (.aload_n 0, 1) := by decide +kernel
theorem dX12_letter_22 : decode cX12_letter 22 = .ok (.getfield 107, 3) := by decide +kernel
theorem dX12_letter_25 : decode cX12_letter 25 = .ok (.ifCond .eq 5, 3) := by decide +kernel
theorem dX12_letter_28 : decode cX12_letter 28 = .ok (.iconst 0, 1) := by decide +kernel
theorem dX12_letter_29 : decode cX12_letter 29 = .ok (.ireturn, 1) := by decide +kernel
theorem dX12_letter_30 : decode cX12_letter 30 = .ok (.iload_n 2, 1) := by decide +kernel
theorem dX12_letter_31 : decode cX12_letter 31 = .ok (.iconst 4, 1) := by decide +kernel
theorem dX12_letter_32 : decode cX12_letter 32 = .ok (.if_icmp .ge 16, 3) := by decide +kernel
theorem dX12_letter_35 : decode cX12_letter 35 = .ok (.aload_n 0, 1) := by decide +kernel
theorem dX12_letter_36 : decode cX12_letter 36 = .ok (.getfield 22, 3) := by decide +kernel
theorem dX12_letter_39 : decode cX12_letter 39 = .ok (.iconst 4, 1) := by decide +kernel
theorem dX12_letter_40 : decode cX12_letter 40 = .ok (.iload_n 1, 1) := by decide +kernel
theorem dX12_letter_41 : decode cX12_letter 41 = .ok (.imul, 1) := by decide +kernel
theorem dX12_letter_42 : decode cX12_letter 42 = .ok (.iload_n 2, 1) := by decide +kernel
theorem dX12_letter_43 : decode cX12_letter 43 = .ok (.iadd, 1) := by decide +kernel
theorem dX12_letter_44 : decode cX12_letter 44 = .ok (.iaload, 1) := by decide +kernel
theorem dX12_letter_45 : decode cX12_letter 45 = .ok (.goto 4, 3) := by decide +kernel
theorem dX12_letter_48 : decode cX12_letter 48 = .ok (.iconst 0, 1) := by decide +kernel
theorem dX12_letter_49 : decode cX12_letter 49 = .ok (.istore_n 3, 1) := by decide +kernel
theorem dX12_letter_50 : decode cX12_letter 50 = .ok (.iload_n 3, 1) := by decide +kernel
theorem dX12_letter_51 : decode cX12_letter 51 = .ok (.ifCond .ne 7, 3) := by decide +kernel
theorem dX12_letter_54 : decode cX12_letter 54 = .ok (.iconst (-1), 1) := by decide +kernel
theorem dX12_letter_55 : decode cX12_letter 55 = .ok (.goto 4, 3) := by decide +kernel
theorem dX12_letter_58 : decode cX12_letter 58 = .ok (.iload_n 3, 1) := by decide +kernel
theorem dX12_letter_59 : decode cX12_letter 59 = .ok (.ireturn, 1) := by decide +kernel
set_option maxRecDepth 100000 in
theorem t_X12_letter_18 (G : MG) (hG : (g_l G).stackTraces = false) (d : Nat) (hd : 2 ≤ d)    (σ : MsSt) (l0 : Nat) (l1 : Int32) (l2 : Int32) (t0 : Int32) (t1 : Nat) (h0 : ms_kd l0 = 13) (ht1 : ms_kd t1 = 13) : TrO G mX12_letter d 0 0 0 0 ms_wi 18 [(0, .ref l0), (1, .int l1), (2, .int l2)] [.int t0, .ref t1] σ (f_X12_letter_18 σ l0 l1 l2 t0 t1) := by
  show TrO G mX12_letter d 0 0 0 0 ms_wi 18 [(0, .ref l0), (1, .int l1), (2, .int l2)] [.int t0, .ref t1] σ (ms_nm (ms_si σ t1 7 t0) fun s2 => if (ms_i s2 l0 7) = 0 then if l2 < 4 then (ms_ald s2 (ms_rf l0 4) ((4 * l1) + l2)).bind fun v3 => if v3 = 0 then some ((-1), s2) else some (v3, s2) else if (0 : Int32) = 0 then some ((-1), s2) else some (0, s2) else some (0, s2))
  refine tr_putI 12 ht1 fl_X12_107 (by decide +kernel) dX12_letter_18 ?_
  refine ms_ltS (fun s2 => ?_)
  refine tr_aload_n (i := 0) dX12_letter_21 rfl ?_
  refine tr_getI 12 h0 fl_X12_107 (by decide +kernel) dX12_letter_22 ?_
  refine tr_ifeq (o := none) (tgt := 30) dX12_letter_25 (by decide) ?_ ?_
  · refine tr_iload_n (i := 2) dX12_letter_30 rfl ?_
    refine tr_iconst (v := 4) dX12_letter_31 (by decide +kernel) ?_
    refine tr_icge (o := none) (tgt := 48) dX12_letter_32 (by decide) ?_ ?_
    · refine tr_iconst (v := 0) dX12_letter_48 (by decide +kernel) ?_
      refine tr_istore_n (lv' := [(3, .int 0)]) [0] dX12_letter_49 (by decide) rfl ?_
      refine tr_iload_n (i := 0) dX12_letter_50 rfl ?_
      refine tr_ifne (o := none) (tgt := 58) dX12_letter_51 (by decide) ?_ ?_
      · refine tr_iload_n (i := 0) dX12_letter_58 rfl ?_
        exact tr_iret rfl rfl (by decide) (by decide) dX12_letter_59
      · refine tr_iconst (v := (-1)) dX12_letter_54 (by decide +kernel) ?_
        refine tr_goto (tgt := 59) dX12_letter_55 (by decide) ?_
        exact tr_iret rfl rfl (by decide) (by decide) dX12_letter_59
    · refine tr_aload_n (i := 0) dX12_letter_35 rfl ?_
      refine tr_getR 12 h0 fl_X12_22 (by decide +kernel) dX12_letter_36 ?_
      refine tr_iconst (v := 4) dX12_letter_39 (by decide +kernel) ?_
      refine tr_iload_n (i := 1) dX12_letter_40 rfl ?_
      refine tr_imul dX12_letter_41 ?_
      refine tr_iload_n (i := 2) dX12_letter_42 rfl ?_
      refine tr_iadd dX12_letter_43 ?_
      refine tr_ald (rk_12_4 h0) dX12_letter_44 (fun v3 => ?_)
      refine tr_goto (tgt := 49) dX12_letter_45 (by decide) ?_
      refine tr_istore_n (lv' := [(3, .int v3)]) [0] dX12_letter_49 (by decide) rfl ?_
      refine tr_iload_n (i := 0) dX12_letter_50 rfl ?_
      refine tr_ifne (o := none) (tgt := 58) dX12_letter_51 (by decide) ?_ ?_
      · refine tr_iload_n (i := 0) dX12_letter_58 rfl ?_
        exact tr_iret rfl rfl (by decide) (by decide) dX12_letter_59
      · refine tr_iconst (v := (-1)) dX12_letter_54 (by decide +kernel) ?_
        refine tr_goto (tgt := 59) dX12_letter_55 (by decide) ?_
        exact tr_iret rfl rfl (by decide) (by decide) dX12_letter_59
  · refine tr_iconst (v := 0) dX12_letter_28 (by decide +kernel) ?_
    exact tr_iret rfl rfl (by decide) (by decide) dX12_letter_29
set_option maxRecDepth 100000 in
theorem t_X12_letter_17 (G : MG) (hG : (g_l G).stackTraces = false) (d : Nat) (hd : 2 ≤ d)    (σ : MsSt) (l0 : Nat) (l1 : Int32) (l2 : Int32) (t0 : Nat) (h0 : ms_kd l0 = 13) (ht0 : ms_kd t0 = 13) : TrO G mX12_letter d 0 0 0 0 ms_wi 17 [(0, .ref l0), (1, .int l1), (2, .int l2)] [.ref t0] σ (f_X12_letter_17 σ l0 l1 l2 t0) := by
  show TrO G mX12_letter d 0 0 0 0 ms_wi 17 [(0, .ref l0), (1, .int l1), (2, .int l2)] [.ref t0] σ (f_X12_letter_18 σ l0 l1 l2 1 t0)
  refine tr_iconst (v := 1) dX12_letter_17 (by decide +kernel) ?_
  exact t_X12_letter_18 G hG d hd σ l0 l1 l2 1 t0 h0 ht0
set_option maxRecDepth 100000 in
theorem sp_X12_letter (G : MG) (hG : (g_l G).stackTraces = false) (d : Nat) (hd : 2 ≤ d)   (σ : MsSt) (l0 : Nat) (l1 : Int32) (l2 : Int32) (h0 : ms_kd l0 = 13) : MsSpec G mX12_letter d 0 0 [.ref l0, .int l1, .int l2] σ ms_wi (f_X12_letter σ l0 l1 l2) := by
  refine ms_start (by decide +kernel) rfl rfl (Nat.le_of_ble_eq_true rfl) ?_
  show TrO G mX12_letter d 0 0 0 0 ms_wi 0 [(0, .ref l0), (1, .int l1), (2, .int l2)] [] σ ((f_X12_isSign σ l0 l1).bind fun v1 => if v1 = 0 then f_X12_letter_17 σ l0 l1 l2 l0 else if l2 < 0 then f_X12_letter_17 σ l0 l1 l2 l0 else f_X12_letter_18 σ l0 l1 l2 0 l0)
  refine tr_aload_n (i := 0) dX12_letter_0 rfl ?_
  refine tr_aload_n (i := 0) dX12_letter_1 rfl ?_
  refine tr_iload_n (i := 1) dX12_letter_2 rfl ?_
  refine tr_c_i (ms_cV (rest := [.ref l0]) (al := [.int l1]) 12 (sp_X12_isSign G hG (d - 1) (by omega) σ l0 l1 h0) h0 (by decide +kernel) kl_X12_122 fv_X12_isSign dX12_letter_3 (show _ = some 1 by decide +kernel) (by omega) (Nat.le_of_ble_eq_true rfl) (by decide) (by decide)) (fun v1 => ?_)
  refine tr_ifeq (o := none) (tgt := 17) dX12_letter_6 (by decide) ?_ ?_
  · exact t_X12_letter_17 G hG d hd σ l0 l1 l2 l0 h0 h0
  · refine tr_iload_n (i := 2) dX12_letter_9 rfl ?_
    refine tr_iflt (o := none) (tgt := 17) dX12_letter_10 (by decide) ?_ ?_
    · exact t_X12_letter_17 G hG d hd σ l0 l1 l2 l0 h0 h0
    · refine tr_iconst (v := 0) dX12_letter_13 (by decide +kernel) ?_
      refine tr_goto (tgt := 18) dX12_letter_14 (by decide) ?_
      exact t_X12_letter_18 G hG d hd σ l0 l1 l2 0 l0 h0 h0
theorem dX12_expanded_0 : decode cX12_expanded 0 = .ok (.aload_n 0, 1) := by decide +kernel
theorem dX12_expanded_1 : decode cX12_expanded 1 = .ok (.iload_n 1, 1) := by decide +kernel
theorem dX12_expanded_2 : decode cX12_expanded 2 = .ok (.invokevirtual 233, 3) := by decide +kernel
theorem dX12_expanded_5 : decode cX12_expanded 5 = .ok (.ifCond .eq 5, 3) := by decide +kernel
theorem dX12_expanded_8 : decode cX12_expanded 8 = .ok (.iconst 0, 1) := by decide +kernel
theorem dX12_expanded_9 : decode cX12_expanded 9 = .ok (.ireturn, 1) := by decide +kernel
theorem dX12_expanded_10 : decode cX12_expanded 10 = .ok (.aload_n 0, 1) := by decide +kernel
theorem dX12_expanded_11 : decode cX12_expanded 11 = .ok (.iload_n 1, 1) := by decide +kernel
theorem dX12_expanded_12 : decode cX12_expanded 12 = .ok (.invokevirtual 141, 3) := by decide +kernel
theorem dX12_expanded_15 : decode cX12_expanded 15 = .ok (.istore_n 3, 1) := by decide +kernel
theorem dX12_expanded_16 : decode cX12_expanded 16 = .ok (.iload_n 2, 1) := by decide +kernel
theorem dX12_expanded_17 : decode cX12_expanded 17 = .ok (.i2l, 1) := by decide +kernel
theorem dX12_expanded_18 : decode cX12_expanded 18 = .ok (.lconst 0, 1) := by decide +kernel
theorem dX12_expanded_19 : decode cX12_expanded 19 = .ok (.iload_n 3, 1) := by decide +kernel
theorem dX12_expanded_20 : decode cX12_expanded 20 = .ok (.iconst 1, 1) := by decide +kernel
theorem dX12_expanded_21 : decode cX12_expanded 21 = .ok (.isub, 1) := by decide +kernel
theorem dX12_expanded_22 : decode cX12_expanded 22 = .ok (.i2l, 1) := by decide +kernel
theorem dX12_expanded_23 : decode cX12_expanded 23 = .ok (.invokestatic 110, 3) := by decide +kernel
theorem dX12_expanded_26 : decode cX12_expanded 26 = .ok (.ifCond .eq 12, 3) := by decide +kernel
theorem dX12_expanded_29 : decode cX12_expanded 29 = .ok (.aload_n 0, 1) := by decide +kernel
theorem dX12_expanded_30 : decode cX12_expanded 30 = .ok (.getfield 28, 3) := by decide +kernel
theorem dX12_expanded_33 : decode cX12_expanded 33 = .ok (.iload_n 2, 1) := by decide +kernel
theorem dX12_expanded_34 : decode cX12_expanded 34 = .ok (.iaload, 1) := by decide +kernel
theorem dX12_expanded_35 : decode cX12_expanded 35 = .ok (.goto 8, 3) := by decide +kernel
theorem dX12_expanded_38 : decode cX12_expanded 38 = .ok (.aload_n 0, 1) := by decide +kernel
theorem dX12_expanded_39 : decode cX12_expanded 39 = .ok (.iconst 1, 1) := by decide +kernel
theorem dX12_expanded_40 : decode cX12_expanded 40 = .ok (.invokevirtual 230, 3) := by decide +kernel
theorem dX12_expanded_43 : decode cX12_expanded 43 = .ok (.ireturn, 1) := by decide +kernel
set_option maxRecDepth 100000 in
theorem sp_X12_expanded (G : MG) (hG : (g_l G).stackTraces = false) (d : Nat) (hd : 3 ≤ d)   (σ : MsSt) (l0 : Nat) (l1 : Int32) (l2 : Int32) (h0 : ms_kd l0 = 13) : MsSpec G mX12_expanded d 0 0 [.ref l0, .int l1, .int l2] σ ms_wi (f_X12_expanded σ l0 l1 l2) := by
  refine ms_start (by decide +kernel) rfl rfl (Nat.le_of_ble_eq_true rfl) ?_
  show TrO G mX12_expanded d 0 0 0 0 ms_wi 0 [(0, .ref l0), (1, .int l1), (2, .int l2)] [] σ (ms_b2 (f_X12_noSign σ l0 l1) fun v1 s2 => if v1 = 0 then ms_b2 (f_X12_expand s2 l0 l1) fun v3 s4 => (f_X12_inRange s4 l2.toInt64 0 ((v3 - 1).toInt64)).bind fun v5 => if v5 = 0 then ms_b2 (f_X12_raise s4 l0 1) fun v6 s7 => some (v6, s7) else (ms_ald s4 (ms_rf l0 9) l2).bind fun v8 => some (v8, s4) else some (0, s2))
  refine tr_aload_n (i := 0) dX12_expanded_0 rfl ?_
  refine tr_iload_n (i := 1) dX12_expanded_1 rfl ?_
  refine tr_d_wi (ms_cV (rest := []) (al := [.int l1]) 12 (sp_X12_noSign G hG (d - 1) (by omega) σ l0 l1 h0) h0 (by decide +kernel) kl_X12_233 fv_X12_noSign dX12_expanded_2 (show _ = some 1 by decide +kernel) (by omega) (Nat.le_of_ble_eq_true rfl) (by decide) (by decide)) (fun v1 s2 => ?_)
  refine tr_ifeq (o := none) (tgt := 10) dX12_expanded_5 (by decide) ?_ ?_
  · refine tr_aload_n (i := 0) dX12_expanded_10 rfl ?_
    refine tr_iload_n (i := 1) dX12_expanded_11 rfl ?_
    refine tr_d_wi (ms_cV (rest := []) (al := [.int l1]) 12 (sp_X12_expand G hG (d - 1) (by omega) s2 l0 l1 h0) h0 (by decide +kernel) kl_X12_141 fv_X12_expand dX12_expanded_12 (show _ = some 1 by decide +kernel) (by omega) (Nat.le_of_ble_eq_true rfl) (by decide) (by decide)) (fun v3 s4 => ?_)
    refine tr_istore_n (lv' := [(0, .ref l0), (2, .int l2), (3, .int v3)]) [1, 3, 0] dX12_expanded_15 (by decide) rfl ?_
    refine tr_iload_n (i := 1) dX12_expanded_16 rfl ?_
    refine tr_i2l dX12_expanded_17 ?_
    refine tr_lconst (v := 0) dX12_expanded_18 (by decide +kernel) ?_
    refine tr_iload_n (i := 2) dX12_expanded_19 rfl ?_
    refine tr_iconst (v := 1) dX12_expanded_20 (by decide +kernel) ?_
    refine tr_isub dX12_expanded_21 ?_
    refine tr_i2l dX12_expanded_22 ?_
    refine tr_c_i (ms_cS (rest := []) (al := [.long l2.toInt64, .long 0, .long ((v3 - 1).toInt64)]) (sp_X12_inRange G hG (d - 1) (by omega) s4 l2.toInt64 0 ((v3 - 1).toInt64)) kl_X12_110 fs_X12_inRange dX12_expanded_23 (show _ = some 3 by decide +kernel) (by omega) (Nat.le_of_ble_eq_true rfl) (by decide) (by decide)) (fun v5 => ?_)
    refine tr_ifeq (o := none) (tgt := 38) dX12_expanded_26 (by decide) ?_ ?_
    · refine tr_aload_n (i := 0) dX12_expanded_38 rfl ?_
      refine tr_iconst (v := 1) dX12_expanded_39 (by decide +kernel) ?_
      refine tr_d_wi (ms_cV (rest := []) (al := [.int 1]) 12 (sp_X12_raise G hG (d - 1) (by omega) s4 l0 1 h0) h0 (by decide +kernel) kl_X12_230 fv_X12_raise dX12_expanded_40 (show _ = some 1 by decide +kernel) (by omega) (Nat.le_of_ble_eq_true rfl) (by decide) (by decide)) (fun v6 s7 => ?_)
      exact tr_iret rfl rfl (by decide) (by decide) dX12_expanded_43
    · refine tr_aload_n (i := 0) dX12_expanded_29 rfl ?_
      refine tr_getR 12 h0 fl_X12_28 (by decide +kernel) dX12_expanded_30 ?_
      refine tr_iload_n (i := 1) dX12_expanded_33 rfl ?_
      refine tr_ald (rk_12_9 h0) dX12_expanded_34 (fun v8 => ?_)
      refine tr_goto (tgt := 43) dX12_expanded_35 (by decide) ?_
      exact tr_iret rfl rfl (by decide) (by decide) dX12_expanded_43
  · refine tr_iconst (v := 0) dX12_expanded_8 (by decide +kernel) ?_
    exact tr_iret rfl rfl (by decide) (by decide) dX12_expanded_9
theorem dX12_pairOf_0 : decode cX12_pairOf 0 = .ok (.aload_n 0, 1) := by decide +kernel
theorem dX12_pairOf_1 : decode cX12_pairOf 1 = .ok (.aload_n 0, 1) := by decide +kernel
theorem dX12_pairOf_2 : decode cX12_pairOf 2 = .ok (.iload_n 1, 1) := by decide +kernel
theorem dX12_pairOf_3 : decode cX12_pairOf 3 = .ok (.invokevirtual 122, 3) := by decide +kernel
theorem dX12_pairOf_6 : decode cX12_pairOf 6 = .ok (.ifCond .eq 15, 3) := by decide +kernel
theorem dX12_pairOf_9 : decode cX12_pairOf 9 = .ok (.aload_n 0, 1) := by decide +kernel
theorem dX12_pairOf_10 : decode cX12_pairOf 10 = .ok (.iload_n 2, 1) := by decide +kernel
theorem dX12_pairOf_11 : decode cX12_pairOf 11 = .ok (.invokevirtual 122, 3) := by decide +kernel
theorem dX12_pairOf_14 : decode cX12_pairOf 14 = .ok (.ifCond .eq 7, 3) := by decide +kernel
theorem dX12_pairOf_17 : decode cX12_pairOf 17 = .ok (.iconst 0, 1) := by decide +kernel
theorem dX12_pairOf_18 : decode cX12_pairOf 18 = .ok (.goto 4, 3) := by decide +kernel
theorem dX12_pairOf_21 : decode cX12_pairOf 21 = .ok (.iconst 1, 1) := by decide +kernel
theorem dX12_pairOf_22 : decode cX12_pairOf 22 = .ok (.putfield 107, 3) := by decide +kernel
theorem dX12_pairOf_25 : decode cX12_pairOf 25 = .ok (.aload_n 0, 1) := by decide +kernel
theorem dX12_pairOf_26 : decode cX12_pairOf 26 = .ok (.getfield 107, 3) := by decide +kernel
theorem dX12_pairOf_29 : decode cX12_pairOf 29 = .ok (.ifCond .ne 15, 3) := by decide +kernel
theorem dX12_pairOf_32 : decode cX12_pairOf 32 = .ok (.aload_n 0, 1) := by decide +kernel
theorem dX12_pairOf_33 : decode cX12_pairOf 33 = .ok (.getfield 9, 3) := by decide +kernel
theorem dX12_pairOf_36 : decode cX12_pairOf 36 = .ok (.iload_n 1, 1) := by decide +kernel
theorem dX12_pairOf_37 : decode cX12_pairOf 37 = .ok (.iload_n 2, 1) := by decide +kernel
theorem dX12_pairOf_38 : decode cX12_pairOf 38 = .ok (.invokestatic 158, 3) := by decide +kernel
theorem dX12_pairOf_41 : decode cX12_pairOf 41 = .ok (.goto 4, 3) := by decide +kernel
theorem dX12_pairOf_44 : decode cX12_pairOf 44 = .ok (.iconst 0, 1) := by decide +kernel
theorem dX12_pairOf_45 : decode cX12_pairOf 45 = .ok (.ireturn, 1) := by decide +kernel
set_option maxRecDepth 100000 in
theorem t_X12_pairOf_22 (G : MG) (hG : (g_l G).stackTraces = false) (d : Nat) (hd : 2 ≤ d)    (σ : MsSt) (l0 : Nat) (l1 : Int32) (l2 : Int32) (t0 : Int32) (t1 : Nat) (h0 : ms_kd l0 = 13) (ht1 : ms_kd t1 = 13) : TrO G mX12_pairOf d 0 0 0 0 ms_wi 22 [(0, .ref l0), (1, .int l1), (2, .int l2)] [.int t0, .ref t1] σ (f_X12_pairOf_22 σ l0 l1 l2 t0 t1) := by
  show TrO G mX12_pairOf d 0 0 0 0 ms_wi 22 [(0, .ref l0), (1, .int l1), (2, .int l2)] [.int t0, .ref t1] σ (ms_nm (ms_si σ t1 7 t0) fun s2 => if (ms_i s2 l0 7) = 0 then (f_X12_findPair s2 (ms_rf l0 0) l1 l2).bind fun v3 => some (v3, s2) else some (0, s2))
  refine tr_putI 12 ht1 fl_X12_107 (by decide +kernel) dX12_pairOf_22 ?_
  refine ms_ltS (fun s2 => ?_)
  refine tr_aload_n (i := 0) dX12_pairOf_25 rfl ?_
  refine tr_getI 12 h0 fl_X12_107 (by decide +kernel) dX12_pairOf_26 ?_
  refine tr_ifne (o := none) (tgt := 44) dX12_pairOf_29 (by decide) ?_ ?_
  · refine tr_iconst (v := 0) dX12_pairOf_44 (by decide +kernel) ?_
    exact tr_iret rfl rfl (by decide) (by decide) dX12_pairOf_45
  · refine tr_aload_n (i := 0) dX12_pairOf_32 rfl ?_
    refine tr_getR 12 h0 fl_X12_9 (by decide +kernel) dX12_pairOf_33 ?_
    refine tr_iload_n (i := 1) dX12_pairOf_36 rfl ?_
    refine tr_iload_n (i := 2) dX12_pairOf_37 rfl ?_
    refine tr_c_i (ms_cS (rest := []) (al := [.ref (ms_rf l0 0), .int l1, .int l2]) (sp_X12_findPair G hG (d - 1) (by omega) s2 (ms_rf l0 0) l1 l2 (rk_12_0 h0)) kl_X12_158 fs_X12_findPair dX12_pairOf_38 (show _ = some 3 by decide +kernel) (by omega) (Nat.le_of_ble_eq_true rfl) (by decide) (by decide)) (fun v3 => ?_)
    refine tr_goto (tgt := 45) dX12_pairOf_41 (by decide) ?_
    exact tr_iret rfl rfl (by decide) (by decide) dX12_pairOf_45
set_option maxRecDepth 100000 in
theorem t_X12_pairOf_21 (G : MG) (hG : (g_l G).stackTraces = false) (d : Nat) (hd : 2 ≤ d)    (σ : MsSt) (l0 : Nat) (l1 : Int32) (l2 : Int32) (t0 : Nat) (h0 : ms_kd l0 = 13) (ht0 : ms_kd t0 = 13) : TrO G mX12_pairOf d 0 0 0 0 ms_wi 21 [(0, .ref l0), (1, .int l1), (2, .int l2)] [.ref t0] σ (f_X12_pairOf_21 σ l0 l1 l2 t0) := by
  show TrO G mX12_pairOf d 0 0 0 0 ms_wi 21 [(0, .ref l0), (1, .int l1), (2, .int l2)] [.ref t0] σ (f_X12_pairOf_22 σ l0 l1 l2 1 t0)
  refine tr_iconst (v := 1) dX12_pairOf_21 (by decide +kernel) ?_
  exact t_X12_pairOf_22 G hG d hd σ l0 l1 l2 1 t0 h0 ht0
set_option maxRecDepth 100000 in
theorem sp_X12_pairOf (G : MG) (hG : (g_l G).stackTraces = false) (d : Nat) (hd : 2 ≤ d)   (σ : MsSt) (l0 : Nat) (l1 : Int32) (l2 : Int32) (h0 : ms_kd l0 = 13) : MsSpec G mX12_pairOf d 0 0 [.ref l0, .int l1, .int l2] σ ms_wi (f_X12_pairOf σ l0 l1 l2) := by
  refine ms_start (by decide +kernel) rfl rfl (Nat.le_of_ble_eq_true rfl) ?_
  show TrO G mX12_pairOf d 0 0 0 0 ms_wi 0 [(0, .ref l0), (1, .int l1), (2, .int l2)] [] σ ((f_X12_isSign σ l0 l1).bind fun v1 => if v1 = 0 then f_X12_pairOf_21 σ l0 l1 l2 l0 else (f_X12_isSign σ l0 l2).bind fun v4 => if v4 = 0 then f_X12_pairOf_21 σ l0 l1 l2 l0 else f_X12_pairOf_22 σ l0 l1 l2 0 l0)
  refine tr_aload_n (i := 0) dX12_pairOf_0 rfl ?_
  refine tr_aload_n (i := 0) dX12_pairOf_1 rfl ?_
  refine tr_iload_n (i := 1) dX12_pairOf_2 rfl ?_
  refine tr_c_i (ms_cV (rest := [.ref l0]) (al := [.int l1]) 12 (sp_X12_isSign G hG (d - 1) (by omega) σ l0 l1 h0) h0 (by decide +kernel) kl_X12_122 fv_X12_isSign dX12_pairOf_3 (show _ = some 1 by decide +kernel) (by omega) (Nat.le_of_ble_eq_true rfl) (by decide) (by decide)) (fun v1 => ?_)
  refine tr_ifeq (o := none) (tgt := 21) dX12_pairOf_6 (by decide) ?_ ?_
  · exact t_X12_pairOf_21 G hG d hd σ l0 l1 l2 l0 h0 h0
  · refine tr_aload_n (i := 0) dX12_pairOf_9 rfl ?_
    refine tr_iload_n (i := 2) dX12_pairOf_10 rfl ?_
    refine tr_c_i (ms_cV (rest := [.ref l0]) (al := [.int l2]) 12 (sp_X12_isSign G hG (d - 1) (by omega) σ l0 l2 h0) h0 (by decide +kernel) kl_X12_122 fv_X12_isSign dX12_pairOf_11 (show _ = some 1 by decide +kernel) (by omega) (Nat.le_of_ble_eq_true rfl) (by decide) (by decide)) (fun v4 => ?_)
    refine tr_ifeq (o := none) (tgt := 21) dX12_pairOf_14 (by decide) ?_ ?_
    · exact t_X12_pairOf_21 G hG d hd σ l0 l1 l2 l0 h0 h0
    · refine tr_iconst (v := 0) dX12_pairOf_17 (by decide +kernel) ?_
      refine tr_goto (tgt := 22) dX12_pairOf_18 (by decide) ?_
      exact t_X12_pairOf_22 G hG d hd σ l0 l1 l2 0 l0 h0 h0
theorem dX12_used_0 : decode cX12_used 0 = .ok (.aload_n 0, 1) := by decide +kernel
theorem dX12_used_1 : decode cX12_used 1 = .ok (.iload_n 1, 1) := by decide +kernel
theorem dX12_used_2 : decode cX12_used 2 = .ok (.invokevirtual 233, 3) := by decide +kernel
theorem dX12_used_5 : decode cX12_used 5 = .ok (.ifCond .eq 5, 3) := by decide +kernel
theorem dX12_used_8 : decode cX12_used 8 = .ok (.iconst 0, 1) := by decide +kernel
theorem dX12_used_9 : decode cX12_used 9 = .ok (.ireturn, 1) := by decide +kernel
theorem dX12_used_10 : decode cX12_used 10 = .ok (.iconst 0, 1) := by decide +kernel
theorem dX12_used_11 : decode cX12_used 11 = .ok (.istore_n 2, 1) := by decide +kernel
theorem dX12_used_12 : decode cX12_used 12 = .ok (.iconst 0, 1) := by decide +kernel
theorem dX12_used_13 : decode cX12_used 13 = .ok (.istore_n 3, 1) := by decide +kernel
theorem dX12_used_14 : decode cX12_used 14 = .ok (.iload_n 3, 1) := by decide +kernel
theorem dX12_used_15 : decode cX12_used 15 = .ok (.aload_n 0, 1) := by decide +kernel
theorem dX12_used_16 : decode cX12_used 16 = .ok (.getfield 9, 3) := by decide +kernel
theorem dX12_used_19 : decode cX12_used 19 = .ok (.iconst 0, 1) := by decide +kernel
theorem dX12_used_20 : decode cX12_used 20 = .ok (.iaload, 1) := by decide +kernel
theorem dX12_used_21 : decode cX12_used 21 = .ok (.if_icmp .ge 84, 3) := by decide +kernel
theorem dX12_used_24 : decode cX12_used 24 = .ok (.iconst 0, 1) := by decide +kernel
theorem dX12_used_25 : decode cX12_used 25 = .ok (.istore 4, 2) := by decide +kernel
theorem dX12_used_27 : decode cX12_used 27 = .ok (.aload_n 0, 1) := by decide +kernel
theorem dX12_used_28 : decode cX12_used 28 = .ok (.iload_n 3, 1) := by decide +kernel
theorem dX12_used_29 : decode cX12_used 29 = .ok (.iconst 2, 1) := by decide +kernel
theorem dX12_used_30 : decode cX12_used 30 = .ok (.invokevirtual 128, 3) := by decide +kernel
theorem dX12_used_33 : decode cX12_used 33 = .ok (.ifCond .eq 11, 3) := by decide +kernel
theorem dX12_used_36 : decode cX12_used 36 = .ok (.aload_n 0, 1) := by decide +kernel
theorem dX12_used_37 : decode cX12_used 37 = .ok (.iload_n 3, 1) := by decide +kernel
theorem dX12_used_38 : decode cX12_used 38 = .ok (.invokevirtual 141, 3) := by decide +kernel
theorem dX12_used_41 : decode cX12_used 41 = .ok (.goto 4, 3) := by decide +kernel
theorem dX12_used_44 : decode cX12_used 44 = .ok (.iconst 0, 1) := by decide +kernel
theorem dX12_used_45 : decode cX12_used 45 = .ok (.istore 5, 2) := by decide +kernel
theorem dX12_used_47 : decode cX12_used 47 = .ok (.iconst 0, 1) := by decide +kernel
theorem dX12_used_48 : decode cX12_used 48 = .ok (.istore 6, 2) := by decide +kernel
theorem dX12_used_50 : decode cX12_used 50 = .ok (.iload 6, 2) := by decide +kernel
theorem dX12_used_52 : decode cX12_used 52 = .ok (.iload 5, 2) := by decide +kernel
theorem dX12_used_54 : decode cX12_used 54 = .ok (.if_icmp .ge 32, 3) := by decide +kernel
theorem dX12_used_57 : decode cX12_used 57 = .ok (.iload 4, 2) := by decide +kernel
theorem dX12_used_59 : decode cX12_used 59 = .ok (.ifCond .ne 14, 3) := by decide +kernel
theorem dX12_used_62 : decode cX12_used 62 = .ok (.aload_n 0, 1) := by decide +kernel
theorem dX12_used_63 : decode cX12_used 63 = .ok (.getfield 28, 3) := by decide +kernel
theorem dX12_used_66 : decode cX12_used 66 = .ok (.iload 6, 2) := by decide +kernel
theorem dX12_used_68 : decode cX12_used 68 = .ok (.iaload, 1) := by decide +kernel
theorem dX12_used_69 : decode cX12_used 69 = .ok (.iload_n 1, 1) := by decide +kernel
theorem dX12_used_70 : decode cX12_used 70 = .ok (.if_icmp .ne 7, 3) := by decide +kernel
theorem dX12_used_73 : decode cX12_used 73 = .ok (.iconst 1, 1) := by decide +kernel
theorem dX12_used_74 : decode cX12_used 74 = .ok (.goto 4, 3) := by decide +kernel
theorem dX12_used_77 : decode cX12_used 77 = .ok (.iconst 0, 1) := by decide +kernel
theorem dX12_used_78 : decode cX12_used 78 = .ok (.istore 4, 2) := by decide +kernel
theorem dX12_used_80 : decode cX12_used 80 = .ok (.iinc 6 1, 3) := by decide +kernel
theorem dX12_used_83 : decode cX12_used 83 = .ok (.goto (-33), 3) := by decide +kernel
theorem dX12_used_86 : decode cX12_used 86 = .ok (.iload_n 2, 1) := by decide +kernel
theorem dX12_used_87 : decode cX12_used 87 = .ok (.iload 4, 2) := by decide +kernel
theorem dX12_used_89 : decode cX12_used 89 = .ok (.ifCond .eq 7, 3) := by decide +kernel
theorem dX12_used_92 : decode cX12_used 92 = .ok (.iconst 1, 1) := by decide +kernel
theorem dX12_used_93 : decode cX12_used 93 = .ok (.goto 4, 3) := by decide +kernel
theorem dX12_used_96 : decode cX12_used 96 = .ok (.iconst 0, 1) := by decide +kernel
theorem dX12_used_97 : decode cX12_used 97 = .ok (.iadd, 1) := by decide +kernel
theorem dX12_used_98 : decode cX12_used 98 = .ok (.istore_n 2, 1) := by decide +kernel
theorem dX12_used_99 : decode cX12_used 99 = .ok (.iinc 3 1, 3) := by decide +kernel
theorem dX12_used_102 : decode cX12_used 102 = .ok (.goto (-88), 3) := by decide +kernel
theorem dX12_used_105 : decode cX12_used 105 = .ok (.iload_n 2, 1) := by decide +kernel
theorem dX12_used_106 : decode cX12_used 106 = .ok (.ireturn, 1) := by decide +kernel
set_option maxRecDepth 100000 in
theorem t_X12_used_50 (G : MG) (hG : (g_l G).stackTraces = false) (d : Nat) (hd : 3 ≤ d)   (k14 : MsSt → Nat → Int32 → Int32 → Int32 → Option (Int32 × MsSt)) (hk14 : ∀ (s : MsSt) (x1 : Nat) (x2 : Int32) (x3 : Int32) (x4 : Int32), ms_kd x1 = 13 → TrO G mX12_used d 0 0 0 0 ms_wi 14 [(0, .ref x1), (1, .int x2), (2, .int x3), (3, .int x4)] [] s (k14 s x1 x2 x3 x4)) : ∀ (n : Nat) (σ : MsSt) (l0 : Nat) (l1 : Int32) (l2 : Int32) (l3 : Int32) (l4 : Int32) (l5 : Int32) (l6 : Int32) (h0 : ms_kd l0 = 13), TrO G mX12_used d 0 0 0 0 ms_wi 50 [(0, .ref l0), (1, .int l1), (2, .int l2), (3, .int l3), (4, .int l4), (5, .int l5), (6, .int l6)] [] σ (f_X12_used_50 k14 n σ l0 l1 l2 l3 l4 l5 l6) := by
  intro n
  induction n with
  | zero => exact fun _ _ _ _ _ _ _ _ _ => tr_none
  | succ n ih =>
    intro σ l0 l1 l2 l3 l4 l5 l6 h0
    show TrO G mX12_used d 0 0 0 0 ms_wi 50 [(0, .ref l0), (1, .int l1), (2, .int l2), (3, .int l3), (4, .int l4), (5, .int l5), (6, .int l6)] [] σ (if l6 < l5 then if l4 = 0 then (ms_ald σ (ms_rf l0 9) l6).bind fun v5 => if v5 = l1 then (f_X12_used_50 k14 n) σ l0 l1 l2 l3 1 l5 (l6 + 1) else (f_X12_used_50 k14 n) σ l0 l1 l2 l3 0 l5 (l6 + 1) else (f_X12_used_50 k14 n) σ l0 l1 l2 l3 1 l5 (l6 + 1) else if l4 = 0 then k14 σ l0 l1 (l2 + 0) (l3 + 1) else k14 σ l0 l1 (l2 + 1) (l3 + 1))
    refine tr_iload (i := 6) dX12_used_50 rfl ?_
    refine tr_iload (i := 5) dX12_used_52 rfl ?_
    refine tr_icge (o := none) (tgt := 86) dX12_used_54 (by decide) ?_ ?_
    · refine tr_iload_n (i := 2) dX12_used_86 rfl ?_
      refine tr_iload (i := 4) dX12_used_87 rfl ?_
      refine tr_ifeq (o := none) (tgt := 96) dX12_used_89 (by decide) ?_ ?_
      · refine tr_iconst (v := 0) dX12_used_96 (by decide +kernel) ?_
        refine tr_iadd dX12_used_97 ?_
        refine tr_istore_n (lv' := [(0, .ref l0), (1, .int l1), (2, .int (l2 + 0)), (3, .int l3)]) [1, 2, 0, 3] dX12_used_98 (by decide) rfl ?_
        refine tr_iinc (k := 3) (v := (l3 + 1)) (lv' := [(0, .ref l0), (1, .int l1), (2, .int (l2 + 0)), (3, .int (l3 + 1))]) [1, 2, 3, 0] dX12_used_99 rfl rfl (by decide) rfl ?_
        refine tr_goto (tgt := 14) dX12_used_102 (by decide) ?_
        exact hk14 σ l0 l1 (l2 + 0) (l3 + 1) h0
      · refine tr_iconst (v := 1) dX12_used_92 (by decide +kernel) ?_
        refine tr_goto (tgt := 97) dX12_used_93 (by decide) ?_
        refine tr_iadd dX12_used_97 ?_
        refine tr_istore_n (lv' := [(0, .ref l0), (1, .int l1), (2, .int (l2 + 1)), (3, .int l3)]) [1, 2, 0, 3] dX12_used_98 (by decide) rfl ?_
        refine tr_iinc (k := 3) (v := (l3 + 1)) (lv' := [(0, .ref l0), (1, .int l1), (2, .int (l2 + 1)), (3, .int (l3 + 1))]) [1, 2, 3, 0] dX12_used_99 rfl rfl (by decide) rfl ?_
        refine tr_goto (tgt := 14) dX12_used_102 (by decide) ?_
        exact hk14 σ l0 l1 (l2 + 1) (l3 + 1) h0
    · refine tr_iload (i := 4) dX12_used_57 rfl ?_
      refine tr_ifne (o := none) (tgt := 73) dX12_used_59 (by decide) ?_ ?_
      · refine tr_iconst (v := 1) dX12_used_73 (by decide +kernel) ?_
        refine tr_goto (tgt := 78) dX12_used_74 (by decide) ?_
        refine tr_istore (lv' := [(0, .ref l0), (1, .int l1), (2, .int l2), (3, .int l3), (4, .int 1), (5, .int l5), (6, .int l6)]) [1, 2, 3, 4, 0, 5, 6] dX12_used_78 (by decide) rfl ?_
        refine tr_iinc (k := 6) (v := (l6 + 1)) (lv' := [(0, .ref l0), (1, .int l1), (2, .int l2), (3, .int l3), (4, .int 1), (5, .int l5), (6, .int (l6 + 1))]) [1, 2, 3, 4, 5, 6, 0] dX12_used_80 rfl rfl (by decide) rfl ?_
        refine tr_goto (tgt := 50) dX12_used_83 (by decide) ?_
        exact (fun s y0 y1 y2 y3 y4 y5 y6 g0 => ih s y0 y1 y2 y3 y4 y5 y6 g0) σ l0 l1 l2 l3 1 l5 (l6 + 1) h0
      · refine tr_aload_n (i := 0) dX12_used_62 rfl ?_
        refine tr_getR 12 h0 fl_X12_28 (by decide +kernel) dX12_used_63 ?_
        refine tr_iload (i := 6) dX12_used_66 rfl ?_
        refine tr_ald (rk_12_9 h0) dX12_used_68 (fun v5 => ?_)
        refine tr_iload_n (i := 1) dX12_used_69 rfl ?_
        refine tr_icne (o := none) (tgt := 77) dX12_used_70 (by decide) ?_ ?_
        · refine tr_iconst (v := 0) dX12_used_77 (by decide +kernel) ?_
          refine tr_istore (lv' := [(0, .ref l0), (1, .int l1), (2, .int l2), (3, .int l3), (4, .int 0), (5, .int l5), (6, .int l6)]) [1, 2, 3, 4, 0, 5, 6] dX12_used_78 (by decide) rfl ?_
          refine tr_iinc (k := 6) (v := (l6 + 1)) (lv' := [(0, .ref l0), (1, .int l1), (2, .int l2), (3, .int l3), (4, .int 0), (5, .int l5), (6, .int (l6 + 1))]) [1, 2, 3, 4, 5, 6, 0] dX12_used_80 rfl rfl (by decide) rfl ?_
          refine tr_goto (tgt := 50) dX12_used_83 (by decide) ?_
          exact (fun s y0 y1 y2 y3 y4 y5 y6 g0 => ih s y0 y1 y2 y3 y4 y5 y6 g0) σ l0 l1 l2 l3 0 l5 (l6 + 1) h0
        · refine tr_iconst (v := 1) dX12_used_73 (by decide +kernel) ?_
          refine tr_goto (tgt := 78) dX12_used_74 (by decide) ?_
          refine tr_istore (lv' := [(0, .ref l0), (1, .int l1), (2, .int l2), (3, .int l3), (4, .int 1), (5, .int l5), (6, .int l6)]) [1, 2, 3, 4, 0, 5, 6] dX12_used_78 (by decide) rfl ?_
          refine tr_iinc (k := 6) (v := (l6 + 1)) (lv' := [(0, .ref l0), (1, .int l1), (2, .int l2), (3, .int l3), (4, .int 1), (5, .int l5), (6, .int (l6 + 1))]) [1, 2, 3, 4, 5, 6, 0] dX12_used_80 rfl rfl (by decide) rfl ?_
          refine tr_goto (tgt := 50) dX12_used_83 (by decide) ?_
          exact (fun s y0 y1 y2 y3 y4 y5 y6 g0 => ih s y0 y1 y2 y3 y4 y5 y6 g0) σ l0 l1 l2 l3 1 l5 (l6 + 1) h0
set_option maxRecDepth 100000 in
theorem t_X12_used_14 (G : MG) (hG : (g_l G).stackTraces = false) (d : Nat) (hd : 3 ≤ d)    : ∀ (n : Nat) (σ : MsSt) (l0 : Nat) (l1 : Int32) (l2 : Int32) (l3 : Int32) (h0 : ms_kd l0 = 13), TrO G mX12_used d 0 0 0 0 ms_wi 14 [(0, .ref l0), (1, .int l1), (2, .int l2), (3, .int l3)] [] σ (f_X12_used_14 n σ l0 l1 l2 l3) := by
  intro n
  induction n with
  | zero => exact fun _ _ _ _ _ _ => tr_none
  | succ n ih =>
    intro σ l0 l1 l2 l3 h0
    show TrO G mX12_used d 0 0 0 0 ms_wi 14 [(0, .ref l0), (1, .int l1), (2, .int l2), (3, .int l3)] [] σ ((ms_ald σ (ms_rf l0 0) 0).bind fun v3 => if l3 < v3 then (f_X12_isOfKind σ l0 l3 2).bind fun v4 => if v4 = 0 then f_X12_used_50 (f_X12_used_14 n) ms_fuel σ l0 l1 l2 l3 0 0 0 else ms_b2 (f_X12_expand σ l0 l3) fun v6 s7 => f_X12_used_50 (f_X12_used_14 n) ms_fuel s7 l0 l1 l2 l3 0 v6 0 else some (l2, σ))
    refine tr_iload_n (i := 3) dX12_used_14 rfl ?_
    refine tr_aload_n (i := 0) dX12_used_15 rfl ?_
    refine tr_getR 12 h0 fl_X12_9 (by decide +kernel) dX12_used_16 ?_
    refine tr_iconst (v := 0) dX12_used_19 (by decide +kernel) ?_
    refine tr_ald (rk_12_0 h0) dX12_used_20 (fun v3 => ?_)
    refine tr_icge (o := none) (tgt := 105) dX12_used_21 (by decide) ?_ ?_
    · refine tr_iload_n (i := 2) dX12_used_105 rfl ?_
      exact tr_iret rfl rfl (by decide) (by decide) dX12_used_106
    · refine tr_iconst (v := 0) dX12_used_24 (by decide +kernel) ?_
      refine tr_istore (lv' := [(0, .ref l0), (1, .int l1), (2, .int l2), (3, .int l3), (4, .int 0)]) [1, 2, 3, 4, 0] dX12_used_25 (by decide) rfl ?_
      refine tr_aload_n (i := 0) dX12_used_27 rfl ?_
      refine tr_iload_n (i := 3) dX12_used_28 rfl ?_
      refine tr_iconst (v := 2) dX12_used_29 (by decide +kernel) ?_
      refine tr_c_i (ms_cV (rest := []) (al := [.int l3, .int 2]) 12 (sp_X12_isOfKind G hG (d - 1) (by omega) σ l0 l3 2 h0) h0 (by decide +kernel) kl_X12_128 fv_X12_isOfKind dX12_used_30 (show _ = some 2 by decide +kernel) (by omega) (Nat.le_of_ble_eq_true rfl) (by decide) (by decide)) (fun v4 => ?_)
      refine tr_ifeq (o := none) (tgt := 44) dX12_used_33 (by decide) ?_ ?_
      · refine tr_iconst (v := 0) dX12_used_44 (by decide +kernel) ?_
        refine tr_istore (lv' := [(0, .ref l0), (1, .int l1), (2, .int l2), (3, .int l3), (4, .int 0), (5, .int 0)]) [1, 2, 3, 4, 5, 0] dX12_used_45 (by decide) rfl ?_
        refine tr_iconst (v := 0) dX12_used_47 (by decide +kernel) ?_
        refine tr_istore (lv' := [(0, .ref l0), (1, .int l1), (2, .int l2), (3, .int l3), (4, .int 0), (5, .int 0), (6, .int 0)]) [1, 2, 3, 4, 5, 6, 0] dX12_used_48 (by decide) rfl ?_
        exact t_X12_used_50 G hG d hd (f_X12_used_14 n) (fun s y0 y1 y2 y3 g0 => ih s y0 y1 y2 y3 g0) ms_fuel σ l0 l1 l2 l3 0 0 0 h0
      · refine tr_aload_n (i := 0) dX12_used_36 rfl ?_
        refine tr_iload_n (i := 3) dX12_used_37 rfl ?_
        refine tr_d_wi (ms_cV (rest := []) (al := [.int l3]) 12 (sp_X12_expand G hG (d - 1) (by omega) σ l0 l3 h0) h0 (by decide +kernel) kl_X12_141 fv_X12_expand dX12_used_38 (show _ = some 1 by decide +kernel) (by omega) (Nat.le_of_ble_eq_true rfl) (by decide) (by decide)) (fun v6 s7 => ?_)
        refine tr_goto (tgt := 45) dX12_used_41 (by decide) ?_
        refine tr_istore (lv' := [(0, .ref l0), (1, .int l1), (2, .int l2), (3, .int l3), (4, .int 0), (5, .int v6)]) [1, 2, 3, 4, 5, 0] dX12_used_45 (by decide) rfl ?_
        refine tr_iconst (v := 0) dX12_used_47 (by decide +kernel) ?_
        refine tr_istore (lv' := [(0, .ref l0), (1, .int l1), (2, .int l2), (3, .int l3), (4, .int 0), (5, .int v6), (6, .int 0)]) [1, 2, 3, 4, 5, 6, 0] dX12_used_48 (by decide) rfl ?_
        exact t_X12_used_50 G hG d hd (f_X12_used_14 n) (fun s y0 y1 y2 y3 g0 => ih s y0 y1 y2 y3 g0) ms_fuel s7 l0 l1 l2 l3 0 v6 0 h0
set_option maxRecDepth 100000 in
theorem sp_X12_used (G : MG) (hG : (g_l G).stackTraces = false) (d : Nat) (hd : 3 ≤ d)   (σ : MsSt) (l0 : Nat) (l1 : Int32) (h0 : ms_kd l0 = 13) : MsSpec G mX12_used d 0 0 [.ref l0, .int l1] σ ms_wi (f_X12_used σ l0 l1) := by
  refine ms_start (by decide +kernel) rfl rfl (Nat.le_of_ble_eq_true rfl) ?_
  show TrO G mX12_used d 0 0 0 0 ms_wi 0 [(0, .ref l0), (1, .int l1)] [] σ (ms_b2 (f_X12_noSign σ l0 l1) fun v1 s2 => if v1 = 0 then f_X12_used_14 ms_fuel s2 l0 l1 0 0 else some (0, s2))
  refine tr_aload_n (i := 0) dX12_used_0 rfl ?_
  refine tr_iload_n (i := 1) dX12_used_1 rfl ?_
  refine tr_d_wi (ms_cV (rest := []) (al := [.int l1]) 12 (sp_X12_noSign G hG (d - 1) (by omega) σ l0 l1 h0) h0 (by decide +kernel) kl_X12_233 fv_X12_noSign dX12_used_2 (show _ = some 1 by decide +kernel) (by omega) (Nat.le_of_ble_eq_true rfl) (by decide) (by decide)) (fun v1 s2 => ?_)
  refine tr_ifeq (o := none) (tgt := 10) dX12_used_5 (by decide) ?_ ?_
  · refine tr_iconst (v := 0) dX12_used_10 (by decide +kernel) ?_
    refine tr_istore_n (lv' := [(0, .ref l0), (1, .int l1), (2, .int 0)]) [1, 2, 0] dX12_used_11 (by decide) rfl ?_
    refine tr_iconst (v := 0) dX12_used_12 (by decide +kernel) ?_
    refine tr_istore_n (lv' := [(0, .ref l0), (1, .int l1), (2, .int 0), (3, .int 0)]) [1, 2, 3, 0] dX12_used_13 (by decide) rfl ?_
    exact t_X12_used_14 G hG d hd ms_fuel s2 l0 l1 0 0 h0
  · refine tr_iconst (v := 0) dX12_used_8 (by decide +kernel) ?_
    exact tr_iret rfl rfl (by decide) (by decide) dX12_used_9
theorem dX12_recomposed_0 : decode cX12_recomposed 0 = .ok (.aload_n 0, 1) := by decide +kernel
theorem dX12_recomposed_1 : decode cX12_recomposed 1 = .ok (.iload_n 1, 1) := by decide +kernel
theorem dX12_recomposed_2 : decode cX12_recomposed 2 = .ok (.invokevirtual 233, 3) := by decide +kernel
theorem dX12_recomposed_5 : decode cX12_recomposed 5 = .ok (.ifCond .eq 5, 3) := by decide +kernel
theorem dX12_recomposed_8 : decode cX12_recomposed 8 = .ok (.iconst 0, 1) := by decide +kernel
theorem dX12_recomposed_9 : decode cX12_recomposed 9 = .ok (.ireturn, 1) := by decide +kernel
theorem dX12_recomposed_10 : decode cX12_recomposed 10 = .ok (.aload_n 0, 1) := by decide +kernel
theorem dX12_recomposed_11 : decode cX12_recomposed 11 = .ok (.iconst 0, 1) := by decide +kernel
theorem dX12_recomposed_12 : decode cX12_recomposed 12 = .ok (.putfield 132, 3) := by decide +kernel
theorem dX12_recomposed_15 : decode cX12_recomposed 15 = .ok (.aload_n 0, 1) := by decide +kernel
theorem dX12_recomposed_16 : decode cX12_recomposed 16 = .ok (.iload_n 1, 1) := by decide +kernel
theorem dX12_recomposed_17 : decode cX12_recomposed 17 = .ok (.invokevirtual 152, 3) := by decide +kernel
theorem dX12_recomposed_20 : decode cX12_recomposed 20 = .ok (.aload_n 0, 1) := by decide +kernel
theorem dX12_recomposed_21 : decode cX12_recomposed 21 = .ok (.invokevirtual 165, 3) := by decide +kernel
theorem dX12_recomposed_24 : decode cX12_recomposed 24 = .ok (.aload_n 0, 1) := by decide +kernel
theorem dX12_recomposed_25 : decode cX12_recomposed 25 = .ok (.getfield 34, 3) := by decide +kernel
theorem dX12_recomposed_28 : decode cX12_recomposed 28 = .ok (.iconst 0, 1) := by decide +kernel
theorem dX12_recomposed_29 : decode cX12_recomposed 29 = .ok (.iaload, 1) := by decide +kernel
theorem dX12_recomposed_30 : decode cX12_recomposed 30 = .ok (.ireturn, 1) := by decide +kernel
set_option maxRecDepth 100000 in
theorem sp_X12_recomposed (G : MG) (hG : (g_l G).stackTraces = false) (d : Nat) (hd : 5 ≤ d)   (σ : MsSt) (l0 : Nat) (l1 : Int32) (h0 : ms_kd l0 = 13) : MsSpec G mX12_recomposed d 0 0 [.ref l0, .int l1] σ ms_wi (f_X12_recomposed σ l0 l1) := by
  refine ms_start (by decide +kernel) rfl rfl (Nat.le_of_ble_eq_true rfl) ?_
  show TrO G mX12_recomposed d 0 0 0 0 ms_wi 0 [(0, .ref l0), (1, .int l1)] [] σ (ms_b2 (f_X12_noSign σ l0 l1) fun v1 s2 => if v1 = 0 then ms_nm (ms_si s2 l0 11 0) fun s3 => (f_X12_addExpanded s3 l0 l1).bind fun s4 => (f_X12_layComposed s4 l0).bind fun s5 => (ms_ald s5 (ms_rf l0 13) 0).bind fun v6 => some (v6, s5) else some (0, s2))
  refine tr_aload_n (i := 0) dX12_recomposed_0 rfl ?_
  refine tr_iload_n (i := 1) dX12_recomposed_1 rfl ?_
  refine tr_d_wi (ms_cV (rest := []) (al := [.int l1]) 12 (sp_X12_noSign G hG (d - 1) (by omega) σ l0 l1 h0) h0 (by decide +kernel) kl_X12_233 fv_X12_noSign dX12_recomposed_2 (show _ = some 1 by decide +kernel) (by omega) (Nat.le_of_ble_eq_true rfl) (by decide) (by decide)) (fun v1 s2 => ?_)
  refine tr_ifeq (o := none) (tgt := 10) dX12_recomposed_5 (by decide) ?_ ?_
  · refine tr_aload_n (i := 0) dX12_recomposed_10 rfl ?_
    refine tr_iconst (v := 0) dX12_recomposed_11 (by decide +kernel) ?_
    refine tr_putI 12 h0 fl_X12_132 (by decide +kernel) dX12_recomposed_12 ?_
    refine ms_ltS (fun s3 => ?_)
    refine tr_aload_n (i := 0) dX12_recomposed_15 rfl ?_
    refine tr_iload_n (i := 1) dX12_recomposed_16 rfl ?_
    refine tr_c_wv (ms_cV (rest := []) (al := [.int l1]) 12 (sp_X12_addExpanded G hG (d - 1) (by omega) s3 l0 l1 h0) h0 (by decide +kernel) kl_X12_152 fv_X12_addExpanded dX12_recomposed_17 (show _ = some 1 by decide +kernel) (by omega) (Nat.le_of_ble_eq_true rfl) (by decide) (by decide)) (fun s4 => ?_)
    refine tr_aload_n (i := 0) dX12_recomposed_20 rfl ?_
    refine tr_c_wv (ms_cV (rest := []) (al := []) 12 (sp_X12_layComposed G hG (d - 1) (by omega) s4 l0 h0) h0 (by decide +kernel) kl_X12_165 fv_X12_layComposed dX12_recomposed_21 (show _ = some 0 by decide +kernel) (by omega) (Nat.le_of_ble_eq_true rfl) (by decide) (by decide)) (fun s5 => ?_)
    refine tr_aload_n (i := 0) dX12_recomposed_24 rfl ?_
    refine tr_getR 12 h0 fl_X12_34 (by decide +kernel) dX12_recomposed_25 ?_
    refine tr_iconst (v := 0) dX12_recomposed_28 (by decide +kernel) ?_
    refine tr_ald (rk_12_13 h0) dX12_recomposed_29 (fun v6 => ?_)
    exact tr_iret rfl rfl (by decide) (by decide) dX12_recomposed_30
  · refine tr_iconst (v := 0) dX12_recomposed_8 (by decide +kernel) ?_
    exact tr_iret rfl rfl (by decide) (by decide) dX12_recomposed_9
theorem dX12_widths_0 : decode cX12_widths 0 = .ok (.aload_n 0, 1) := by decide +kernel
theorem dX12_widths_1 : decode cX12_widths 1 = .ok (.aload_n 0, 1) := by decide +kernel
theorem dX12_widths_2 : decode cX12_widths 2 = .ok (.getfield 168, 3) := by decide +kernel
theorem dX12_widths_5 : decode cX12_widths 5 = .ok (.invokevirtual 241, 3) := by decide +kernel
theorem dX12_widths_8 : decode cX12_widths 8 = .ok (.ireturn, 1) := by decide +kernel
set_option maxRecDepth 100000 in
theorem sp_X12_widths (G : MG) (hG : (g_l G).stackTraces = false) (d : Nat) (hd : 6 ≤ d)   (σ : MsSt) (l0 : Nat) (h0 : ms_kd l0 = 13) : MsSpec G mX12_widths d 0 0 [.ref l0] σ (ms_ki σ) (f_X12_widths σ l0) := by
  refine ms_start (by decide +kernel) rfl rfl (Nat.le_of_ble_eq_true rfl) ?_
  show TrO G mX12_widths d 0 0 0 0 (ms_ki σ) 0 [(0, .ref l0)] [] σ ((f_X12_penOf σ l0 (ms_i σ l0 17)).bind fun v1 => some v1)
  refine tr_aload_n (i := 0) dX12_widths_0 rfl ?_
  refine tr_aload_n (i := 0) dX12_widths_1 rfl ?_
  refine tr_getI 12 h0 fl_X12_168 (by decide +kernel) dX12_widths_2 ?_
  refine tr_c_i (ms_cV (rest := []) (al := [.int (ms_i σ l0 17)]) 12 (sp_X12_penOf G hG (d - 1) (by omega) σ l0 (ms_i σ l0 17) h0) h0 (by decide +kernel) kl_X12_241 fv_X12_penOf dX12_widths_5 (show _ = some 1 by decide +kernel) (by omega) (Nat.le_of_ble_eq_true rfl) (by decide) (by decide)) (fun v1 => ?_)
  exact tr_iret rfl rfl (by decide) (by decide) dX12_widths_8
