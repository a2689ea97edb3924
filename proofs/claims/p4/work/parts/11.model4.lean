abbrev xb_Mo_newRequire : ByteArray := prog_12_method_17_code
def xy_Mo_newRequire : MethodName := ⟨"LayerDeskModel", "newRequire", "()I"⟩
theorem xd_Mo_newRequire_0 : decode xb_Mo_newRequire 0 = .ok (.iconst 1, 1) := by decide +kernel
theorem xd_Mo_newRequire_1 : decode xb_Mo_newRequire 1 = .ok (.istore_n 1, 1) := by decide +kernel
theorem xd_Mo_newRequire_2 : decode xb_Mo_newRequire 2 = .ok (.aload_n 0, 1) := by decide +kernel
theorem xd_Mo_newRequire_3 : decode xb_Mo_newRequire 3 = .ok (.getfield 94, 3) := by decide +kernel
theorem xd_Mo_newRequire_6 : decode xb_Mo_newRequire 6 = .ok (.iconst 2, 1) := by decide +kernel
theorem xd_Mo_newRequire_7 : decode xb_Mo_newRequire 7 = .ok (.if_icmp .le 41, 3) := by decide +kernel
theorem xd_Mo_newRequire_10 : decode xb_Mo_newRequire 10 = .ok (.aload_n 0, 1) := by decide +kernel
theorem xd_Mo_newRequire_11 : decode xb_Mo_newRequire 11 = .ok (.iconst 1, 1) := by decide +kernel
theorem xd_Mo_newRequire_12 : decode xb_Mo_newRequire 12 = .ok (.bipush 116, 2) := by decide +kernel
theorem xd_Mo_newRequire_14 : decode xb_Mo_newRequire 14 = .ok (.bipush 114, 2) := by decide +kernel
theorem xd_Mo_newRequire_16 : decode xb_Mo_newRequire 16 = .ok (.bipush 97, 2) := by decide +kernel
theorem xd_Mo_newRequire_18 : decode xb_Mo_newRequire 18 = .ok (.bipush 110, 2) := by decide +kernel
theorem xd_Mo_newRequire_20 : decode xb_Mo_newRequire 20 = .ok (.bipush 115, 2) := by decide +kernel
theorem xd_Mo_newRequire_22 : decode xb_Mo_newRequire 22 = .ok (.invokestatic 104, 3) := by decide +kernel
theorem xd_Mo_newRequire_25 : decode xb_Mo_newRequire 25 = .ok (.bipush 105, 2) := by decide +kernel
theorem xd_Mo_newRequire_27 : decode xb_Mo_newRequire 27 = .ok (.bipush 116, 2) := by decide +kernel
theorem xd_Mo_newRequire_29 : decode xb_Mo_newRequire 29 = .ok (.bipush 105, 2) := by decide +kernel
theorem xd_Mo_newRequire_31 : decode xb_Mo_newRequire 31 = .ok (.bipush 118, 2) := by decide +kernel
theorem xd_Mo_newRequire_33 : decode xb_Mo_newRequire 33 = .ok (.bipush 101, 2) := by decide +kernel
theorem xd_Mo_newRequire_35 : decode xb_Mo_newRequire 35 = .ok (.invokestatic 104, 3) := by decide +kernel
theorem xd_Mo_newRequire_38 : decode xb_Mo_newRequire 38 = .ok (.invokevirtual 108, 3) := by decide +kernel
theorem xd_Mo_newRequire_41 : decode xb_Mo_newRequire 41 = .ok (.ifCond .eq 7, 3) := by decide +kernel
theorem xd_Mo_newRequire_44 : decode xb_Mo_newRequire 44 = .ok (.iconst 1, 1) := by decide +kernel
theorem xd_Mo_newRequire_45 : decode xb_Mo_newRequire 45 = .ok (.goto 4, 3) := by decide +kernel
theorem xd_Mo_newRequire_48 : decode xb_Mo_newRequire 48 = .ok (.iconst 0, 1) := by decide +kernel
theorem xd_Mo_newRequire_49 : decode xb_Mo_newRequire 49 = .ok (.istore_n 2, 1) := by decide +kernel
theorem xd_Mo_newRequire_50 : decode xb_Mo_newRequire 50 = .ok (.iload_n 2, 1) := by decide +kernel
theorem xd_Mo_newRequire_51 : decode xb_Mo_newRequire 51 = .ok (.ifCond .eq 7, 3) := by decide +kernel
theorem xd_Mo_newRequire_54 : decode xb_Mo_newRequire 54 = .ok (.iconst 2, 1) := by decide +kernel
theorem xd_Mo_newRequire_55 : decode xb_Mo_newRequire 55 = .ok (.goto 4, 3) := by decide +kernel
theorem xd_Mo_newRequire_58 : decode xb_Mo_newRequire 58 = .ok (.iconst 1, 1) := by decide +kernel
theorem xd_Mo_newRequire_59 : decode xb_Mo_newRequire 59 = .ok (.istore_n 1, 1) := by decide +kernel
theorem xd_Mo_newRequire_60 : decode xb_Mo_newRequire 60 = .ok (.aload_n 0, 1) := by decide +kernel
theorem xd_Mo_newRequire_61 : decode xb_Mo_newRequire 61 = .ok (.getfield 94, 3) := by decide +kernel
theorem xd_Mo_newRequire_64 : decode xb_Mo_newRequire 64 = .ok (.iload_n 1, 1) := by decide +kernel
theorem xd_Mo_newRequire_65 : decode xb_Mo_newRequire 65 = .ok (.iconst 1, 1) := by decide +kernel
theorem xd_Mo_newRequire_66 : decode xb_Mo_newRequire 66 = .ok (.iadd, 1) := by decide +kernel
theorem xd_Mo_newRequire_67 : decode xb_Mo_newRequire 67 = .ok (.if_icmp .le 37, 3) := by decide +kernel
theorem xd_Mo_newRequire_70 : decode xb_Mo_newRequire 70 = .ok (.aload_n 0, 1) := by decide +kernel
theorem xd_Mo_newRequire_71 : decode xb_Mo_newRequire 71 = .ok (.iload_n 1, 1) := by decide +kernel
theorem xd_Mo_newRequire_72 : decode xb_Mo_newRequire 72 = .ok (.bipush 115, 2) := by decide +kernel
theorem xd_Mo_newRequire_74 : decode xb_Mo_newRequire 74 = .ok (.bipush 116, 2) := by decide +kernel
theorem xd_Mo_newRequire_76 : decode xb_Mo_newRequire 76 = .ok (.bipush 97, 2) := by decide +kernel
theorem xd_Mo_newRequire_78 : decode xb_Mo_newRequire 78 = .ok (.bipush 116, 2) := by decide +kernel
theorem xd_Mo_newRequire_80 : decode xb_Mo_newRequire 80 = .ok (.bipush 105, 2) := by decide +kernel
theorem xd_Mo_newRequire_82 : decode xb_Mo_newRequire 82 = .ok (.invokestatic 104, 3) := by decide +kernel
theorem xd_Mo_newRequire_85 : decode xb_Mo_newRequire 85 = .ok (.bipush 99, 2) := by decide +kernel
theorem xd_Mo_newRequire_87 : decode xb_Mo_newRequire 87 = .ok (.iconst 0, 1) := by decide +kernel
theorem xd_Mo_newRequire_88 : decode xb_Mo_newRequire 88 = .ok (.iconst 0, 1) := by decide +kernel
theorem xd_Mo_newRequire_89 : decode xb_Mo_newRequire 89 = .ok (.iconst 0, 1) := by decide +kernel
theorem xd_Mo_newRequire_90 : decode xb_Mo_newRequire 90 = .ok (.iconst 0, 1) := by decide +kernel
theorem xd_Mo_newRequire_91 : decode xb_Mo_newRequire 91 = .ok (.invokestatic 104, 3) := by decide +kernel
theorem xd_Mo_newRequire_94 : decode xb_Mo_newRequire 94 = .ok (.invokevirtual 108, 3) := by decide +kernel
theorem xd_Mo_newRequire_97 : decode xb_Mo_newRequire 97 = .ok (.ifCond .eq 7, 3) := by decide +kernel
theorem xd_Mo_newRequire_100 : decode xb_Mo_newRequire 100 = .ok (.iconst 1, 1) := by decide +kernel
theorem xd_Mo_newRequire_101 : decode xb_Mo_newRequire 101 = .ok (.goto 4, 3) := by decide +kernel
theorem xd_Mo_newRequire_104 : decode xb_Mo_newRequire 104 = .ok (.iconst 0, 1) := by decide +kernel
theorem xd_Mo_newRequire_105 : decode xb_Mo_newRequire 105 = .ok (.istore_n 3, 1) := by decide +kernel
theorem xd_Mo_newRequire_106 : decode xb_Mo_newRequire 106 = .ok (.iload_n 3, 1) := by decide +kernel
theorem xd_Mo_newRequire_107 : decode xb_Mo_newRequire 107 = .ok (.ifCond .eq 9, 3) := by decide +kernel
theorem xd_Mo_newRequire_110 : decode xb_Mo_newRequire 110 = .ok (.iload_n 1, 1) := by decide +kernel
theorem xd_Mo_newRequire_111 : decode xb_Mo_newRequire 111 = .ok (.iconst 1, 1) := by decide +kernel
theorem xd_Mo_newRequire_112 : decode xb_Mo_newRequire 112 = .ok (.iadd, 1) := by decide +kernel
theorem xd_Mo_newRequire_113 : decode xb_Mo_newRequire 113 = .ok (.goto 4, 3) := by decide +kernel
theorem xd_Mo_newRequire_116 : decode xb_Mo_newRequire 116 = .ok (.iload_n 1, 1) := by decide +kernel
theorem xd_Mo_newRequire_117 : decode xb_Mo_newRequire 117 = .ok (.istore_n 1, 1) := by decide +kernel
theorem xd_Mo_newRequire_118 : decode xb_Mo_newRequire 118 = .ok (.aload_n 0, 1) := by decide +kernel
theorem xd_Mo_newRequire_119 : decode xb_Mo_newRequire 119 = .ok (.getfield 94, 3) := by decide +kernel
theorem xd_Mo_newRequire_122 : decode xb_Mo_newRequire 122 = .ok (.iload_n 1, 1) := by decide +kernel
theorem xd_Mo_newRequire_123 : decode xb_Mo_newRequire 123 = .ok (.iconst 1, 1) := by decide +kernel
theorem xd_Mo_newRequire_124 : decode xb_Mo_newRequire 124 = .ok (.iadd, 1) := by decide +kernel
theorem xd_Mo_newRequire_125 : decode xb_Mo_newRequire 125 = .ok (.if_icmp .ne 11, 3) := by decide +kernel
theorem xd_Mo_newRequire_128 : decode xb_Mo_newRequire 128 = .ok (.aload_n 0, 1) := by decide +kernel
theorem xd_Mo_newRequire_129 : decode xb_Mo_newRequire 129 = .ok (.iload_n 1, 1) := by decide +kernel
theorem xd_Mo_newRequire_130 : decode xb_Mo_newRequire 130 = .ok (.invokevirtual 133, 3) := by decide +kernel
theorem xd_Mo_newRequire_133 : decode xb_Mo_newRequire 133 = .ok (.goto 4, 3) := by decide +kernel
theorem xd_Mo_newRequire_136 : decode xb_Mo_newRequire 136 = .ok (.iconst 0, 1) := by decide +kernel
theorem xd_Mo_newRequire_137 : decode xb_Mo_newRequire 137 = .ok (.istore 4, 2) := by decide +kernel
theorem xd_Mo_newRequire_139 : decode xb_Mo_newRequire 139 = .ok (.iload 4, 2) := by decide +kernel
theorem xd_Mo_newRequire_141 : decode xb_Mo_newRequire 141 = .ok (.ifCond .ne 5, 3) := by decide +kernel
theorem xd_Mo_newRequire_144 : decode xb_Mo_newRequire 144 = .ok (.iconst (-1), 1) := by decide +kernel
theorem xd_Mo_newRequire_145 : decode xb_Mo_newRequire 145 = .ok (.ireturn, 1) := by decide +kernel
theorem xd_Mo_newRequire_146 : decode xb_Mo_newRequire 146 = .ok (.aload_n 0, 1) := by decide +kernel
theorem xd_Mo_newRequire_147 : decode xb_Mo_newRequire 147 = .ok (.getfield 140, 3) := by decide +kernel
theorem xd_Mo_newRequire_150 : decode xb_Mo_newRequire 150 = .ok (.iconst 1, 1) := by decide +kernel
theorem xd_Mo_newRequire_151 : decode xb_Mo_newRequire 151 = .ok (.isub, 1) := by decide +kernel
theorem xd_Mo_newRequire_152 : decode xb_Mo_newRequire 152 = .ok (.istore 5, 2) := by decide +kernel
theorem xd_Mo_newRequire_154 : decode xb_Mo_newRequire 154 = .ok (.iload 5, 2) := by decide +kernel
theorem xd_Mo_newRequire_156 : decode xb_Mo_newRequire 156 = .ok (.ifCond .lt 19, 3) := by decide +kernel
theorem xd_Mo_newRequire_159 : decode xb_Mo_newRequire 159 = .ok (.aload_n 0, 1) := by decide +kernel
theorem xd_Mo_newRequire_160 : decode xb_Mo_newRequire 160 = .ok (.getfield 23, 3) := by decide +kernel
theorem xd_Mo_newRequire_163 : decode xb_Mo_newRequire 163 = .ok (.iload 5, 2) := by decide +kernel
theorem xd_Mo_newRequire_165 : decode xb_Mo_newRequire 165 = .ok (.iaload, 1) := by decide +kernel
theorem xd_Mo_newRequire_166 : decode xb_Mo_newRequire 166 = .ok (.iload 4, 2) := by decide +kernel
theorem xd_Mo_newRequire_168 : decode xb_Mo_newRequire 168 = .ok (.if_icmp .ne 7, 3) := by decide +kernel
theorem xd_Mo_newRequire_171 : decode xb_Mo_newRequire 171 = .ok (.iconst 1, 1) := by decide +kernel
theorem xd_Mo_newRequire_172 : decode xb_Mo_newRequire 172 = .ok (.goto 4, 3) := by decide +kernel
theorem xd_Mo_newRequire_175 : decode xb_Mo_newRequire 175 = .ok (.iconst 0, 1) := by decide +kernel
theorem xd_Mo_newRequire_176 : decode xb_Mo_newRequire 176 = .ok (.istore 6, 2) := by decide +kernel
theorem xd_Mo_newRequire_178 : decode xb_Mo_newRequire 178 = .ok (.iconst 5, 1) := by decide +kernel
theorem xd_Mo_newRequire_179 : decode xb_Mo_newRequire 179 = .ok (.iload 5, 2) := by decide +kernel
theorem xd_Mo_newRequire_181 : decode xb_Mo_newRequire 181 = .ok (.imul, 1) := by decide +kernel
theorem xd_Mo_newRequire_182 : decode xb_Mo_newRequire 182 = .ok (.istore 7, 2) := by decide +kernel
theorem xd_Mo_newRequire_184 : decode xb_Mo_newRequire 184 = .ok (.iload 5, 2) := by decide +kernel
theorem xd_Mo_newRequire_186 : decode xb_Mo_newRequire 186 = .ok (.ifCond .lt 50, 3) := by decide +kernel
theorem xd_Mo_newRequire_189 : decode xb_Mo_newRequire 189 = .ok (.iload 7, 2) := by decide +kernel
theorem xd_Mo_newRequire_191 : decode xb_Mo_newRequire 191 = .ok (.iconst 5, 1) := by decide +kernel
theorem xd_Mo_newRequire_192 : decode xb_Mo_newRequire 192 = .ok (.iload 5, 2) := by decide +kernel
theorem xd_Mo_newRequire_194 : decode xb_Mo_newRequire 194 = .ok (.imul, 1) := by decide +kernel
theorem xd_Mo_newRequire_195 : decode xb_Mo_newRequire 195 = .ok (.aload_n 0, 1) := by decide +kernel
theorem xd_Mo_newRequire_196 : decode xb_Mo_newRequire 196 = .ok (.getfield 48, 3) := by decide +kernel
theorem xd_Mo_newRequire_199 : decode xb_Mo_newRequire 199 = .ok (.iload 5, 2) := by decide +kernel
theorem xd_Mo_newRequire_201 : decode xb_Mo_newRequire 201 = .ok (.iaload, 1) := by decide +kernel
theorem xd_Mo_newRequire_202 : decode xb_Mo_newRequire 202 = .ok (.iadd, 1) := by decide +kernel
theorem xd_Mo_newRequire_203 : decode xb_Mo_newRequire 203 = .ok (.if_icmp .ge 33, 3) := by decide +kernel
theorem xd_Mo_newRequire_206 : decode xb_Mo_newRequire 206 = .ok (.iload 6, 2) := by decide +kernel
theorem xd_Mo_newRequire_208 : decode xb_Mo_newRequire 208 = .ok (.ifCond .ne 15, 3) := by decide +kernel
theorem xd_Mo_newRequire_211 : decode xb_Mo_newRequire 211 = .ok (.aload_n 0, 1) := by decide +kernel
theorem xd_Mo_newRequire_212 : decode xb_Mo_newRequire 212 = .ok (.getfield 51, 3) := by decide +kernel
theorem xd_Mo_newRequire_215 : decode xb_Mo_newRequire 215 = .ok (.iload 7, 2) := by decide +kernel
theorem xd_Mo_newRequire_217 : decode xb_Mo_newRequire 217 = .ok (.iaload, 1) := by decide +kernel
theorem xd_Mo_newRequire_218 : decode xb_Mo_newRequire 218 = .ok (.iload 4, 2) := by decide +kernel
theorem xd_Mo_newRequire_220 : decode xb_Mo_newRequire 220 = .ok (.if_icmp .ne 7, 3) := by decide +kernel
theorem xd_Mo_newRequire_223 : decode xb_Mo_newRequire 223 = .ok (.iconst 1, 1) := by decide +kernel
theorem xd_Mo_newRequire_224 : decode xb_Mo_newRequire 224 = .ok (.goto 4, 3) := by decide +kernel
theorem xd_Mo_newRequire_227 : decode xb_Mo_newRequire 227 = .ok (.iconst 0, 1) := by decide +kernel
theorem xd_Mo_newRequire_228 : decode xb_Mo_newRequire 228 = .ok (.istore 6, 2) := by decide +kernel
theorem xd_Mo_newRequire_230 : decode xb_Mo_newRequire 230 = .ok (.iinc 7 1, 3) := by decide +kernel
theorem xd_Mo_newRequire_233 : decode xb_Mo_newRequire 233 = .ok (.goto (-49), 3) := by decide +kernel
theorem xd_Mo_newRequire_236 : decode xb_Mo_newRequire 236 = .ok (.iload 6, 2) := by decide +kernel
theorem xd_Mo_newRequire_238 : decode xb_Mo_newRequire 238 = .ok (.ifCond .eq 5, 3) := by decide +kernel
theorem xd_Mo_newRequire_241 : decode xb_Mo_newRequire 241 = .ok (.iconst (-1), 1) := by decide +kernel
theorem xd_Mo_newRequire_242 : decode xb_Mo_newRequire 242 = .ok (.ireturn, 1) := by decide +kernel
theorem xd_Mo_newRequire_243 : decode xb_Mo_newRequire 243 = .ok (.aload_n 0, 1) := by decide +kernel
theorem xd_Mo_newRequire_244 : decode xb_Mo_newRequire 244 = .ok (.invokevirtual 146, 3) := by decide +kernel
theorem xd_Mo_newRequire_247 : decode xb_Mo_newRequire 247 = .ok (.ifCond .ne 14, 3) := by decide +kernel
theorem xd_Mo_newRequire_250 : decode xb_Mo_newRequire 250 = .ok (.aload_n 0, 1) := by decide +kernel
theorem xd_Mo_newRequire_251 : decode xb_Mo_newRequire 251 = .ok (.getfield 48, 3) := by decide +kernel
theorem xd_Mo_newRequire_254 : decode xb_Mo_newRequire 254 = .ok (.iload 5, 2) := by decide +kernel
theorem xd_Mo_newRequire_256 : decode xb_Mo_newRequire 256 = .ok (.iaload, 1) := by decide +kernel
theorem xd_Mo_newRequire_257 : decode xb_Mo_newRequire 257 = .ok (.iconst 5, 1) := by decide +kernel
theorem xd_Mo_newRequire_258 : decode xb_Mo_newRequire 258 = .ok (.if_icmp .ne 6, 3) := by decide +kernel
theorem xd_Mo_newRequire_261 : decode xb_Mo_newRequire 261 = .ok (.bipush (-2), 2) := by decide +kernel
theorem xd_Mo_newRequire_263 : decode xb_Mo_newRequire 263 = .ok (.ireturn, 1) := by decide +kernel
theorem xd_Mo_newRequire_264 : decode xb_Mo_newRequire 264 = .ok (.aload_n 0, 1) := by decide +kernel
theorem xd_Mo_newRequire_265 : decode xb_Mo_newRequire 265 = .ok (.getfield 51, 3) := by decide +kernel
theorem xd_Mo_newRequire_268 : decode xb_Mo_newRequire 268 = .ok (.iconst 5, 1) := by decide +kernel
theorem xd_Mo_newRequire_269 : decode xb_Mo_newRequire 269 = .ok (.iload 5, 2) := by decide +kernel
theorem xd_Mo_newRequire_271 : decode xb_Mo_newRequire 271 = .ok (.imul, 1) := by decide +kernel
theorem xd_Mo_newRequire_272 : decode xb_Mo_newRequire 272 = .ok (.aload_n 0, 1) := by decide +kernel
theorem xd_Mo_newRequire_273 : decode xb_Mo_newRequire 273 = .ok (.getfield 48, 3) := by decide +kernel
theorem xd_Mo_newRequire_276 : decode xb_Mo_newRequire 276 = .ok (.iload 5, 2) := by decide +kernel
theorem xd_Mo_newRequire_278 : decode xb_Mo_newRequire 278 = .ok (.iaload, 1) := by decide +kernel
theorem xd_Mo_newRequire_279 : decode xb_Mo_newRequire 279 = .ok (.iadd, 1) := by decide +kernel
theorem xd_Mo_newRequire_280 : decode xb_Mo_newRequire 280 = .ok (.iload 4, 2) := by decide +kernel
theorem xd_Mo_newRequire_282 : decode xb_Mo_newRequire 282 = .ok (.iastore, 1) := by decide +kernel
theorem xd_Mo_newRequire_283 : decode xb_Mo_newRequire 283 = .ok (.aload_n 0, 1) := by decide +kernel
theorem xd_Mo_newRequire_284 : decode xb_Mo_newRequire 284 = .ok (.getfield 60, 3) := by decide +kernel
theorem xd_Mo_newRequire_287 : decode xb_Mo_newRequire 287 = .ok (.iconst 5, 1) := by decide +kernel
theorem xd_Mo_newRequire_288 : decode xb_Mo_newRequire 288 = .ok (.iload 5, 2) := by decide +kernel
theorem xd_Mo_newRequire_290 : decode xb_Mo_newRequire 290 = .ok (.imul, 1) := by decide +kernel
theorem xd_Mo_newRequire_291 : decode xb_Mo_newRequire 291 = .ok (.aload_n 0, 1) := by decide +kernel
theorem xd_Mo_newRequire_292 : decode xb_Mo_newRequire 292 = .ok (.getfield 48, 3) := by decide +kernel
theorem xd_Mo_newRequire_295 : decode xb_Mo_newRequire 295 = .ok (.iload 5, 2) := by decide +kernel
theorem xd_Mo_newRequire_297 : decode xb_Mo_newRequire 297 = .ok (.iaload, 1) := by decide +kernel
theorem xd_Mo_newRequire_298 : decode xb_Mo_newRequire 298 = .ok (.iadd, 1) := by decide +kernel
theorem xd_Mo_newRequire_299 : decode xb_Mo_newRequire 299 = .ok (.iload_n 2, 1) := by decide +kernel
theorem xd_Mo_newRequire_300 : decode xb_Mo_newRequire 300 = .ok (.bastore, 1) := by decide +kernel
theorem xd_Mo_newRequire_301 : decode xb_Mo_newRequire 301 = .ok (.aload_n 0, 1) := by decide +kernel
theorem xd_Mo_newRequire_302 : decode xb_Mo_newRequire 302 = .ok (.getfield 63, 3) := by decide +kernel
theorem xd_Mo_newRequire_305 : decode xb_Mo_newRequire 305 = .ok (.iconst 5, 1) := by decide +kernel
theorem xd_Mo_newRequire_306 : decode xb_Mo_newRequire 306 = .ok (.iload 5, 2) := by decide +kernel
theorem xd_Mo_newRequire_308 : decode xb_Mo_newRequire 308 = .ok (.imul, 1) := by decide +kernel
theorem xd_Mo_newRequire_309 : decode xb_Mo_newRequire 309 = .ok (.aload_n 0, 1) := by decide +kernel
theorem xd_Mo_newRequire_310 : decode xb_Mo_newRequire 310 = .ok (.getfield 48, 3) := by decide +kernel
theorem xd_Mo_newRequire_313 : decode xb_Mo_newRequire 313 = .ok (.iload 5, 2) := by decide +kernel
theorem xd_Mo_newRequire_315 : decode xb_Mo_newRequire 315 = .ok (.iaload, 1) := by decide +kernel
theorem xd_Mo_newRequire_316 : decode xb_Mo_newRequire 316 = .ok (.iadd, 1) := by decide +kernel
theorem xd_Mo_newRequire_317 : decode xb_Mo_newRequire 317 = .ok (.iload_n 3, 1) := by decide +kernel
theorem xd_Mo_newRequire_318 : decode xb_Mo_newRequire 318 = .ok (.bastore, 1) := by decide +kernel
theorem xd_Mo_newRequire_319 : decode xb_Mo_newRequire 319 = .ok (.aload_n 0, 1) := by decide +kernel
theorem xd_Mo_newRequire_320 : decode xb_Mo_newRequire 320 = .ok (.getfield 48, 3) := by decide +kernel
theorem xd_Mo_newRequire_323 : decode xb_Mo_newRequire 323 = .ok (.iload 5, 2) := by decide +kernel
theorem xd_Mo_newRequire_325 : decode xb_Mo_newRequire 325 = .ok (.dup2, 1) := by decide +kernel
theorem xd_Mo_newRequire_326 : decode xb_Mo_newRequire 326 = .ok (.iaload, 1) := by decide +kernel
theorem xd_Mo_newRequire_327 : decode xb_Mo_newRequire 327 = .ok (.iconst 1, 1) := by decide +kernel
theorem xd_Mo_newRequire_328 : decode xb_Mo_newRequire 328 = .ok (.iadd, 1) := by decide +kernel
theorem xd_Mo_newRequire_329 : decode xb_Mo_newRequire 329 = .ok (.iastore, 1) := by decide +kernel
theorem xd_Mo_newRequire_330 : decode xb_Mo_newRequire 330 = .ok (.iconst 2, 1) := by decide +kernel
theorem xd_Mo_newRequire_331 : decode xb_Mo_newRequire 331 = .ok (.ireturn, 1) := by decide +kernel
theorem xq_0 : (Cond.fieldLink "LayerDeskModel" 94 "LayerDeskModel" "words" "I") ∈ wT := wT_t (List.mem_append_right _ (List.mem_append_right _ (List.mem_append_right _ (List.mem_append_left _ (List.mem_of_getElem? (i := 88) rfl))))) rfl
theorem xq_1 : (Cond.code xy_Mo_nameOf xb_Mo_nameOf 4 (some .int)) ∈ wT := wT_t (List.mem_append_right _ (List.mem_append_right _ (List.mem_append_right _ (List.mem_append_left _ (List.mem_of_getElem? (i := 212) rfl))))) rfl
theorem xq_2 : (Cond.methodLink "LayerDeskModel" 133 xy_Mo_nameOf) ∈ wT := wT_t (List.mem_append_right _ (List.mem_append_right _ (List.mem_append_right _ (List.mem_append_left _ (List.mem_of_getElem? (i := 209) rfl))))) rfl
theorem xq_3 : (Cond.instanceMethod xy_Mo_nameOf) ∈ wT := wT_t (List.mem_append_right _ (List.mem_append_right _ (List.mem_append_right _ (List.mem_append_left _ (List.mem_of_getElem? (i := 211) rfl))))) rfl
theorem xq_4 : (Cond.selects "LayerDeskModel" xy_Mo_nameOf xy_Mo_nameOf) ∈ wT := wT_s (q := (xy_Mo_nameOf, 31)) (by decide +kernel) rfl
theorem xq_5 : (Cond.initialized "LayerDeskModel") ∈ wT := wT_t (List.mem_append_left _ (List.mem_of_getElem? (i := 5) rfl)) rfl
theorem xq_6 : (Cond.fieldLink "LayerDeskModel" 140 "LayerDeskModel" "descriptors" "I") ∈ wT := wT_t (List.mem_append_right _ (List.mem_append_right _ (List.mem_append_right _ (List.mem_append_left _ (List.mem_of_getElem? (i := 91) rfl))))) rfl
theorem xq_7 : (Cond.code xy_Mo_isShut xb_Mo_isShut 1 (some .boolean)) ∈ wT := wT_t (List.mem_append_right _ (List.mem_append_right _ (List.mem_append_right _ (List.mem_append_left _ (List.mem_of_getElem? (i := 228) rfl))))) rfl
theorem xq_8 : (Cond.methodLink "LayerDeskModel" 146 xy_Mo_isShut) ∈ wT := wT_t (List.mem_append_right _ (List.mem_append_right _ (List.mem_append_right _ (List.mem_append_left _ (List.mem_of_getElem? (i := 225) rfl))))) rfl
theorem xq_9 : (Cond.instanceMethod xy_Mo_isShut) ∈ wT := wT_t (List.mem_append_right _ (List.mem_append_right _ (List.mem_append_right _ (List.mem_append_left _ (List.mem_of_getElem? (i := 227) rfl))))) rfl
theorem xq_10 : (Cond.selects "LayerDeskModel" xy_Mo_isShut xy_Mo_isShut) ∈ wT := wT_s (q := (xy_Mo_isShut, 31)) (by decide +kernel) rfl
theorem xq_11 : (Cond.fieldLink "LayerDeskModel" 23 "LayerDeskModel" "name" "[I") ∈ wT := wT_t (List.mem_append_right _ (List.mem_append_right _ (List.mem_append_right _ (List.mem_append_left _ (List.mem_of_getElem? (i := 93) rfl))))) rfl
theorem xq_12 : (Cond.fieldLink "LayerDeskModel" 48 "LayerDeskModel" "requires" "[I") ∈ wT := wT_t (List.mem_append_right _ (List.mem_append_right _ (List.mem_append_right _ (List.mem_append_left _ (List.mem_of_getElem? (i := 101) rfl))))) rfl
theorem xq_13 : (Cond.fieldLink "LayerDeskModel" 51 "LayerDeskModel" "require" "[I") ∈ wT := wT_t (List.mem_append_right _ (List.mem_append_right _ (List.mem_append_right _ (List.mem_append_left _ (List.mem_of_getElem? (i := 102) rfl))))) rfl
theorem xq_14 : (Cond.fieldLink "LayerDeskModel" 60 "LayerDeskModel" "passes" "[Z") ∈ wT := wT_t (List.mem_append_right _ (List.mem_append_right _ (List.mem_append_right _ (List.mem_append_left _ (List.mem_of_getElem? (i := 105) rfl))))) rfl
theorem xq_15 : (Cond.fieldLink "LayerDeskModel" 63 "LayerDeskModel" "still" "[Z") ∈ wT := wT_t (List.mem_append_right _ (List.mem_append_right _ (List.mem_append_right _ (List.mem_append_left _ (List.mem_of_getElem? (i := 106) rfl))))) rfl
theorem xq_16 : (Cond.code xy_Mo_code xb_Mo_code 6 (some .int)) ∈ wT := wT_t (List.mem_append_right _ (List.mem_append_right _ (List.mem_append_right _ (List.mem_append_left _ (List.mem_of_getElem? (i := 196) rfl))))) rfl
theorem xq_17 : (Cond.methodLink "LayerDeskModel" 104 xy_Mo_code) ∈ wT := wT_t (List.mem_append_right _ (List.mem_append_right _ (List.mem_append_right _ (List.mem_append_left _ (List.mem_of_getElem? (i := 194) rfl))))) rfl
theorem xq_18 : (Cond.static xy_Mo_code) ∈ wT := wT_t (List.mem_append_right _ (List.mem_append_right _ (List.mem_append_right _ (List.mem_append_left _ (List.mem_of_getElem? (i := 195) rfl))))) rfl
theorem xq_19 : (Cond.code xy_Mo_says xb_Mo_says 8 (some .boolean)) ∈ wT := wT_t (List.mem_append_right _ (List.mem_append_right _ (List.mem_append_right _ (List.mem_append_left _ (List.mem_of_getElem? (i := 200) rfl))))) rfl
theorem xq_20 : (Cond.methodLink "LayerDeskModel" 108 xy_Mo_says) ∈ wT := wT_t (List.mem_append_right _ (List.mem_append_right _ (List.mem_append_right _ (List.mem_append_left _ (List.mem_of_getElem? (i := 197) rfl))))) rfl
theorem xq_21 : (Cond.instanceMethod xy_Mo_says) ∈ wT := wT_t (List.mem_append_right _ (List.mem_append_right _ (List.mem_append_right _ (List.mem_append_left _ (List.mem_of_getElem? (i := 199) rfl))))) rfl
theorem xq_22 : (Cond.selects "LayerDeskModel" xy_Mo_says xy_Mo_says) ∈ wT := wT_s (q := (xy_Mo_says, 31)) (by decide +kernel) rfl
set_option maxHeartbeats 4000000 in
set_option maxRecDepth 100000 in
theorem xc_Mo_newRequire (l : Launch) (D : va_G) (kA : Nat → ClassId) (sz h : Nat) (mm : Nat → Nat) (v : Nat → Int32) (g : Nat → Nat → Int32) (wn : Nat) (hMI : MI v g) (hWI : WI v g wn) : Met l xy_Mo_newRequire (.code xy_Mo_newRequire xb_Mo_newRequire 8 (some .int) :: wT) { frames := 2, cells := 0, slots := 0, locals := 49 } (va_Pc [.ref h] (xPre D kA sz (moW h mm kA v g))) (va_Qi (fun (r : Int32) (u : (Nat → Int32) × (Nat → Nat → Int32)) => MI u.1 u.2 ∧ u.1 2 = v 2 ∧ (r = -1 ∨ r = -2 ∨ r = 1 ∨ r = 2)) (fun (u : (Nat → Int32) × (Nat → Nat → Int32)) t => va_P D xcl (moW h mm kA u.1 u.2) t.heap ∧ va_D (va_A (moW h mm kA v g) sz) (moW h mm kA u.1 u.2)) (va_A (moW h mm kA v g) sz)) 0 0 (va_A (moW h mm kA v g) sz) := by
  refine Met.ofW (cc := xb_Mo_newRequire) (maxL := 8) (ret := (some .int)) (by decide) rfl ?_
  intro p e s m args below meth c s₁ B hml hv
  obtain ⟨rfl, hsz, hP, hK, hD0⟩ := hv
  have hx := B.exec
  have hb := B.bytes
  have hr := B.returns
  have hT := x_hT B.pre
  have hown : s.vm.findClass xR_Mo = some m.cls := findClass_of_methodNamed B.named
  have hlocks := B.notSynchronized
  subst hsz
  have hD := hD0.self (sz := s.heap.size)
  generalize hAe : va_A (moW h mm kA v g) s.heap.size = A at hD ⊢
  have hA : ∀ q : Nat, s.heap.size ≤ q → A q := fun q h => by rw [← hAe]; exact Or.inr h
  have hS : va_S A s.heap s.heap [] := va_S.rf
  have hl := lv_entry ([.ref h]) (n := 8) (Nat.le_of_ble_eq_true rfl)
  rw [lg_entry_eq]
  generalize (lg_sl ([.ref h]) ++ List.replicate (8 - (lg_sl ([.ref h])).length) Slot.unset).toArray = ls at hl ⊢
  have hl : lv_has ls 8 [(0, .ref h)] := hl
  have hP : va_P D xcl (moW h mm kA v g) s.heap := hP
  obtain ⟨⟨nd, hnd12, hnd⟩, ⟨nl, hnl5, hnl, hpar⟩, hch, hpk, hrq, hmd, huq⟩ := id hMI
  obtain ⟨hwn20, hwn, hws⟩ := hWI
  refine lv_iconst (v := 1) hx hb xd_Mo_newRequire_0 (by decide) ?_
  refine lv_istore_n hx hb xd_Mo_newRequire_1 rfl hl (Nat.le_of_ble_eq_true rfl) rfl (fun ls hl => ?_)
  have hl : lv_has ls 8 [(1, .int 1), (0, .ref h)] := hl
  refine lv_aload_n hx hb xd_Mo_newRequire_2 rfl (lv_at hl 1 rfl) ?_
  refine va_get (D := D) (ci := 4) (v := .int (v 3)) (C := xR_Mo) (T := xT_Mo) (N := 31) hx hb hT xi_Mo hown hK.1 hP 0 rfl rfl 4 (by decide) (hT _ xq_0) (fun _ h9 => h9) rfl xd_Mo_newRequire_3 ?_
  refine xn_top (x := (v 3)) (y := nI wn) hwn ?_
  refine lv_iconst (v := 2) hx hb xd_Mo_newRequire_6 (by decide) ?_
  refine xn_le (a := wn) (b := 2) (tgt := 48) hx hb xd_Mo_newRequire_7 (by decide) (by omega) (by omega) (fun hc1 => ?_) (fun hc1 => ?_)
  · refine lv_iconst (v := 0) hx hb xd_Mo_newRequire_48 (by decide) ?_
    refine lv_istore_n hx hb xd_Mo_newRequire_49 rfl hl (Nat.le_of_ble_eq_true rfl) rfl (fun ls hl => ?_)
    have hl : lv_has ls 8 [(2, .int 0), (1, .int 1), (0, .ref h)] := hl
    refine lv_iload_n hx hb xd_Mo_newRequire_50 rfl (lv_at hl 0 rfl) ?_
    refine xz_eq (a := 0) (tgt := 58) hx hb xd_Mo_newRequire_51 (by decide) (by omega) (fun _ => ?_) (fun hc2 => absurd hc2 (by omega))
    refine lv_iconst (v := 1) hx hb xd_Mo_newRequire_58 (by decide) ?_
    refine lv_istore_n hx hb xd_Mo_newRequire_59 rfl hl (Nat.le_of_ble_eq_true rfl) rfl (fun ls hl => ?_)
    have hl : lv_has ls 8 [(1, .int 1), (2, .int 0), (0, .ref h)] := hl
    refine lv_aload_n hx hb xd_Mo_newRequire_60 rfl (lv_at hl 2 rfl) ?_
    refine va_get (D := D) (ci := 4) (v := .int (v 3)) (C := xR_Mo) (T := xT_Mo) (N := 31) hx hb hT xi_Mo hown hK.1 hP 0 rfl rfl 4 (by decide) (hT _ xq_0) (fun _ h9 => h9) rfl xd_Mo_newRequire_61 ?_
    refine xn_top (x := (v 3)) (y := nI wn) hwn ?_
    refine lv_iload_n hx hb xd_Mo_newRequire_64 rfl (lv_at hl 0 rfl) ?_
    refine lv_iconst (v := 1) hx hb xd_Mo_newRequire_65 (by decide) ?_
    refine lv_iadd hx hb xd_Mo_newRequire_66 ?_
    refine xn_top (y := nI (2)) (nI_add 1 1) ?_
    refine xn_le (a := wn) (b := 2) (tgt := 104) hx hb xd_Mo_newRequire_67 (by decide) (by omega) (by omega) (fun hc3 => ?_) (fun hc3 => ?_)
    · refine lv_iconst (v := 0) hx hb xd_Mo_newRequire_104 (by decide) ?_
      refine lv_istore_n hx hb xd_Mo_newRequire_105 rfl hl (Nat.le_of_ble_eq_true rfl) rfl (fun ls hl => ?_)
      have hl : lv_has ls 8 [(3, .int 0), (1, .int 1), (2, .int 0), (0, .ref h)] := hl
      refine lv_iload_n hx hb xd_Mo_newRequire_106 rfl (lv_at hl 0 rfl) ?_
      refine xz_eq (a := 0) (tgt := 116) hx hb xd_Mo_newRequire_107 (by decide) (by omega) (fun _ => ?_) (fun hc4 => absurd hc4 (by omega))
      refine lv_iload_n hx hb xd_Mo_newRequire_116 rfl (lv_at hl 1 rfl) ?_
      refine lv_istore_n hx hb xd_Mo_newRequire_117 rfl hl (Nat.le_of_ble_eq_true rfl) rfl (fun ls hl => ?_)
      have hl : lv_has ls 8 [(1, .int 1), (3, .int 0), (2, .int 0), (0, .ref h)] := hl
      refine lv_aload_n hx hb xd_Mo_newRequire_118 rfl (lv_at hl 3 rfl) ?_
      refine va_get (D := D) (ci := 4) (v := .int (v 3)) (C := xR_Mo) (T := xT_Mo) (N := 31) hx hb hT xi_Mo hown hK.1 hP 0 rfl rfl 4 (by decide) (hT _ xq_0) (fun _ h9 => h9) rfl xd_Mo_newRequire_119 ?_
      refine xn_top (x := (v 3)) (y := nI wn) hwn ?_
      refine lv_iload_n hx hb xd_Mo_newRequire_122 rfl (lv_at hl 0 rfl) ?_
      refine lv_iconst (v := 1) hx hb xd_Mo_newRequire_123 (by decide) ?_
      refine lv_iadd hx hb xd_Mo_newRequire_124 ?_
      refine xn_top (y := nI (2)) (nI_add 1 1) ?_
      refine xn_ne (a := wn) (b := 2) (tgt := 136) hx hb xd_Mo_newRequire_125 (by decide) (by omega) (by omega) (fun hc5 => ?_) (fun hc5 => ?_)
      · refine lv_iconst (v := 0) hx hb xd_Mo_newRequire_136 (by decide) ?_
        refine lv_istore hx hb xd_Mo_newRequire_137 hl (Nat.le_of_ble_eq_true rfl) rfl (fun ls hl => ?_)
        have hl : lv_has ls 8 [(4, .int 0), (1, .int 1), (3, .int 0), (2, .int 0), (0, .ref h)] := hl
        refine lv_iload hx hb xd_Mo_newRequire_139 (lv_at hl 0 rfl) ?_
        refine xz_ne (a := 0) (tgt := 146) hx hb xd_Mo_newRequire_141 (by decide) (by omega) (fun hc6 => absurd hc6 (by omega)) (fun _ => ?_)
        refine lv_iconst (v := (-1)) hx hb xd_Mo_newRequire_144 (by decide) ?_
        exact W.iret (v := (-1)) hx hb hr (fun t ht hW => ⟨⟨(-1), (v, g), rfl, ⟨hMI, rfl, Or.inl rfl⟩, by rw [ht]; exact hP, hD⟩, hS.F ht⟩) hS.2.2 xd_Mo_newRequire_145
      · obtain ⟨b1, e1, hbe1, he1, eb1, ee1⟩ := hws 1 (by omega)
        refine lv_aload_n hx hb xd_Mo_newRequire_128 rfl (lv_at hl 3 rfl) ?_
        refine lv_iload_n hx hb xd_Mo_newRequire_129 rfl (lv_at hl 0 rfl) ?_
        have hFc := va_free (wc := (moW h mm kA v g)) hD hS hA [0, 1, 2, 3, 4, 5, 6, 7, 8, 9, 10, 11, 12, 13, 14, 15, 16, 17, 18, 19, 20, 21, 22, 23, 24, 25] rfl
        refine va_calli (va_runV (As := [.int 1]) (rest := []) ⟨hx, hb, hml, hown, hT⟩ (xc_Mo_nameOf l D kA s.heap.size h mm v g 1 b1 e1 (by first | assumption | omega) (by first | assumption | omega) (by first | assumption | omega) (by first | assumption | omega) (by first | assumption | omega)) (cwV 1 hT (wT_V xq_2 xq_3 xq_4 xq_5 xq_1) rfl rfl rfl (by decide +kernel) ⟨Nat.le_of_ble_eq_true rfl, Nat.le_of_ble_eq_true rfl⟩) (x_preV hK hP hD 0 rfl rfl) rfl rfl hl.1 rfl (lv_room (Nat.le_of_ble_eq_true rfl)) xd_Mo_newRequire_130 ⟨Nat.le_of_ble_eq_true rfl, Nat.le_of_ble_eq_true rfl⟩) hS (fun q _ h => hFc q h) hFc (fun r7 u8 t H1 locs ht hvm hp9 hB hz1 hk1 hS => ?_)
        obtain ⟨hP1, hD1⟩ := hB
        rw [ht] at hP1
        have hD1 := hD1.weaken (fun _ _ _ h => hFc _ h)
        generalize H1 = H at hP1 hS ⊢
        have hP := hP1
        have hD := hD1
        have hP : va_P D xcl (moW h mm kA v g) H := hP
        have hD : va_D A (moW h mm kA v g) := hD
        refine lv_goto (tgt := 137) hx hb xd_Mo_newRequire_133 (by decide) ?_
        refine lv_istore hx hb xd_Mo_newRequire_137 hl (Nat.le_of_ble_eq_true rfl) rfl (fun ls hl => ?_)
        have hl : lv_has ls 8 [(4, .int r7), (1, .int 1), (3, .int 0), (2, .int 0), (0, .ref h)] := hl
        refine lv_iload hx hb xd_Mo_newRequire_139 (lv_at hl 0 rfl) ?_
        refine lv_if_ne (tgt := 146) hx hb xd_Mo_newRequire_141 (by decide) (fun hc10 => ?_) (fun hc10 => ?_)
        · rcases Nat.eq_zero_or_pos nd with hz | hz
          · have hnd0 : v 4 = nI 0 := by rw [hnd, hz]
            refine lv_aload_n hx hb xd_Mo_newRequire_146 rfl (lv_at hl 4 rfl) ?_
            refine va_get (D := D) (ci := 4) (v := .int (v 4)) (C := xR_Mo) (T := xT_Mo) (N := 31) hx hb hT xi_Mo hown hK.1 hP 0 rfl rfl 7 (by decide) (hT _ xq_6) (fun _ h9 => h9) rfl xd_Mo_newRequire_147 ?_
            refine xn_top (x := (v 4)) (y := nI 0) hnd0 ?_
            refine lv_iconst (v := 1) hx hb xd_Mo_newRequire_150 (by decide) ?_
            refine lv_isub hx hb xd_Mo_newRequire_151 ?_
            refine lv_istore hx hb xd_Mo_newRequire_152 hl (Nat.le_of_ble_eq_true rfl) rfl (fun ls hl => ?_)
            have hl : lv_has ls 8 [(5, .int ((nI 0) - 1)), (4, .int r7), (1, .int 1), (3, .int 0), (2, .int 0), (0, .ref h)] := hl
            refine lv_iload hx hb xd_Mo_newRequire_154 (lv_at hl 0 rfl) ?_
            refine lv_if_lt (tgt := 175) hx hb xd_Mo_newRequire_156 (by decide) (fun _ => ?_) (fun hc11 => absurd hc11 (by decide))
            refine lv_iconst (v := 0) hx hb xd_Mo_newRequire_175 (by decide) ?_
            refine lv_istore hx hb xd_Mo_newRequire_176 hl (Nat.le_of_ble_eq_true rfl) rfl (fun ls hl => ?_)
            have hl : lv_has ls 8 [(6, .int 0), (5, .int ((nI 0) - 1)), (4, .int r7), (1, .int 1), (3, .int 0), (2, .int 0), (0, .ref h)] := hl
            refine lv_iconst (v := 5) hx hb xd_Mo_newRequire_178 (by decide) ?_
            refine lv_iload hx hb xd_Mo_newRequire_179 (lv_at hl 1 rfl) ?_
            refine lv_imul hx hb xd_Mo_newRequire_181 ?_
            refine lv_istore hx hb xd_Mo_newRequire_182 hl (Nat.le_of_ble_eq_true rfl) rfl (fun ls hl => ?_)
            have hl : lv_has ls 8 [(7, .int (5 * ((nI 0) - 1))), (6, .int 0), (5, .int ((nI 0) - 1)), (4, .int r7), (1, .int 1), (3, .int 0), (2, .int 0), (0, .ref h)] := hl
            refine lv_iload hx hb xd_Mo_newRequire_184 (lv_at hl 2 rfl) ?_
            refine lv_if_lt (tgt := 236) hx hb xd_Mo_newRequire_186 (by decide) (fun _ => ?_) (fun hc12 => absurd hc12 (by decide))
            refine lv_iload hx hb xd_Mo_newRequire_236 (lv_at hl 1 rfl) ?_
            refine xz_eq (a := 0) (tgt := 243) hx hb xd_Mo_newRequire_238 (by decide) (by omega) (fun _ => ?_) (fun hc13 => absurd hc13 (by omega))
            refine lv_aload_n hx hb xd_Mo_newRequire_243 rfl (lv_at hl 7 rfl) ?_
            have hFc := va_free (wc := (moW h mm kA v g)) hD hS hA [0, 1, 2, 3, 4, 5, 6, 7, 8, 9, 10, 11, 12, 13, 14, 15, 16, 17, 18, 19, 20, 21, 22, 23, 24, 25] rfl
            refine va_calli (va_runV (As := []) (rest := []) ⟨hx, hb, hml, hown, hT⟩ (xc_Mo_isShut l D kA H.size h mm v g nd (by first | assumption | omega) (by first | assumption | omega)) (cwV 0 hT (wT_V xq_8 xq_9 xq_10 xq_5 xq_7) rfl rfl rfl (by decide +kernel) ⟨Nat.le_of_ble_eq_true rfl, Nat.le_of_ble_eq_true rfl⟩) (x_preV hK hP hD 0 rfl rfl) rfl rfl hl.1 rfl (lv_room (Nat.le_of_ble_eq_true rfl)) xd_Mo_newRequire_244 ⟨Nat.le_of_ble_eq_true rfl, Nat.le_of_ble_eq_true rfl⟩) hS (fun q _ h => hFc q h) hFc (fun r14 u15 t H1 locs ht hvm hp16 hB hz1 hk1 hS => ?_)
            obtain ⟨hP1, hD1⟩ := hB
            rw [ht] at hP1
            have hD1 := hD1.weaken (fun _ _ _ h => hFc _ h)
            generalize H1 = H at hP1 hS ⊢
            have hP := hP1
            have hD := hD1
            have hP : va_P D xcl (moW h mm kA v g) H := hP
            have hD : va_D A (moW h mm kA v g) := hD
            rcases hp16 with ⟨rfl, z17⟩ | ⟨rfl, z18, z19⟩
            · refine xz_ne (a := 1) (tgt := 261) hx hb xd_Mo_newRequire_247 (by decide) (by omega) (fun _ => ?_) (fun hc20 => absurd hc20 (by omega))
              refine lv_bipush (v := (-2)) hx hb xd_Mo_newRequire_261 (by decide) ?_
              exact W.iret (v := (-2)) hx hb hr (fun t ht hW => ⟨⟨(-2), (v, g), rfl, ⟨hMI, rfl, Or.inr (Or.inl rfl)⟩, by rw [ht]; exact hP, hD⟩, hS.F ht⟩) hS.2.2 xd_Mo_newRequire_263
            · exact absurd hz z18
          · refine lv_aload_n hx hb xd_Mo_newRequire_146 rfl (lv_at hl 4 rfl) ?_
            refine va_get (D := D) (ci := 4) (v := .int (v 4)) (C := xR_Mo) (T := xT_Mo) (N := 31) hx hb hT xi_Mo hown hK.1 hP 0 rfl rfl 7 (by decide) (hT _ xq_6) (fun _ h9 => h9) rfl xd_Mo_newRequire_147 ?_
            refine xn_top (x := (v 4)) (y := nI nd) hnd ?_
            refine lv_iconst (v := 1) hx hb xd_Mo_newRequire_150 (by decide) ?_
            refine lv_isub hx hb xd_Mo_newRequire_151 ?_
            refine xn_top (y := nI (nd - 1)) (pk_sub (a := nd) (b := 1) (by omega)) ?_
            refine lv_istore hx hb xd_Mo_newRequire_152 hl (Nat.le_of_ble_eq_true rfl) rfl (fun ls hl => ?_)
            have hl : lv_has ls 8 [(5, .int (nI (nd - 1))), (4, .int r7), (1, .int 1), (3, .int 0), (2, .int 0), (0, .ref h)] := hl
            refine lv_iload hx hb xd_Mo_newRequire_154 (lv_at hl 0 rfl) ?_
            refine xz_lt (a := nd - 1) (tgt := 175) hx hb xd_Mo_newRequire_156 (by decide) (by omega) ?_
            obtain ⟨rq1, hrq1, erq1⟩ := hrq (nd - 1) (by omega)
            refine lv_aload_n hx hb xd_Mo_newRequire_159 rfl (lv_at hl 5 rfl) ?_
            refine va_get (D := D) (ci := 4) (v := .ref (mm 4)) (C := xR_Mo) (T := xT_Mo) (N := 31) hx hb hT xi_Mo hown hK.1 hP 0 rfl rfl 9 (by decide) (hT _ xq_11) (fun _ h9 => h9) rfl xd_Mo_newRequire_160 ?_
            refine lv_iload hx hb xd_Mo_newRequire_163 (lv_at hl 0 rfl) ?_
            refine xn_iald (i := nd - 1) hx hb hK.1 hP 5 0 rfl rfl (by omega) (by decide) xd_Mo_newRequire_165 ?_
            refine lv_iload hx hb xd_Mo_newRequire_166 (lv_at hl 1 rfl) ?_
            refine lv_icmp_ne (tgt := 175) hx hb xd_Mo_newRequire_168 (by decide) (fun hc22 => ?_) (fun hc22 => ?_)
            · refine lv_iconst (v := 0) hx hb xd_Mo_newRequire_175 (by decide) ?_
              refine lv_istore hx hb xd_Mo_newRequire_176 hl (Nat.le_of_ble_eq_true rfl) rfl (fun ls hl => ?_)
              have hl : lv_has ls 8 [(6, .int 0), (5, .int (nI (nd - 1))), (4, .int r7), (1, .int 1), (3, .int 0), (2, .int 0), (0, .ref h)] := hl
              refine lv_iconst (v := 5) hx hb xd_Mo_newRequire_178 (by decide) ?_
              refine lv_iload hx hb xd_Mo_newRequire_179 (lv_at hl 1 rfl) ?_
              refine lv_imul hx hb xd_Mo_newRequire_181 ?_
              refine xn_top (y := nI (5 * (nd - 1))) (pk_mul 5 (nd - 1)) ?_
              refine lv_istore hx hb xd_Mo_newRequire_182 hl (Nat.le_of_ble_eq_true rfl) rfl (fun ls hl => ?_)
              have hl : lv_has ls 8 [(7, .int (nI (5 * (nd - 1)))), (6, .int 0), (5, .int (nI (nd - 1))), (4, .int r7), (1, .int 1), (3, .int 0), (2, .int 0), (0, .ref h)] := hl
              refine xlab (σ := Nat × Int32) (ml := 8) 184 (fun (i, tw) => [(7, .int (nI i)), (6, .int tw), (0, .ref h), (2, .int 0), (3, .int 0), (4, .int r7), (5, .int (nI (nd - 1)))]) (fun (i, tw) => []) (fun (i, tw) => moW h mm kA v g) (fun (i, tw) => (5 * (nd - 1) ≤ i) ∧ (i ≤ 5 * (nd - 1) + rq1)) (fun (i, tw) => 5 * (nd - 1) + rq1 - i) ?_ (5 * (nd - 1), 0) _ _ _ (lv_sub hl [0, 1, 7, 6, 5, 3, 2] rfl) hP hD hS ⟨(show 5 * (nd - 1) ≤ (5 * (nd - 1)) from by first | assumption | omega), (show (5 * (nd - 1)) ≤ 5 * (nd - 1) + rq1 from by first | assumption | omega)⟩
              intro n9 ih23 a9 ls H locs hμ hl hP hD hS hI
              subst hμ
              obtain ⟨i, tw⟩ := a9
              obtain ⟨hi1, hi2⟩ := hI
              have hi1 : 5 * (nd - 1) ≤ i := hi1
              have hi2 : i ≤ 5 * (nd - 1) + rq1 := hi2
              have hl : lv_has ls 8 [(7, .int (nI i)), (6, .int tw), (0, .ref h), (2, .int 0), (3, .int 0), (4, .int r7), (5, .int (nI (nd - 1)))] := hl
              have hP : va_P D xcl (moW h mm kA v g) H := hP
              have hD : va_D A (moW h mm kA v g) := hD
              refine lv_iload hx hb xd_Mo_newRequire_184 (lv_at hl 6 rfl) ?_
              refine xz_lt (a := nd - 1) (tgt := 236) hx hb xd_Mo_newRequire_186 (by decide) (by omega) ?_
              refine lv_iload hx hb xd_Mo_newRequire_189 (lv_at hl 0 rfl) ?_
              refine lv_iconst (v := 5) hx hb xd_Mo_newRequire_191 (by decide) ?_
              refine lv_iload hx hb xd_Mo_newRequire_192 (lv_at hl 6 rfl) ?_
              refine lv_imul hx hb xd_Mo_newRequire_194 ?_
              refine xn_top (y := nI (5 * (nd - 1))) (pk_mul 5 (nd - 1)) ?_
              refine lv_aload_n hx hb xd_Mo_newRequire_195 rfl (lv_at hl 2 rfl) ?_
              refine va_get (D := D) (ci := 4) (v := .ref (mm 12)) (C := xR_Mo) (T := xT_Mo) (N := 31) hx hb hT xi_Mo hown hK.1 hP 0 rfl rfl 17 (by decide) (hT _ xq_12) (fun _ h9 => h9) rfl xd_Mo_newRequire_196 ?_
              refine lv_iload hx hb xd_Mo_newRequire_199 (lv_at hl 6 rfl) ?_
              refine xn_iald (i := nd - 1) hx hb hK.1 hP 13 0 rfl rfl (by omega) (by decide) xd_Mo_newRequire_201 ?_
              refine xn_top (x := (g 12 (nd - 1))) (y := nI rq1) erq1 ?_
              refine lv_iadd hx hb xd_Mo_newRequire_202 ?_
              refine xn_top (y := nI ((5 * (nd - 1)) + rq1)) (nI_add (5 * (nd - 1)) rq1) ?_
              refine xn_ge (a := i) (b := (5 * (nd - 1)) + rq1) (tgt := 236) hx hb xd_Mo_newRequire_203 (by decide) (by omega) (by omega) (fun hc25 => ?_) (fun hc25 => ?_)
              · refine lv_iload hx hb xd_Mo_newRequire_236 (lv_at hl 1 rfl) ?_
                refine lv_if_eq (tgt := 243) hx hb xd_Mo_newRequire_238 (by decide) (fun hc26 => ?_) (fun hc26 => ?_)
                · refine lv_aload_n hx hb xd_Mo_newRequire_243 rfl (lv_at hl 2 rfl) ?_
                  have hFc := va_free (wc := (moW h mm kA v g)) hD hS hA [0, 1, 2, 3, 4, 5, 6, 7, 8, 9, 10, 11, 12, 13, 14, 15, 16, 17, 18, 19, 20, 21, 22, 23, 24, 25] rfl
                  refine va_calli (va_runV (As := []) (rest := []) ⟨hx, hb, hml, hown, hT⟩ (xc_Mo_isShut l D kA H.size h mm v g nd (by first | assumption | omega) (by first | assumption | omega)) (cwV 0 hT (wT_V xq_8 xq_9 xq_10 xq_5 xq_7) rfl rfl rfl (by decide +kernel) ⟨Nat.le_of_ble_eq_true rfl, Nat.le_of_ble_eq_true rfl⟩) (x_preV hK hP hD 0 rfl rfl) rfl rfl hl.1 rfl (lv_room (Nat.le_of_ble_eq_true rfl)) xd_Mo_newRequire_244 ⟨Nat.le_of_ble_eq_true rfl, Nat.le_of_ble_eq_true rfl⟩) hS (fun q _ h => hFc q h) hFc (fun r27 u28 t H1 locs ht hvm hp29 hB hz1 hk1 hS => ?_)
                  obtain ⟨hP1, hD1⟩ := hB
                  rw [ht] at hP1
                  have hD1 := hD1.weaken (fun _ _ _ h => hFc _ h)
                  generalize H1 = H at hP1 hS ⊢
                  have hP := hP1
                  have hD := hD1
                  have hP : va_P D xcl (moW h mm kA v g) H := hP
                  have hD : va_D A (moW h mm kA v g) := hD
                  rcases hp29 with ⟨rfl, z30⟩ | ⟨rfl, z31, z32⟩
                  · refine xz_ne (a := 1) (tgt := 261) hx hb xd_Mo_newRequire_247 (by decide) (by omega) (fun _ => ?_) (fun hc33 => absurd hc33 (by omega))
                    refine lv_bipush (v := (-2)) hx hb xd_Mo_newRequire_261 (by decide) ?_
                    exact W.iret (v := (-2)) hx hb hr (fun t ht hW => ⟨⟨(-2), (v, g), rfl, ⟨hMI, rfl, Or.inr (Or.inl rfl)⟩, by rw [ht]; exact hP, hD⟩, hS.F ht⟩) hS.2.2 xd_Mo_newRequire_263
                  · refine xz_ne (a := 0) (tgt := 261) hx hb xd_Mo_newRequire_247 (by decide) (by omega) (fun hc34 => absurd hc34 (by omega)) (fun _ => ?_)
                    refine lv_aload_n hx hb xd_Mo_newRequire_250 rfl (lv_at hl 2 rfl) ?_
                    refine va_get (D := D) (ci := 4) (v := .ref (mm 12)) (C := xR_Mo) (T := xT_Mo) (N := 31) hx hb hT xi_Mo hown hK.1 hP 0 rfl rfl 17 (by decide) (hT _ xq_12) (fun _ h9 => h9) rfl xd_Mo_newRequire_251 ?_
                    refine lv_iload hx hb xd_Mo_newRequire_254 (lv_at hl 6 rfl) ?_
                    refine xn_iald (i := nd - 1) hx hb hK.1 hP 13 0 rfl rfl (by omega) (by decide) xd_Mo_newRequire_256 ?_
                    refine xn_top (x := (g 12 (nd - 1))) (y := nI rq1) erq1 ?_
                    refine lv_iconst (v := 5) hx hb xd_Mo_newRequire_257 (by decide) ?_
                    refine xn_ne (a := rq1) (b := 5) (tgt := 264) hx hb xd_Mo_newRequire_258 (by decide) (by omega) (by omega) (fun hc35 => ?_) (fun hc35 => ?_)
                    · refine lv_aload_n hx hb xd_Mo_newRequire_264 rfl (lv_at hl 2 rfl) ?_
                      refine va_get (D := D) (ci := 4) (v := .ref (mm 13)) (C := xR_Mo) (T := xT_Mo) (N := 31) hx hb hT xi_Mo hown hK.1 hP 0 rfl rfl 18 (by decide) (hT _ xq_13) (fun _ h9 => h9) rfl xd_Mo_newRequire_265 ?_
                      refine lv_iconst (v := 5) hx hb xd_Mo_newRequire_268 (by decide) ?_
                      refine lv_iload hx hb xd_Mo_newRequire_269 (lv_at hl 6 rfl) ?_
                      refine lv_imul hx hb xd_Mo_newRequire_271 ?_
                      refine xn_top (y := nI (5 * (nd - 1))) (pk_mul 5 (nd - 1)) ?_
                      refine lv_aload_n hx hb xd_Mo_newRequire_272 rfl (lv_at hl 2 rfl) ?_
                      refine va_get (D := D) (ci := 4) (v := .ref (mm 12)) (C := xR_Mo) (T := xT_Mo) (N := 31) hx hb hT xi_Mo hown hK.1 hP 0 rfl rfl 17 (by decide) (hT _ xq_12) (fun _ h9 => h9) rfl xd_Mo_newRequire_273 ?_
                      refine lv_iload hx hb xd_Mo_newRequire_276 (lv_at hl 6 rfl) ?_
                      refine xn_iald (i := nd - 1) hx hb hK.1 hP 13 0 rfl rfl (by omega) (by decide) xd_Mo_newRequire_278 ?_
                      refine xn_top (x := (g 12 (nd - 1))) (y := nI rq1) erq1 ?_
                      refine lv_iadd hx hb xd_Mo_newRequire_279 ?_
                      refine xn_top (y := nI ((5 * (nd - 1)) + rq1)) (nI_add (5 * (nd - 1)) rq1) ?_
                      refine lv_iload hx hb xd_Mo_newRequire_280 (lv_at hl 5 rfl) ?_
                      refine xn_iast (i := (5 * (nd - 1)) + rq1) hx hb hK.1 hP hD hS 14 0 rfl rfl (by omega) (by decide) xd_Mo_newRequire_282 (fun H locs hP hD hS => ?_)
                      have hP : va_P D xcl (moW h mm kA v (va_up g 13 (upd (g 13) ((5 * (nd - 1)) + rq1) r7))) H := hP
                      have hD : va_D A (moW h mm kA v (va_up g 13 (upd (g 13) ((5 * (nd - 1)) + rq1) r7))) := hD
                      refine lv_aload_n hx hb xd_Mo_newRequire_283 rfl (lv_at hl 2 rfl) ?_
                      refine va_get (D := D) (ci := 4) (v := .ref (mm 16)) (C := xR_Mo) (T := xT_Mo) (N := 31) hx hb hT xi_Mo hown hK.1 hP 0 rfl rfl 21 (by decide) (hT _ xq_14) (fun _ h9 => h9) rfl xd_Mo_newRequire_284 ?_
                      refine lv_iconst (v := 5) hx hb xd_Mo_newRequire_287 (by decide) ?_
                      refine lv_iload hx hb xd_Mo_newRequire_288 (lv_at hl 6 rfl) ?_
                      refine lv_imul hx hb xd_Mo_newRequire_290 ?_
                      refine xn_top (y := nI (5 * (nd - 1))) (pk_mul 5 (nd - 1)) ?_
                      refine lv_aload_n hx hb xd_Mo_newRequire_291 rfl (lv_at hl 2 rfl) ?_
                      refine va_get (D := D) (ci := 4) (v := .ref (mm 12)) (C := xR_Mo) (T := xT_Mo) (N := 31) hx hb hT xi_Mo hown hK.1 hP 0 rfl rfl 17 (by decide) (hT _ xq_12) (fun _ h9 => h9) rfl xd_Mo_newRequire_292 ?_
                      refine lv_iload hx hb xd_Mo_newRequire_295 (lv_at hl 6 rfl) ?_
                      refine xn_iald (i := nd - 1) hx hb hK.1 hP 13 0 rfl rfl (by omega) (by decide) xd_Mo_newRequire_297 ?_
                      refine xn_top (x := (g 12 (nd - 1))) (y := nI rq1) erq1 ?_
                      refine lv_iadd hx hb xd_Mo_newRequire_298 ?_
                      refine xn_top (y := nI ((5 * (nd - 1)) + rq1)) (nI_add (5 * (nd - 1)) rq1) ?_
                      refine lv_iload_n hx hb xd_Mo_newRequire_299 rfl (lv_at hl 3 rfl) ?_
                      refine xn_zast (i := (5 * (nd - 1)) + rq1) hx hb hK.1 hP hD hS 17 2 rfl rfl (by omega) (by decide) xd_Mo_newRequire_300 (fun H locs hP hD hS => ?_)
                      have hP : va_P D xcl (moW h mm kA v (va_up (va_up g 13 (upd (g 13) ((5 * (nd - 1)) + rq1) r7)) 16 (upd (g 16) ((5 * (nd - 1)) + rq1) (vp_nar .boolean 0)))) H := hP
                      have hD : va_D A (moW h mm kA v (va_up (va_up g 13 (upd (g 13) ((5 * (nd - 1)) + rq1) r7)) 16 (upd (g 16) ((5 * (nd - 1)) + rq1) (vp_nar .boolean 0)))) := hD
                      refine lv_aload_n hx hb xd_Mo_newRequire_301 rfl (lv_at hl 2 rfl) ?_
                      refine va_get (D := D) (ci := 4) (v := .ref (mm 17)) (C := xR_Mo) (T := xT_Mo) (N := 31) hx hb hT xi_Mo hown hK.1 hP 0 rfl rfl 22 (by decide) (hT _ xq_15) (fun _ h9 => h9) rfl xd_Mo_newRequire_302 ?_
                      refine lv_iconst (v := 5) hx hb xd_Mo_newRequire_305 (by decide) ?_
                      refine lv_iload hx hb xd_Mo_newRequire_306 (lv_at hl 6 rfl) ?_
                      refine lv_imul hx hb xd_Mo_newRequire_308 ?_
                      refine xn_top (y := nI (5 * (nd - 1))) (pk_mul 5 (nd - 1)) ?_
                      refine lv_aload_n hx hb xd_Mo_newRequire_309 rfl (lv_at hl 2 rfl) ?_
                      refine va_get (D := D) (ci := 4) (v := .ref (mm 12)) (C := xR_Mo) (T := xT_Mo) (N := 31) hx hb hT xi_Mo hown hK.1 hP 0 rfl rfl 17 (by decide) (hT _ xq_12) (fun _ h9 => h9) rfl xd_Mo_newRequire_310 ?_
                      refine lv_iload hx hb xd_Mo_newRequire_313 (lv_at hl 6 rfl) ?_
                      refine xn_iald (i := nd - 1) hx hb hK.1 hP 13 0 rfl rfl (by omega) (by decide) xd_Mo_newRequire_315 ?_
                      refine xn_top (x := (g 12 (nd - 1))) (y := nI rq1) erq1 ?_
                      refine lv_iadd hx hb xd_Mo_newRequire_316 ?_
                      refine xn_top (y := nI ((5 * (nd - 1)) + rq1)) (nI_add (5 * (nd - 1)) rq1) ?_
                      refine lv_iload_n hx hb xd_Mo_newRequire_317 rfl (lv_at hl 4 rfl) ?_
                      refine xn_zast (i := (5 * (nd - 1)) + rq1) hx hb hK.1 hP hD hS 18 2 rfl rfl (by omega) (by decide) xd_Mo_newRequire_318 (fun H locs hP hD hS => ?_)
                      have hP : va_P D xcl (moW h mm kA v (va_up (va_up (va_up g 13 (upd (g 13) ((5 * (nd - 1)) + rq1) r7)) 16 (upd (g 16) ((5 * (nd - 1)) + rq1) (vp_nar .boolean 0))) 17 (upd (g 17) ((5 * (nd - 1)) + rq1) (vp_nar .boolean 0)))) H := hP
                      have hD : va_D A (moW h mm kA v (va_up (va_up (va_up g 13 (upd (g 13) ((5 * (nd - 1)) + rq1) r7)) 16 (upd (g 16) ((5 * (nd - 1)) + rq1) (vp_nar .boolean 0))) 17 (upd (g 17) ((5 * (nd - 1)) + rq1) (vp_nar .boolean 0)))) := hD
                      refine lv_aload_n hx hb xd_Mo_newRequire_319 rfl (lv_at hl 2 rfl) ?_
                      refine va_get (D := D) (ci := 4) (v := .ref (mm 12)) (C := xR_Mo) (T := xT_Mo) (N := 31) hx hb hT xi_Mo hown hK.1 hP 0 rfl rfl 17 (by decide) (hT _ xq_12) (fun _ h9 => h9) rfl xd_Mo_newRequire_320 ?_
                      refine lv_iload hx hb xd_Mo_newRequire_323 (lv_at hl 6 rfl) ?_
                      refine lv_dup2_11 hx hb xd_Mo_newRequire_325 rfl rfl ?_
                      refine xn_iald (i := nd - 1) hx hb hK.1 hP 13 0 rfl rfl (by omega) (by decide) xd_Mo_newRequire_326 ?_
                      refine xn_top (x := (g 12 (nd - 1))) (y := nI rq1) erq1 ?_
                      refine lv_iconst (v := 1) hx hb xd_Mo_newRequire_327 (by decide) ?_
                      refine lv_iadd hx hb xd_Mo_newRequire_328 ?_
                      refine xn_top (y := nI (rq1 + 1)) (nI_add rq1 1) ?_
                      refine xn_iast (i := nd - 1) hx hb hK.1 hP hD hS 13 0 rfl rfl (by omega) (by decide) xd_Mo_newRequire_329 (fun H locs hP hD hS => ?_)
                      have hP : va_P D xcl (moW h mm kA v (va_up (va_up (va_up (va_up g 12 (upd (g 12) (nd - 1) (nI (rq1 + 1)))) 13 (upd (g 13) ((5 * (nd - 1)) + rq1) r7)) 16 (upd (g 16) ((5 * (nd - 1)) + rq1) (vp_nar .boolean 0))) 17 (upd (g 17) ((5 * (nd - 1)) + rq1) (vp_nar .boolean 0)))) H := hP
                      have hD : va_D A (moW h mm kA v (va_up (va_up (va_up (va_up g 12 (upd (g 12) (nd - 1) (nI (rq1 + 1)))) 13 (upd (g 13) ((5 * (nd - 1)) + rq1) r7)) 16 (upd (g 16) ((5 * (nd - 1)) + rq1) (vp_nar .boolean 0))) 17 (upd (g 17) ((5 * (nd - 1)) + rq1) (vp_nar .boolean 0)))) := hD
                      refine lv_iconst (v := 2) hx hb xd_Mo_newRequire_330 (by decide) ?_
                      exact W.iret (v := 2) hx hb hr (fun t ht hW => ⟨⟨2, (v, (va_up (va_up (va_up (va_up g 12 (upd (g 12) (nd - 1) (nI (rq1 + 1)))) 13 (upd (g 13) ((5 * (nd - 1)) + rq1) r7)) 16 (upd (g 16) ((5 * (nd - 1)) + rq1) (vp_nar .boolean 0))) 17 (upd (g 17) ((5 * (nd - 1)) + rq1) (vp_nar .boolean 0)))), rfl, ⟨MI_g (g := va_up g 12 (upd (g 12) (nd - 1) (nI (rq1 + 1)))) rfl rfl rfl rfl rfl rfl rfl rfl (MI_rq (by omega) hMI), rfl, Or.inr (Or.inr (Or.inr rfl))⟩, by rw [ht]; exact hP, hD⟩, hS.F ht⟩) hS.2.2 xd_Mo_newRequire_331
                    · refine lv_bipush (v := (-2)) hx hb xd_Mo_newRequire_261 (by decide) ?_
                      exact W.iret (v := (-2)) hx hb hr (fun t ht hW => ⟨⟨(-2), (v, g), rfl, ⟨hMI, rfl, Or.inr (Or.inl rfl)⟩, by rw [ht]; exact hP, hD⟩, hS.F ht⟩) hS.2.2 xd_Mo_newRequire_263
                · refine lv_iconst (v := (-1)) hx hb xd_Mo_newRequire_241 (by decide) ?_
                  exact W.iret (v := (-1)) hx hb hr (fun t ht hW => ⟨⟨(-1), (v, g), rfl, ⟨hMI, rfl, Or.inl rfl⟩, by rw [ht]; exact hP, hD⟩, hS.F ht⟩) hS.2.2 xd_Mo_newRequire_242
              · refine lv_iload hx hb xd_Mo_newRequire_206 (lv_at hl 1 rfl) ?_
                refine lv_if_ne (tgt := 223) hx hb xd_Mo_newRequire_208 (by decide) (fun hc36 => ?_) (fun hc36 => ?_)
                · refine lv_iconst (v := 1) hx hb xd_Mo_newRequire_223 (by decide) ?_
                  refine lv_goto (tgt := 228) hx hb xd_Mo_newRequire_224 (by decide) ?_
                  refine lv_istore hx hb xd_Mo_newRequire_228 hl (Nat.le_of_ble_eq_true rfl) rfl (fun ls hl => ?_)
                  have hl : lv_has ls 8 [(6, .int 1), (7, .int (nI i)), (0, .ref h), (2, .int 0), (3, .int 0), (4, .int r7), (5, .int (nI (nd - 1)))] := hl
                  refine lv_iinc (k := 1) (x := (nI i)) (v := (nI (i + 1))) hx hb xd_Mo_newRequire_230 hl rfl (xb_inc i 1) (Nat.le_of_ble_eq_true rfl) rfl (fun ls hl => ?_)
                  have hl : lv_has ls 8 [(7, .int (nI (i + 1))), (6, .int 1), (0, .ref h), (2, .int 0), (3, .int 0), (4, .int r7), (5, .int (nI (nd - 1)))] := hl
                  refine lv_goto (tgt := 184) hx hb xd_Mo_newRequire_233 (by decide) ?_
                  exact ih23 (i + 1, 1) _ _ _ (show 5 * (nd - 1) + rq1 - (i + 1) < 5 * (nd - 1) + rq1 - i by omega) (lv_sub hl [0, 1, 2, 3, 4, 5, 6] rfl) hP hD hS ⟨(show 5 * (nd - 1) ≤ (i + 1) from by first | assumption | omega), (show (i + 1) ≤ 5 * (nd - 1) + rq1 from by first | assumption | omega)⟩
                · refine lv_aload_n hx hb xd_Mo_newRequire_211 rfl (lv_at hl 2 rfl) ?_
                  refine va_get (D := D) (ci := 4) (v := .ref (mm 13)) (C := xR_Mo) (T := xT_Mo) (N := 31) hx hb hT xi_Mo hown hK.1 hP 0 rfl rfl 18 (by decide) (hT _ xq_13) (fun _ h9 => h9) rfl xd_Mo_newRequire_212 ?_
                  refine lv_iload hx hb xd_Mo_newRequire_215 (lv_at hl 0 rfl) ?_
                  refine xn_iald (i := i) hx hb hK.1 hP 14 0 rfl rfl (by omega) (by decide) xd_Mo_newRequire_217 ?_
                  refine lv_iload hx hb xd_Mo_newRequire_218 (lv_at hl 5 rfl) ?_
                  refine lv_icmp_ne (tgt := 227) hx hb xd_Mo_newRequire_220 (by decide) (fun hc37 => ?_) (fun hc37 => ?_)
                  · refine lv_iconst (v := 0) hx hb xd_Mo_newRequire_227 (by decide) ?_
                    refine lv_istore hx hb xd_Mo_newRequire_228 hl (Nat.le_of_ble_eq_true rfl) rfl (fun ls hl => ?_)
                    have hl : lv_has ls 8 [(6, .int 0), (7, .int (nI i)), (0, .ref h), (2, .int 0), (3, .int 0), (4, .int r7), (5, .int (nI (nd - 1)))] := hl
                    refine lv_iinc (k := 1) (x := (nI i)) (v := (nI (i + 1))) hx hb xd_Mo_newRequire_230 hl rfl (xb_inc i 1) (Nat.le_of_ble_eq_true rfl) rfl (fun ls hl => ?_)
                    have hl : lv_has ls 8 [(7, .int (nI (i + 1))), (6, .int 0), (0, .ref h), (2, .int 0), (3, .int 0), (4, .int r7), (5, .int (nI (nd - 1)))] := hl
                    refine lv_goto (tgt := 184) hx hb xd_Mo_newRequire_233 (by decide) ?_
                    exact ih23 (i + 1, 0) _ _ _ (show 5 * (nd - 1) + rq1 - (i + 1) < 5 * (nd - 1) + rq1 - i by omega) (lv_sub hl [0, 1, 2, 3, 4, 5, 6] rfl) hP hD hS ⟨(show 5 * (nd - 1) ≤ (i + 1) from by first | assumption | omega), (show (i + 1) ≤ 5 * (nd - 1) + rq1 from by first | assumption | omega)⟩
                  · refine lv_iconst (v := 1) hx hb xd_Mo_newRequire_223 (by decide) ?_
                    refine lv_goto (tgt := 228) hx hb xd_Mo_newRequire_224 (by decide) ?_
                    refine lv_istore hx hb xd_Mo_newRequire_228 hl (Nat.le_of_ble_eq_true rfl) rfl (fun ls hl => ?_)
                    have hl : lv_has ls 8 [(6, .int 1), (7, .int (nI i)), (0, .ref h), (2, .int 0), (3, .int 0), (4, .int r7), (5, .int (nI (nd - 1)))] := hl
                    refine lv_iinc (k := 1) (x := (nI i)) (v := (nI (i + 1))) hx hb xd_Mo_newRequire_230 hl rfl (xb_inc i 1) (Nat.le_of_ble_eq_true rfl) rfl (fun ls hl => ?_)
                    have hl : lv_has ls 8 [(7, .int (nI (i + 1))), (6, .int 1), (0, .ref h), (2, .int 0), (3, .int 0), (4, .int r7), (5, .int (nI (nd - 1)))] := hl
                    refine lv_goto (tgt := 184) hx hb xd_Mo_newRequire_233 (by decide) ?_
                    exact ih23 (i + 1, 1) _ _ _ (show 5 * (nd - 1) + rq1 - (i + 1) < 5 * (nd - 1) + rq1 - i by omega) (lv_sub hl [0, 1, 2, 3, 4, 5, 6] rfl) hP hD hS ⟨(show 5 * (nd - 1) ≤ (i + 1) from by first | assumption | omega), (show (i + 1) ≤ 5 * (nd - 1) + rq1 from by first | assumption | omega)⟩
            · refine lv_iconst (v := 1) hx hb xd_Mo_newRequire_171 (by decide) ?_
              refine lv_goto (tgt := 176) hx hb xd_Mo_newRequire_172 (by decide) ?_
              refine lv_istore hx hb xd_Mo_newRequire_176 hl (Nat.le_of_ble_eq_true rfl) rfl (fun ls hl => ?_)
              have hl : lv_has ls 8 [(6, .int 1), (5, .int (nI (nd - 1))), (4, .int r7), (1, .int 1), (3, .int 0), (2, .int 0), (0, .ref h)] := hl
              refine lv_iconst (v := 5) hx hb xd_Mo_newRequire_178 (by decide) ?_
              refine lv_iload hx hb xd_Mo_newRequire_179 (lv_at hl 1 rfl) ?_
              refine lv_imul hx hb xd_Mo_newRequire_181 ?_
              refine xn_top (y := nI (5 * (nd - 1))) (pk_mul 5 (nd - 1)) ?_
              refine lv_istore hx hb xd_Mo_newRequire_182 hl (Nat.le_of_ble_eq_true rfl) rfl (fun ls hl => ?_)
              have hl : lv_has ls 8 [(7, .int (nI (5 * (nd - 1)))), (6, .int 1), (5, .int (nI (nd - 1))), (4, .int r7), (1, .int 1), (3, .int 0), (2, .int 0), (0, .ref h)] := hl
              refine xlab (σ := Nat × Int32) (ml := 8) 184 (fun (i, tw) => [(7, .int (nI i)), (6, .int tw), (0, .ref h), (2, .int 0), (3, .int 0), (4, .int r7), (5, .int (nI (nd - 1)))]) (fun (i, tw) => []) (fun (i, tw) => moW h mm kA v g) (fun (i, tw) => (5 * (nd - 1) ≤ i) ∧ (i ≤ 5 * (nd - 1) + rq1)) (fun (i, tw) => 5 * (nd - 1) + rq1 - i) ?_ (5 * (nd - 1), 1) _ _ _ (lv_sub hl [0, 1, 7, 6, 5, 3, 2] rfl) hP hD hS ⟨(show 5 * (nd - 1) ≤ (5 * (nd - 1)) from by first | assumption | omega), (show (5 * (nd - 1)) ≤ 5 * (nd - 1) + rq1 from by first | assumption | omega)⟩
              intro n9 ih38 a9 ls H locs hμ hl hP hD hS hI
              subst hμ
              obtain ⟨i, tw⟩ := a9
              obtain ⟨hi1, hi2⟩ := hI
              have hi1 : 5 * (nd - 1) ≤ i := hi1
              have hi2 : i ≤ 5 * (nd - 1) + rq1 := hi2
              have hl : lv_has ls 8 [(7, .int (nI i)), (6, .int tw), (0, .ref h), (2, .int 0), (3, .int 0), (4, .int r7), (5, .int (nI (nd - 1)))] := hl
              have hP : va_P D xcl (moW h mm kA v g) H := hP
              have hD : va_D A (moW h mm kA v g) := hD
              refine lv_iload hx hb xd_Mo_newRequire_184 (lv_at hl 6 rfl) ?_
              refine xz_lt (a := nd - 1) (tgt := 236) hx hb xd_Mo_newRequire_186 (by decide) (by omega) ?_
              refine lv_iload hx hb xd_Mo_newRequire_189 (lv_at hl 0 rfl) ?_
              refine lv_iconst (v := 5) hx hb xd_Mo_newRequire_191 (by decide) ?_
              refine lv_iload hx hb xd_Mo_newRequire_192 (lv_at hl 6 rfl) ?_
              refine lv_imul hx hb xd_Mo_newRequire_194 ?_
              refine xn_top (y := nI (5 * (nd - 1))) (pk_mul 5 (nd - 1)) ?_
              refine lv_aload_n hx hb xd_Mo_newRequire_195 rfl (lv_at hl 2 rfl) ?_
              refine va_get (D := D) (ci := 4) (v := .ref (mm 12)) (C := xR_Mo) (T := xT_Mo) (N := 31) hx hb hT xi_Mo hown hK.1 hP 0 rfl rfl 17 (by decide) (hT _ xq_12) (fun _ h9 => h9) rfl xd_Mo_newRequire_196 ?_
              refine lv_iload hx hb xd_Mo_newRequire_199 (lv_at hl 6 rfl) ?_
              refine xn_iald (i := nd - 1) hx hb hK.1 hP 13 0 rfl rfl (by omega) (by decide) xd_Mo_newRequire_201 ?_
              refine xn_top (x := (g 12 (nd - 1))) (y := nI rq1) erq1 ?_
              refine lv_iadd hx hb xd_Mo_newRequire_202 ?_
              refine xn_top (y := nI ((5 * (nd - 1)) + rq1)) (nI_add (5 * (nd - 1)) rq1) ?_
              refine xn_ge (a := i) (b := (5 * (nd - 1)) + rq1) (tgt := 236) hx hb xd_Mo_newRequire_203 (by decide) (by omega) (by omega) (fun hc40 => ?_) (fun hc40 => ?_)
              · refine lv_iload hx hb xd_Mo_newRequire_236 (lv_at hl 1 rfl) ?_
                refine lv_if_eq (tgt := 243) hx hb xd_Mo_newRequire_238 (by decide) (fun hc41 => ?_) (fun hc41 => ?_)
                · refine lv_aload_n hx hb xd_Mo_newRequire_243 rfl (lv_at hl 2 rfl) ?_
                  have hFc := va_free (wc := (moW h mm kA v g)) hD hS hA [0, 1, 2, 3, 4, 5, 6, 7, 8, 9, 10, 11, 12, 13, 14, 15, 16, 17, 18, 19, 20, 21, 22, 23, 24, 25] rfl
                  refine va_calli (va_runV (As := []) (rest := []) ⟨hx, hb, hml, hown, hT⟩ (xc_Mo_isShut l D kA H.size h mm v g nd (by first | assumption | omega) (by first | assumption | omega)) (cwV 0 hT (wT_V xq_8 xq_9 xq_10 xq_5 xq_7) rfl rfl rfl (by decide +kernel) ⟨Nat.le_of_ble_eq_true rfl, Nat.le_of_ble_eq_true rfl⟩) (x_preV hK hP hD 0 rfl rfl) rfl rfl hl.1 rfl (lv_room (Nat.le_of_ble_eq_true rfl)) xd_Mo_newRequire_244 ⟨Nat.le_of_ble_eq_true rfl, Nat.le_of_ble_eq_true rfl⟩) hS (fun q _ h => hFc q h) hFc (fun r42 u43 t H1 locs ht hvm hp44 hB hz1 hk1 hS => ?_)
                  obtain ⟨hP1, hD1⟩ := hB
                  rw [ht] at hP1
                  have hD1 := hD1.weaken (fun _ _ _ h => hFc _ h)
                  generalize H1 = H at hP1 hS ⊢
                  have hP := hP1
                  have hD := hD1
                  have hP : va_P D xcl (moW h mm kA v g) H := hP
                  have hD : va_D A (moW h mm kA v g) := hD
                  rcases hp44 with ⟨rfl, z45⟩ | ⟨rfl, z46, z47⟩
                  · refine xz_ne (a := 1) (tgt := 261) hx hb xd_Mo_newRequire_247 (by decide) (by omega) (fun _ => ?_) (fun hc48 => absurd hc48 (by omega))
                    refine lv_bipush (v := (-2)) hx hb xd_Mo_newRequire_261 (by decide) ?_
                    exact W.iret (v := (-2)) hx hb hr (fun t ht hW => ⟨⟨(-2), (v, g), rfl, ⟨hMI, rfl, Or.inr (Or.inl rfl)⟩, by rw [ht]; exact hP, hD⟩, hS.F ht⟩) hS.2.2 xd_Mo_newRequire_263
                  · refine xz_ne (a := 0) (tgt := 261) hx hb xd_Mo_newRequire_247 (by decide) (by omega) (fun hc49 => absurd hc49 (by omega)) (fun _ => ?_)
                    refine lv_aload_n hx hb xd_Mo_newRequire_250 rfl (lv_at hl 2 rfl) ?_
                    refine va_get (D := D) (ci := 4) (v := .ref (mm 12)) (C := xR_Mo) (T := xT_Mo) (N := 31) hx hb hT xi_Mo hown hK.1 hP 0 rfl rfl 17 (by decide) (hT _ xq_12) (fun _ h9 => h9) rfl xd_Mo_newRequire_251 ?_
                    refine lv_iload hx hb xd_Mo_newRequire_254 (lv_at hl 6 rfl) ?_
                    refine xn_iald (i := nd - 1) hx hb hK.1 hP 13 0 rfl rfl (by omega) (by decide) xd_Mo_newRequire_256 ?_
                    refine xn_top (x := (g 12 (nd - 1))) (y := nI rq1) erq1 ?_
                    refine lv_iconst (v := 5) hx hb xd_Mo_newRequire_257 (by decide) ?_
                    refine xn_ne (a := rq1) (b := 5) (tgt := 264) hx hb xd_Mo_newRequire_258 (by decide) (by omega) (by omega) (fun hc50 => ?_) (fun hc50 => ?_)
                    · refine lv_aload_n hx hb xd_Mo_newRequire_264 rfl (lv_at hl 2 rfl) ?_
                      refine va_get (D := D) (ci := 4) (v := .ref (mm 13)) (C := xR_Mo) (T := xT_Mo) (N := 31) hx hb hT xi_Mo hown hK.1 hP 0 rfl rfl 18 (by decide) (hT _ xq_13) (fun _ h9 => h9) rfl xd_Mo_newRequire_265 ?_
                      refine lv_iconst (v := 5) hx hb xd_Mo_newRequire_268 (by decide) ?_
                      refine lv_iload hx hb xd_Mo_newRequire_269 (lv_at hl 6 rfl) ?_
                      refine lv_imul hx hb xd_Mo_newRequire_271 ?_
                      refine xn_top (y := nI (5 * (nd - 1))) (pk_mul 5 (nd - 1)) ?_
                      refine lv_aload_n hx hb xd_Mo_newRequire_272 rfl (lv_at hl 2 rfl) ?_
                      refine va_get (D := D) (ci := 4) (v := .ref (mm 12)) (C := xR_Mo) (T := xT_Mo) (N := 31) hx hb hT xi_Mo hown hK.1 hP 0 rfl rfl 17 (by decide) (hT _ xq_12) (fun _ h9 => h9) rfl xd_Mo_newRequire_273 ?_
                      refine lv_iload hx hb xd_Mo_newRequire_276 (lv_at hl 6 rfl) ?_
                      refine xn_iald (i := nd - 1) hx hb hK.1 hP 13 0 rfl rfl (by omega) (by decide) xd_Mo_newRequire_278 ?_
                      refine xn_top (x := (g 12 (nd - 1))) (y := nI rq1) erq1 ?_
                      refine lv_iadd hx hb xd_Mo_newRequire_279 ?_
                      refine xn_top (y := nI ((5 * (nd - 1)) + rq1)) (nI_add (5 * (nd - 1)) rq1) ?_
                      refine lv_iload hx hb xd_Mo_newRequire_280 (lv_at hl 5 rfl) ?_
                      refine xn_iast (i := (5 * (nd - 1)) + rq1) hx hb hK.1 hP hD hS 14 0 rfl rfl (by omega) (by decide) xd_Mo_newRequire_282 (fun H locs hP hD hS => ?_)
                      have hP : va_P D xcl (moW h mm kA v (va_up g 13 (upd (g 13) ((5 * (nd - 1)) + rq1) r7))) H := hP
                      have hD : va_D A (moW h mm kA v (va_up g 13 (upd (g 13) ((5 * (nd - 1)) + rq1) r7))) := hD
                      refine lv_aload_n hx hb xd_Mo_newRequire_283 rfl (lv_at hl 2 rfl) ?_
                      refine va_get (D := D) (ci := 4) (v := .ref (mm 16)) (C := xR_Mo) (T := xT_Mo) (N := 31) hx hb hT xi_Mo hown hK.1 hP 0 rfl rfl 21 (by decide) (hT _ xq_14) (fun _ h9 => h9) rfl xd_Mo_newRequire_284 ?_
                      refine lv_iconst (v := 5) hx hb xd_Mo_newRequire_287 (by decide) ?_
                      refine lv_iload hx hb xd_Mo_newRequire_288 (lv_at hl 6 rfl) ?_
                      refine lv_imul hx hb xd_Mo_newRequire_290 ?_
                      refine xn_top (y := nI (5 * (nd - 1))) (pk_mul 5 (nd - 1)) ?_
                      refine lv_aload_n hx hb xd_Mo_newRequire_291 rfl (lv_at hl 2 rfl) ?_
                      refine va_get (D := D) (ci := 4) (v := .ref (mm 12)) (C := xR_Mo) (T := xT_Mo) (N := 31) hx hb hT xi_Mo hown hK.1 hP 0 rfl rfl 17 (by decide) (hT _ xq_12) (fun _ h9 => h9) rfl xd_Mo_newRequire_292 ?_
                      refine lv_iload hx hb xd_Mo_newRequire_295 (lv_at hl 6 rfl) ?_
                      refine xn_iald (i := nd - 1) hx hb hK.1 hP 13 0 rfl rfl (by omega) (by decide) xd_Mo_newRequire_297 ?_
                      refine xn_top (x := (g 12 (nd - 1))) (y := nI rq1) erq1 ?_
                      refine lv_iadd hx hb xd_Mo_newRequire_298 ?_
                      refine xn_top (y := nI ((5 * (nd - 1)) + rq1)) (nI_add (5 * (nd - 1)) rq1) ?_
                      refine lv_iload_n hx hb xd_Mo_newRequire_299 rfl (lv_at hl 3 rfl) ?_
                      refine xn_zast (i := (5 * (nd - 1)) + rq1) hx hb hK.1 hP hD hS 17 2 rfl rfl (by omega) (by decide) xd_Mo_newRequire_300 (fun H locs hP hD hS => ?_)
                      have hP : va_P D xcl (moW h mm kA v (va_up (va_up g 13 (upd (g 13) ((5 * (nd - 1)) + rq1) r7)) 16 (upd (g 16) ((5 * (nd - 1)) + rq1) (vp_nar .boolean 0)))) H := hP
                      have hD : va_D A (moW h mm kA v (va_up (va_up g 13 (upd (g 13) ((5 * (nd - 1)) + rq1) r7)) 16 (upd (g 16) ((5 * (nd - 1)) + rq1) (vp_nar .boolean 0)))) := hD
                      refine lv_aload_n hx hb xd_Mo_newRequire_301 rfl (lv_at hl 2 rfl) ?_
                      refine va_get (D := D) (ci := 4) (v := .ref (mm 17)) (C := xR_Mo) (T := xT_Mo) (N := 31) hx hb hT xi_Mo hown hK.1 hP 0 rfl rfl 22 (by decide) (hT _ xq_15) (fun _ h9 => h9) rfl xd_Mo_newRequire_302 ?_
                      refine lv_iconst (v := 5) hx hb xd_Mo_newRequire_305 (by decide) ?_
                      refine lv_iload hx hb xd_Mo_newRequire_306 (lv_at hl 6 rfl) ?_
                      refine lv_imul hx hb xd_Mo_newRequire_308 ?_
                      refine xn_top (y := nI (5 * (nd - 1))) (pk_mul 5 (nd - 1)) ?_
                      refine lv_aload_n hx hb xd_Mo_newRequire_309 rfl (lv_at hl 2 rfl) ?_
                      refine va_get (D := D) (ci := 4) (v := .ref (mm 12)) (C := xR_Mo) (T := xT_Mo) (N := 31) hx hb hT xi_Mo hown hK.1 hP 0 rfl rfl 17 (by decide) (hT _ xq_12) (fun _ h9 => h9) rfl xd_Mo_newRequire_310 ?_
                      refine lv_iload hx hb xd_Mo_newRequire_313 (lv_at hl 6 rfl) ?_
                      refine xn_iald (i := nd - 1) hx hb hK.1 hP 13 0 rfl rfl (by omega) (by decide) xd_Mo_newRequire_315 ?_
                      refine xn_top (x := (g 12 (nd - 1))) (y := nI rq1) erq1 ?_
                      refine lv_iadd hx hb xd_Mo_newRequire_316 ?_
                      refine xn_top (y := nI ((5 * (nd - 1)) + rq1)) (nI_add (5 * (nd - 1)) rq1) ?_
                      refine lv_iload_n hx hb xd_Mo_newRequire_317 rfl (lv_at hl 4 rfl) ?_
                      refine xn_zast (i := (5 * (nd - 1)) + rq1) hx hb hK.1 hP hD hS 18 2 rfl rfl (by omega) (by decide) xd_Mo_newRequire_318 (fun H locs hP hD hS => ?_)
                      have hP : va_P D xcl (moW h mm kA v (va_up (va_up (va_up g 13 (upd (g 13) ((5 * (nd - 1)) + rq1) r7)) 16 (upd (g 16) ((5 * (nd - 1)) + rq1) (vp_nar .boolean 0))) 17 (upd (g 17) ((5 * (nd - 1)) + rq1) (vp_nar .boolean 0)))) H := hP
                      have hD : va_D A (moW h mm kA v (va_up (va_up (va_up g 13 (upd (g 13) ((5 * (nd - 1)) + rq1) r7)) 16 (upd (g 16) ((5 * (nd - 1)) + rq1) (vp_nar .boolean 0))) 17 (upd (g 17) ((5 * (nd - 1)) + rq1) (vp_nar .boolean 0)))) := hD
                      refine lv_aload_n hx hb xd_Mo_newRequire_319 rfl (lv_at hl 2 rfl) ?_
                      refine va_get (D := D) (ci := 4) (v := .ref (mm 12)) (C := xR_Mo) (T := xT_Mo) (N := 31) hx hb hT xi_Mo hown hK.1 hP 0 rfl rfl 17 (by decide) (hT _ xq_12) (fun _ h9 => h9) rfl xd_Mo_newRequire_320 ?_
                      refine lv_iload hx hb xd_Mo_newRequire_323 (lv_at hl 6 rfl) ?_
                      refine lv_dup2_11 hx hb xd_Mo_newRequire_325 rfl rfl ?_
                      refine xn_iald (i := nd - 1) hx hb hK.1 hP 13 0 rfl rfl (by omega) (by decide) xd_Mo_newRequire_326 ?_
                      refine xn_top (x := (g 12 (nd - 1))) (y := nI rq1) erq1 ?_
                      refine lv_iconst (v := 1) hx hb xd_Mo_newRequire_327 (by decide) ?_
                      refine lv_iadd hx hb xd_Mo_newRequire_328 ?_
                      refine xn_top (y := nI (rq1 + 1)) (nI_add rq1 1) ?_
                      refine xn_iast (i := nd - 1) hx hb hK.1 hP hD hS 13 0 rfl rfl (by omega) (by decide) xd_Mo_newRequire_329 (fun H locs hP hD hS => ?_)
                      have hP : va_P D xcl (moW h mm kA v (va_up (va_up (va_up (va_up g 12 (upd (g 12) (nd - 1) (nI (rq1 + 1)))) 13 (upd (g 13) ((5 * (nd - 1)) + rq1) r7)) 16 (upd (g 16) ((5 * (nd - 1)) + rq1) (vp_nar .boolean 0))) 17 (upd (g 17) ((5 * (nd - 1)) + rq1) (vp_nar .boolean 0)))) H := hP
                      have hD : va_D A (moW h mm kA v (va_up (va_up (va_up (va_up g 12 (upd (g 12) (nd - 1) (nI (rq1 + 1)))) 13 (upd (g 13) ((5 * (nd - 1)) + rq1) r7)) 16 (upd (g 16) ((5 * (nd - 1)) + rq1) (vp_nar .boolean 0))) 17 (upd (g 17) ((5 * (nd - 1)) + rq1) (vp_nar .boolean 0)))) := hD
                      refine lv_iconst (v := 2) hx hb xd_Mo_newRequire_330 (by decide) ?_
                      exact W.iret (v := 2) hx hb hr (fun t ht hW => ⟨⟨2, (v, (va_up (va_up (va_up (va_up g 12 (upd (g 12) (nd - 1) (nI (rq1 + 1)))) 13 (upd (g 13) ((5 * (nd - 1)) + rq1) r7)) 16 (upd (g 16) ((5 * (nd - 1)) + rq1) (vp_nar .boolean 0))) 17 (upd (g 17) ((5 * (nd - 1)) + rq1) (vp_nar .boolean 0)))), rfl, ⟨MI_g (g := va_up g 12 (upd (g 12) (nd - 1) (nI (rq1 + 1)))) rfl rfl rfl rfl rfl rfl rfl rfl (MI_rq (by omega) hMI), rfl, Or.inr (Or.inr (Or.inr rfl))⟩, by rw [ht]; exact hP, hD⟩, hS.F ht⟩) hS.2.2 xd_Mo_newRequire_331
                    · refine lv_bipush (v := (-2)) hx hb xd_Mo_newRequire_261 (by decide) ?_
                      exact W.iret (v := (-2)) hx hb hr (fun t ht hW => ⟨⟨(-2), (v, g), rfl, ⟨hMI, rfl, Or.inr (Or.inl rfl)⟩, by rw [ht]; exact hP, hD⟩, hS.F ht⟩) hS.2.2 xd_Mo_newRequire_263
                · refine lv_iconst (v := (-1)) hx hb xd_Mo_newRequire_241 (by decide) ?_
                  exact W.iret (v := (-1)) hx hb hr (fun t ht hW => ⟨⟨(-1), (v, g), rfl, ⟨hMI, rfl, Or.inl rfl⟩, by rw [ht]; exact hP, hD⟩, hS.F ht⟩) hS.2.2 xd_Mo_newRequire_242
              · refine lv_iload hx hb xd_Mo_newRequire_206 (lv_at hl 1 rfl) ?_
                refine lv_if_ne (tgt := 223) hx hb xd_Mo_newRequire_208 (by decide) (fun hc51 => ?_) (fun hc51 => ?_)
                · refine lv_iconst (v := 1) hx hb xd_Mo_newRequire_223 (by decide) ?_
                  refine lv_goto (tgt := 228) hx hb xd_Mo_newRequire_224 (by decide) ?_
                  refine lv_istore hx hb xd_Mo_newRequire_228 hl (Nat.le_of_ble_eq_true rfl) rfl (fun ls hl => ?_)
                  have hl : lv_has ls 8 [(6, .int 1), (7, .int (nI i)), (0, .ref h), (2, .int 0), (3, .int 0), (4, .int r7), (5, .int (nI (nd - 1)))] := hl
                  refine lv_iinc (k := 1) (x := (nI i)) (v := (nI (i + 1))) hx hb xd_Mo_newRequire_230 hl rfl (xb_inc i 1) (Nat.le_of_ble_eq_true rfl) rfl (fun ls hl => ?_)
                  have hl : lv_has ls 8 [(7, .int (nI (i + 1))), (6, .int 1), (0, .ref h), (2, .int 0), (3, .int 0), (4, .int r7), (5, .int (nI (nd - 1)))] := hl
                  refine lv_goto (tgt := 184) hx hb xd_Mo_newRequire_233 (by decide) ?_
                  exact ih38 (i + 1, 1) _ _ _ (show 5 * (nd - 1) + rq1 - (i + 1) < 5 * (nd - 1) + rq1 - i by omega) (lv_sub hl [0, 1, 2, 3, 4, 5, 6] rfl) hP hD hS ⟨(show 5 * (nd - 1) ≤ (i + 1) from by first | assumption | omega), (show (i + 1) ≤ 5 * (nd - 1) + rq1 from by first | assumption | omega)⟩
                · refine lv_aload_n hx hb xd_Mo_newRequire_211 rfl (lv_at hl 2 rfl) ?_
                  refine va_get (D := D) (ci := 4) (v := .ref (mm 13)) (C := xR_Mo) (T := xT_Mo) (N := 31) hx hb hT xi_Mo hown hK.1 hP 0 rfl rfl 18 (by decide) (hT _ xq_13) (fun _ h9 => h9) rfl xd_Mo_newRequire_212 ?_
                  refine lv_iload hx hb xd_Mo_newRequire_215 (lv_at hl 0 rfl) ?_
                  refine xn_iald (i := i) hx hb hK.1 hP 14 0 rfl rfl (by omega) (by decide) xd_Mo_newRequire_217 ?_
                  refine lv_iload hx hb xd_Mo_newRequire_218 (lv_at hl 5 rfl) ?_
                  refine lv_icmp_ne (tgt := 227) hx hb xd_Mo_newRequire_220 (by decide) (fun hc52 => ?_) (fun hc52 => ?_)
                  · refine lv_iconst (v := 0) hx hb xd_Mo_newRequire_227 (by decide) ?_
                    refine lv_istore hx hb xd_Mo_newRequire_228 hl (Nat.le_of_ble_eq_true rfl) rfl (fun ls hl => ?_)
                    have hl : lv_has ls 8 [(6, .int 0), (7, .int (nI i)), (0, .ref h), (2, .int 0), (3, .int 0), (4, .int r7), (5, .int (nI (nd - 1)))] := hl
                    refine lv_iinc (k := 1) (x := (nI i)) (v := (nI (i + 1))) hx hb xd_Mo_newRequire_230 hl rfl (xb_inc i 1) (Nat.le_of_ble_eq_true rfl) rfl (fun ls hl => ?_)
                    have hl : lv_has ls 8 [(7, .int (nI (i + 1))), (6, .int 0), (0, .ref h), (2, .int 0), (3, .int 0), (4, .int r7), (5, .int (nI (nd - 1)))] := hl
                    refine lv_goto (tgt := 184) hx hb xd_Mo_newRequire_233 (by decide) ?_
                    exact ih38 (i + 1, 0) _ _ _ (show 5 * (nd - 1) + rq1 - (i + 1) < 5 * (nd - 1) + rq1 - i by omega) (lv_sub hl [0, 1, 2, 3, 4, 5, 6] rfl) hP hD hS ⟨(show 5 * (nd - 1) ≤ (i + 1) from by first | assumption | omega), (show (i + 1) ≤ 5 * (nd - 1) + rq1 from by first | assumption | omega)⟩
                  · refine lv_iconst (v := 1) hx hb xd_Mo_newRequire_223 (by decide) ?_
                    refine lv_goto (tgt := 228) hx hb xd_Mo_newRequire_224 (by decide) ?_
                    refine lv_istore hx hb xd_Mo_newRequire_228 hl (Nat.le_of_ble_eq_true rfl) rfl (fun ls hl => ?_)
                    have hl : lv_has ls 8 [(6, .int 1), (7, .int (nI i)), (0, .ref h), (2, .int 0), (3, .int 0), (4, .int r7), (5, .int (nI (nd - 1)))] := hl
                    refine lv_iinc (k := 1) (x := (nI i)) (v := (nI (i + 1))) hx hb xd_Mo_newRequire_230 hl rfl (xb_inc i 1) (Nat.le_of_ble_eq_true rfl) rfl (fun ls hl => ?_)
                    have hl : lv_has ls 8 [(7, .int (nI (i + 1))), (6, .int 1), (0, .ref h), (2, .int 0), (3, .int 0), (4, .int r7), (5, .int (nI (nd - 1)))] := hl
                    refine lv_goto (tgt := 184) hx hb xd_Mo_newRequire_233 (by decide) ?_
                    exact ih38 (i + 1, 1) _ _ _ (show 5 * (nd - 1) + rq1 - (i + 1) < 5 * (nd - 1) + rq1 - i by omega) (lv_sub hl [0, 1, 2, 3, 4, 5, 6] rfl) hP hD hS ⟨(show 5 * (nd - 1) ≤ (i + 1) from by first | assumption | omega), (show (i + 1) ≤ 5 * (nd - 1) + rq1 from by first | assumption | omega)⟩
        · refine lv_iconst (v := (-1)) hx hb xd_Mo_newRequire_144 (by decide) ?_
          exact W.iret (v := (-1)) hx hb hr (fun t ht hW => ⟨⟨(-1), (v, g), rfl, ⟨hMI, rfl, Or.inl rfl⟩, by rw [ht]; exact hP, hD⟩, hS.F ht⟩) hS.2.2 xd_Mo_newRequire_145
    · obtain ⟨b1, e1, hbe1, he1, eb1, ee1⟩ := hws 1 (by omega)
      refine lv_aload_n hx hb xd_Mo_newRequire_70 rfl (lv_at hl 2 rfl) ?_
      refine lv_iload_n hx hb xd_Mo_newRequire_71 rfl (lv_at hl 0 rfl) ?_
      refine lv_bipush (v := 115) hx hb xd_Mo_newRequire_72 (by decide) ?_
      refine lv_bipush (v := 116) hx hb xd_Mo_newRequire_74 (by decide) ?_
      refine lv_bipush (v := 97) hx hb xd_Mo_newRequire_76 (by decide) ?_
      refine lv_bipush (v := 116) hx hb xd_Mo_newRequire_78 (by decide) ?_
      refine lv_bipush (v := 105) hx hb xd_Mo_newRequire_80 (by decide) ?_
      have hFc := va_free (wc := (moW h mm kA v g)) hD hS hA [0, 1, 2, 3, 4, 5, 6, 7, 8, 9, 10, 11, 12, 13, 14, 15, 16, 17, 18, 19, 20, 21, 22, 23, 24, 25] rfl
      refine va_calli (va_runS (As := [.int 115, .int 116, .int 97, .int 116, .int 105]) (rest := [.int 1, .ref h]) ⟨hx, hb, hml, hown, hT⟩ (xc_Mo_code l D kA s.heap.size h mm v g 115 116 97 116 105) (cwS 5 hT (wT_S0 xq_17 xq_18 xq_5 xq_16) rfl rfl rfl (by decide +kernel) ⟨Nat.le_of_ble_eq_true rfl, Nat.le_of_ble_eq_true rfl⟩) (x_preS hK hP hD) rfl rfl hl.1 rfl (lv_room (Nat.le_of_ble_eq_true rfl)) xd_Mo_newRequire_82 ⟨Nat.le_of_ble_eq_true rfl, Nat.le_of_ble_eq_true rfl⟩) hS (fun q _ h => hFc q h) hFc (fun r53 u54 t H1 locs ht hvm hp55 hB hz1 hk1 hS => ?_)
      obtain ⟨hP1, hD1⟩ := hB
      rw [ht] at hP1
      have hD1 := hD1.weaken (fun _ _ _ h => hFc _ h)
      generalize H1 = H at hP1 hS ⊢
      have hP := hP1
      have hD := hD1
      have hP : va_P D xcl (moW h mm kA v g) H := hP
      have hD : va_D A (moW h mm kA v g) := hD
      refine lv_bipush (v := 99) hx hb xd_Mo_newRequire_85 (by decide) ?_
      refine lv_iconst (v := 0) hx hb xd_Mo_newRequire_87 (by decide) ?_
      refine lv_iconst (v := 0) hx hb xd_Mo_newRequire_88 (by decide) ?_
      refine lv_iconst (v := 0) hx hb xd_Mo_newRequire_89 (by decide) ?_
      refine lv_iconst (v := 0) hx hb xd_Mo_newRequire_90 (by decide) ?_
      have hFc := va_free (wc := (moW h mm kA v g)) hD hS hA [0, 1, 2, 3, 4, 5, 6, 7, 8, 9, 10, 11, 12, 13, 14, 15, 16, 17, 18, 19, 20, 21, 22, 23, 24, 25] rfl
      refine va_calli (va_runS (As := [.int 99, .int 0, .int 0, .int 0, .int 0]) (rest := [.int r53, .int 1, .ref h]) ⟨hx, hb, hml, hown, hT⟩ (xc_Mo_code l D kA H.size h mm v g 99 0 0 0 0) (cwS 5 hT (wT_S0 xq_17 xq_18 xq_5 xq_16) rfl rfl rfl (by decide +kernel) ⟨Nat.le_of_ble_eq_true rfl, Nat.le_of_ble_eq_true rfl⟩) (x_preS hK hP hD) rfl rfl hl.1 rfl (lv_room (Nat.le_of_ble_eq_true rfl)) xd_Mo_newRequire_91 ⟨Nat.le_of_ble_eq_true rfl, Nat.le_of_ble_eq_true rfl⟩) hS (fun q _ h => hFc q h) hFc (fun r56 u57 t H1 locs ht hvm hp58 hB hz1 hk1 hS => ?_)
      obtain ⟨hP1, hD1⟩ := hB
      rw [ht] at hP1
      have hD1 := hD1.weaken (fun _ _ _ h => hFc _ h)
      generalize H1 = H at hP1 hS ⊢
      have hP := hP1
      have hD := hD1
      have hP : va_P D xcl (moW h mm kA v g) H := hP
      have hD : va_D A (moW h mm kA v g) := hD
      have hFc := va_free (wc := (moW h mm kA v g)) hD hS hA [0, 1, 2, 3, 4, 5, 6, 7, 8, 9, 10, 11, 12, 13, 14, 15, 16, 17, 18, 19, 20, 21, 22, 23, 24, 25] rfl
      refine va_calli (va_runV (As := [.int 1, .int r53, .int r56]) (rest := []) ⟨hx, hb, hml, hown, hT⟩ (xc_Mo_says l D kA H.size h mm v g 1 b1 e1 r53 r56 (by first | assumption | omega) (by first | assumption | omega) (by first | assumption | omega) (by first | assumption | omega) (by first | assumption | omega) (by first | assumption | omega)) (cwV 3 hT (wT_V xq_20 xq_21 xq_22 xq_5 xq_19) rfl rfl rfl (by decide +kernel) ⟨Nat.le_of_ble_eq_true rfl, Nat.le_of_ble_eq_true rfl⟩) (x_preV hK hP hD 0 rfl rfl) rfl rfl hl.1 rfl (lv_room (Nat.le_of_ble_eq_true rfl)) xd_Mo_newRequire_94 ⟨Nat.le_of_ble_eq_true rfl, Nat.le_of_ble_eq_true rfl⟩) hS (fun q _ h => hFc q h) hFc (fun r59 u60 t H1 locs ht hvm hp61 hB hz1 hk1 hS => ?_)
      obtain ⟨hP1, hD1⟩ := hB
      rw [ht] at hP1
      have hD1 := hD1.weaken (fun _ _ _ h => hFc _ h)
      generalize H1 = H at hP1 hS ⊢
      have hP := hP1
      have hD := hD1
      have hP : va_P D xcl (moW h mm kA v g) H := hP
      have hD : va_D A (moW h mm kA v g) := hD
      rcases hp61 with rfl | rfl
      · refine xz_eq (a := 0) (tgt := 104) hx hb xd_Mo_newRequire_97 (by decide) (by omega) (fun _ => ?_) (fun hc62 => absurd hc62 (by omega))
        refine lv_iconst (v := 0) hx hb xd_Mo_newRequire_104 (by decide) ?_
        refine lv_istore_n hx hb xd_Mo_newRequire_105 rfl hl (Nat.le_of_ble_eq_true rfl) rfl (fun ls hl => ?_)
        have hl : lv_has ls 8 [(3, .int 0), (1, .int 1), (2, .int 0), (0, .ref h)] := hl
        refine lv_iload_n hx hb xd_Mo_newRequire_106 rfl (lv_at hl 0 rfl) ?_
        refine xz_eq (a := 0) (tgt := 116) hx hb xd_Mo_newRequire_107 (by decide) (by omega) (fun _ => ?_) (fun hc63 => absurd hc63 (by omega))
        refine lv_iload_n hx hb xd_Mo_newRequire_116 rfl (lv_at hl 1 rfl) ?_
        refine lv_istore_n hx hb xd_Mo_newRequire_117 rfl hl (Nat.le_of_ble_eq_true rfl) rfl (fun ls hl => ?_)
        have hl : lv_has ls 8 [(1, .int 1), (3, .int 0), (2, .int 0), (0, .ref h)] := hl
        refine lv_aload_n hx hb xd_Mo_newRequire_118 rfl (lv_at hl 3 rfl) ?_
        refine va_get (D := D) (ci := 4) (v := .int (v 3)) (C := xR_Mo) (T := xT_Mo) (N := 31) hx hb hT xi_Mo hown hK.1 hP 0 rfl rfl 4 (by decide) (hT _ xq_0) (fun _ h9 => h9) rfl xd_Mo_newRequire_119 ?_
        refine xn_top (x := (v 3)) (y := nI wn) hwn ?_
        refine lv_iload_n hx hb xd_Mo_newRequire_122 rfl (lv_at hl 0 rfl) ?_
        refine lv_iconst (v := 1) hx hb xd_Mo_newRequire_123 (by decide) ?_
        refine lv_iadd hx hb xd_Mo_newRequire_124 ?_
        refine xn_top (y := nI (2)) (nI_add 1 1) ?_
        refine xn_ne (a := wn) (b := 2) (tgt := 136) hx hb xd_Mo_newRequire_125 (by decide) (by omega) (by omega) (fun hc64 => ?_) (fun hc64 => ?_)
        · refine lv_iconst (v := 0) hx hb xd_Mo_newRequire_136 (by decide) ?_
          refine lv_istore hx hb xd_Mo_newRequire_137 hl (Nat.le_of_ble_eq_true rfl) rfl (fun ls hl => ?_)
          have hl : lv_has ls 8 [(4, .int 0), (1, .int 1), (3, .int 0), (2, .int 0), (0, .ref h)] := hl
          refine lv_iload hx hb xd_Mo_newRequire_139 (lv_at hl 0 rfl) ?_
          refine xz_ne (a := 0) (tgt := 146) hx hb xd_Mo_newRequire_141 (by decide) (by omega) (fun hc65 => absurd hc65 (by omega)) (fun _ => ?_)
          refine lv_iconst (v := (-1)) hx hb xd_Mo_newRequire_144 (by decide) ?_
          exact W.iret (v := (-1)) hx hb hr (fun t ht hW => ⟨⟨(-1), (v, g), rfl, ⟨hMI, rfl, Or.inl rfl⟩, by rw [ht]; exact hP, hD⟩, hS.F ht⟩) hS.2.2 xd_Mo_newRequire_145
        · refine lv_aload_n hx hb xd_Mo_newRequire_128 rfl (lv_at hl 3 rfl) ?_
          refine lv_iload_n hx hb xd_Mo_newRequire_129 rfl (lv_at hl 0 rfl) ?_
          have hFc := va_free (wc := (moW h mm kA v g)) hD hS hA [0, 1, 2, 3, 4, 5, 6, 7, 8, 9, 10, 11, 12, 13, 14, 15, 16, 17, 18, 19, 20, 21, 22, 23, 24, 25] rfl
          refine va_calli (va_runV (As := [.int 1]) (rest := []) ⟨hx, hb, hml, hown, hT⟩ (xc_Mo_nameOf l D kA H.size h mm v g 1 b1 e1 (by first | assumption | omega) (by first | assumption | omega) (by first | assumption | omega) (by first | assumption | omega) (by first | assumption | omega)) (cwV 1 hT (wT_V xq_2 xq_3 xq_4 xq_5 xq_1) rfl rfl rfl (by decide +kernel) ⟨Nat.le_of_ble_eq_true rfl, Nat.le_of_ble_eq_true rfl⟩) (x_preV hK hP hD 0 rfl rfl) rfl rfl hl.1 rfl (lv_room (Nat.le_of_ble_eq_true rfl)) xd_Mo_newRequire_130 ⟨Nat.le_of_ble_eq_true rfl, Nat.le_of_ble_eq_true rfl⟩) hS (fun q _ h => hFc q h) hFc (fun r66 u67 t H1 locs ht hvm hp68 hB hz1 hk1 hS => ?_)
          obtain ⟨hP1, hD1⟩ := hB
          rw [ht] at hP1
          have hD1 := hD1.weaken (fun _ _ _ h => hFc _ h)
          generalize H1 = H at hP1 hS ⊢
          have hP := hP1
          have hD := hD1
          have hP : va_P D xcl (moW h mm kA v g) H := hP
          have hD : va_D A (moW h mm kA v g) := hD
          refine lv_goto (tgt := 137) hx hb xd_Mo_newRequire_133 (by decide) ?_
          refine lv_istore hx hb xd_Mo_newRequire_137 hl (Nat.le_of_ble_eq_true rfl) rfl (fun ls hl => ?_)
          have hl : lv_has ls 8 [(4, .int r66), (1, .int 1), (3, .int 0), (2, .int 0), (0, .ref h)] := hl
          refine lv_iload hx hb xd_Mo_newRequire_139 (lv_at hl 0 rfl) ?_
          refine lv_if_ne (tgt := 146) hx hb xd_Mo_newRequire_141 (by decide) (fun hc69 => ?_) (fun hc69 => ?_)
          · rcases Nat.eq_zero_or_pos nd with hz | hz
            · have hnd0 : v 4 = nI 0 := by rw [hnd, hz]
              refine lv_aload_n hx hb xd_Mo_newRequire_146 rfl (lv_at hl 4 rfl) ?_
              refine va_get (D := D) (ci := 4) (v := .int (v 4)) (C := xR_Mo) (T := xT_Mo) (N := 31) hx hb hT xi_Mo hown hK.1 hP 0 rfl rfl 7 (by decide) (hT _ xq_6) (fun _ h9 => h9) rfl xd_Mo_newRequire_147 ?_
              refine xn_top (x := (v 4)) (y := nI 0) hnd0 ?_
              refine lv_iconst (v := 1) hx hb xd_Mo_newRequire_150 (by decide) ?_
              refine lv_isub hx hb xd_Mo_newRequire_151 ?_
              refine lv_istore hx hb xd_Mo_newRequire_152 hl (Nat.le_of_ble_eq_true rfl) rfl (fun ls hl => ?_)
              have hl : lv_has ls 8 [(5, .int ((nI 0) - 1)), (4, .int r66), (1, .int 1), (3, .int 0), (2, .int 0), (0, .ref h)] := hl
              refine lv_iload hx hb xd_Mo_newRequire_154 (lv_at hl 0 rfl) ?_
              refine lv_if_lt (tgt := 175) hx hb xd_Mo_newRequire_156 (by decide) (fun _ => ?_) (fun hc70 => absurd hc70 (by decide))
              refine lv_iconst (v := 0) hx hb xd_Mo_newRequire_175 (by decide) ?_
              refine lv_istore hx hb xd_Mo_newRequire_176 hl (Nat.le_of_ble_eq_true rfl) rfl (fun ls hl => ?_)
              have hl : lv_has ls 8 [(6, .int 0), (5, .int ((nI 0) - 1)), (4, .int r66), (1, .int 1), (3, .int 0), (2, .int 0), (0, .ref h)] := hl
              refine lv_iconst (v := 5) hx hb xd_Mo_newRequire_178 (by decide) ?_
              refine lv_iload hx hb xd_Mo_newRequire_179 (lv_at hl 1 rfl) ?_
              refine lv_imul hx hb xd_Mo_newRequire_181 ?_
              refine lv_istore hx hb xd_Mo_newRequire_182 hl (Nat.le_of_ble_eq_true rfl) rfl (fun ls hl => ?_)
              have hl : lv_has ls 8 [(7, .int (5 * ((nI 0) - 1))), (6, .int 0), (5, .int ((nI 0) - 1)), (4, .int r66), (1, .int 1), (3, .int 0), (2, .int 0), (0, .ref h)] := hl
              refine lv_iload hx hb xd_Mo_newRequire_184 (lv_at hl 2 rfl) ?_
              refine lv_if_lt (tgt := 236) hx hb xd_Mo_newRequire_186 (by decide) (fun _ => ?_) (fun hc71 => absurd hc71 (by decide))
              refine lv_iload hx hb xd_Mo_newRequire_236 (lv_at hl 1 rfl) ?_
              refine xz_eq (a := 0) (tgt := 243) hx hb xd_Mo_newRequire_238 (by decide) (by omega) (fun _ => ?_) (fun hc72 => absurd hc72 (by omega))
              refine lv_aload_n hx hb xd_Mo_newRequire_243 rfl (lv_at hl 7 rfl) ?_
              have hFc := va_free (wc := (moW h mm kA v g)) hD hS hA [0, 1, 2, 3, 4, 5, 6, 7, 8, 9, 10, 11, 12, 13, 14, 15, 16, 17, 18, 19, 20, 21, 22, 23, 24, 25] rfl
              refine va_calli (va_runV (As := []) (rest := []) ⟨hx, hb, hml, hown, hT⟩ (xc_Mo_isShut l D kA H.size h mm v g nd (by first | assumption | omega) (by first | assumption | omega)) (cwV 0 hT (wT_V xq_8 xq_9 xq_10 xq_5 xq_7) rfl rfl rfl (by decide +kernel) ⟨Nat.le_of_ble_eq_true rfl, Nat.le_of_ble_eq_true rfl⟩) (x_preV hK hP hD 0 rfl rfl) rfl rfl hl.1 rfl (lv_room (Nat.le_of_ble_eq_true rfl)) xd_Mo_newRequire_244 ⟨Nat.le_of_ble_eq_true rfl, Nat.le_of_ble_eq_true rfl⟩) hS (fun q _ h => hFc q h) hFc (fun r73 u74 t H1 locs ht hvm hp75 hB hz1 hk1 hS => ?_)
              obtain ⟨hP1, hD1⟩ := hB
              rw [ht] at hP1
              have hD1 := hD1.weaken (fun _ _ _ h => hFc _ h)
              generalize H1 = H at hP1 hS ⊢
              have hP := hP1
              have hD := hD1
              have hP : va_P D xcl (moW h mm kA v g) H := hP
              have hD : va_D A (moW h mm kA v g) := hD
              rcases hp75 with ⟨rfl, z76⟩ | ⟨rfl, z77, z78⟩
              · refine xz_ne (a := 1) (tgt := 261) hx hb xd_Mo_newRequire_247 (by decide) (by omega) (fun _ => ?_) (fun hc79 => absurd hc79 (by omega))
                refine lv_bipush (v := (-2)) hx hb xd_Mo_newRequire_261 (by decide) ?_
                exact W.iret (v := (-2)) hx hb hr (fun t ht hW => ⟨⟨(-2), (v, g), rfl, ⟨hMI, rfl, Or.inr (Or.inl rfl)⟩, by rw [ht]; exact hP, hD⟩, hS.F ht⟩) hS.2.2 xd_Mo_newRequire_263
              · exact absurd hz z77
            · refine lv_aload_n hx hb xd_Mo_newRequire_146 rfl (lv_at hl 4 rfl) ?_
              refine va_get (D := D) (ci := 4) (v := .int (v 4)) (C := xR_Mo) (T := xT_Mo) (N := 31) hx hb hT xi_Mo hown hK.1 hP 0 rfl rfl 7 (by decide) (hT _ xq_6) (fun _ h9 => h9) rfl xd_Mo_newRequire_147 ?_
              refine xn_top (x := (v 4)) (y := nI nd) hnd ?_
              refine lv_iconst (v := 1) hx hb xd_Mo_newRequire_150 (by decide) ?_
              refine lv_isub hx hb xd_Mo_newRequire_151 ?_
              refine xn_top (y := nI (nd - 1)) (pk_sub (a := nd) (b := 1) (by omega)) ?_
              refine lv_istore hx hb xd_Mo_newRequire_152 hl (Nat.le_of_ble_eq_true rfl) rfl (fun ls hl => ?_)
              have hl : lv_has ls 8 [(5, .int (nI (nd - 1))), (4, .int r66), (1, .int 1), (3, .int 0), (2, .int 0), (0, .ref h)] := hl
              refine lv_iload hx hb xd_Mo_newRequire_154 (lv_at hl 0 rfl) ?_
              refine xz_lt (a := nd - 1) (tgt := 175) hx hb xd_Mo_newRequire_156 (by decide) (by omega) ?_
              obtain ⟨rq1, hrq1, erq1⟩ := hrq (nd - 1) (by omega)
              refine lv_aload_n hx hb xd_Mo_newRequire_159 rfl (lv_at hl 5 rfl) ?_
              refine va_get (D := D) (ci := 4) (v := .ref (mm 4)) (C := xR_Mo) (T := xT_Mo) (N := 31) hx hb hT xi_Mo hown hK.1 hP 0 rfl rfl 9 (by decide) (hT _ xq_11) (fun _ h9 => h9) rfl xd_Mo_newRequire_160 ?_
              refine lv_iload hx hb xd_Mo_newRequire_163 (lv_at hl 0 rfl) ?_
              refine xn_iald (i := nd - 1) hx hb hK.1 hP 5 0 rfl rfl (by omega) (by decide) xd_Mo_newRequire_165 ?_
              refine lv_iload hx hb xd_Mo_newRequire_166 (lv_at hl 1 rfl) ?_
              refine lv_icmp_ne (tgt := 175) hx hb xd_Mo_newRequire_168 (by decide) (fun hc81 => ?_) (fun hc81 => ?_)
              · refine lv_iconst (v := 0) hx hb xd_Mo_newRequire_175 (by decide) ?_
                refine lv_istore hx hb xd_Mo_newRequire_176 hl (Nat.le_of_ble_eq_true rfl) rfl (fun ls hl => ?_)
                have hl : lv_has ls 8 [(6, .int 0), (5, .int (nI (nd - 1))), (4, .int r66), (1, .int 1), (3, .int 0), (2, .int 0), (0, .ref h)] := hl
                refine lv_iconst (v := 5) hx hb xd_Mo_newRequire_178 (by decide) ?_
                refine lv_iload hx hb xd_Mo_newRequire_179 (lv_at hl 1 rfl) ?_
                refine lv_imul hx hb xd_Mo_newRequire_181 ?_
                refine xn_top (y := nI (5 * (nd - 1))) (pk_mul 5 (nd - 1)) ?_
                refine lv_istore hx hb xd_Mo_newRequire_182 hl (Nat.le_of_ble_eq_true rfl) rfl (fun ls hl => ?_)
                have hl : lv_has ls 8 [(7, .int (nI (5 * (nd - 1)))), (6, .int 0), (5, .int (nI (nd - 1))), (4, .int r66), (1, .int 1), (3, .int 0), (2, .int 0), (0, .ref h)] := hl
                refine xlab (σ := Nat × Int32) (ml := 8) 184 (fun (i, tw) => [(7, .int (nI i)), (6, .int tw), (0, .ref h), (2, .int 0), (3, .int 0), (4, .int r66), (5, .int (nI (nd - 1)))]) (fun (i, tw) => []) (fun (i, tw) => moW h mm kA v g) (fun (i, tw) => (5 * (nd - 1) ≤ i) ∧ (i ≤ 5 * (nd - 1) + rq1)) (fun (i, tw) => 5 * (nd - 1) + rq1 - i) ?_ (5 * (nd - 1), 0) _ _ _ (lv_sub hl [0, 1, 7, 6, 5, 3, 2] rfl) hP hD hS ⟨(show 5 * (nd - 1) ≤ (5 * (nd - 1)) from by first | assumption | omega), (show (5 * (nd - 1)) ≤ 5 * (nd - 1) + rq1 from by first | assumption | omega)⟩
                intro n9 ih82 a9 ls H locs hμ hl hP hD hS hI
                subst hμ
                obtain ⟨i, tw⟩ := a9
                obtain ⟨hi1, hi2⟩ := hI
                have hi1 : 5 * (nd - 1) ≤ i := hi1
                have hi2 : i ≤ 5 * (nd - 1) + rq1 := hi2
                have hl : lv_has ls 8 [(7, .int (nI i)), (6, .int tw), (0, .ref h), (2, .int 0), (3, .int 0), (4, .int r66), (5, .int (nI (nd - 1)))] := hl
                have hP : va_P D xcl (moW h mm kA v g) H := hP
                have hD : va_D A (moW h mm kA v g) := hD
                refine lv_iload hx hb xd_Mo_newRequire_184 (lv_at hl 6 rfl) ?_
                refine xz_lt (a := nd - 1) (tgt := 236) hx hb xd_Mo_newRequire_186 (by decide) (by omega) ?_
                refine lv_iload hx hb xd_Mo_newRequire_189 (lv_at hl 0 rfl) ?_
                refine lv_iconst (v := 5) hx hb xd_Mo_newRequire_191 (by decide) ?_
                refine lv_iload hx hb xd_Mo_newRequire_192 (lv_at hl 6 rfl) ?_
                refine lv_imul hx hb xd_Mo_newRequire_194 ?_
                refine xn_top (y := nI (5 * (nd - 1))) (pk_mul 5 (nd - 1)) ?_
                refine lv_aload_n hx hb xd_Mo_newRequire_195 rfl (lv_at hl 2 rfl) ?_
                refine va_get (D := D) (ci := 4) (v := .ref (mm 12)) (C := xR_Mo) (T := xT_Mo) (N := 31) hx hb hT xi_Mo hown hK.1 hP 0 rfl rfl 17 (by decide) (hT _ xq_12) (fun _ h9 => h9) rfl xd_Mo_newRequire_196 ?_
                refine lv_iload hx hb xd_Mo_newRequire_199 (lv_at hl 6 rfl) ?_
                refine xn_iald (i := nd - 1) hx hb hK.1 hP 13 0 rfl rfl (by omega) (by decide) xd_Mo_newRequire_201 ?_
                refine xn_top (x := (g 12 (nd - 1))) (y := nI rq1) erq1 ?_
                refine lv_iadd hx hb xd_Mo_newRequire_202 ?_
                refine xn_top (y := nI ((5 * (nd - 1)) + rq1)) (nI_add (5 * (nd - 1)) rq1) ?_
                refine xn_ge (a := i) (b := (5 * (nd - 1)) + rq1) (tgt := 236) hx hb xd_Mo_newRequire_203 (by decide) (by omega) (by omega) (fun hc84 => ?_) (fun hc84 => ?_)
                · refine lv_iload hx hb xd_Mo_newRequire_236 (lv_at hl 1 rfl) ?_
                  refine lv_if_eq (tgt := 243) hx hb xd_Mo_newRequire_238 (by decide) (fun hc85 => ?_) (fun hc85 => ?_)
                  · refine lv_aload_n hx hb xd_Mo_newRequire_243 rfl (lv_at hl 2 rfl) ?_
                    have hFc := va_free (wc := (moW h mm kA v g)) hD hS hA [0, 1, 2, 3, 4, 5, 6, 7, 8, 9, 10, 11, 12, 13, 14, 15, 16, 17, 18, 19, 20, 21, 22, 23, 24, 25] rfl
                    refine va_calli (va_runV (As := []) (rest := []) ⟨hx, hb, hml, hown, hT⟩ (xc_Mo_isShut l D kA H.size h mm v g nd (by first | assumption | omega) (by first | assumption | omega)) (cwV 0 hT (wT_V xq_8 xq_9 xq_10 xq_5 xq_7) rfl rfl rfl (by decide +kernel) ⟨Nat.le_of_ble_eq_true rfl, Nat.le_of_ble_eq_true rfl⟩) (x_preV hK hP hD 0 rfl rfl) rfl rfl hl.1 rfl (lv_room (Nat.le_of_ble_eq_true rfl)) xd_Mo_newRequire_244 ⟨Nat.le_of_ble_eq_true rfl, Nat.le_of_ble_eq_true rfl⟩) hS (fun q _ h => hFc q h) hFc (fun r86 u87 t H1 locs ht hvm hp88 hB hz1 hk1 hS => ?_)
                    obtain ⟨hP1, hD1⟩ := hB
                    rw [ht] at hP1
                    have hD1 := hD1.weaken (fun _ _ _ h => hFc _ h)
                    generalize H1 = H at hP1 hS ⊢
                    have hP := hP1
                    have hD := hD1
                    have hP : va_P D xcl (moW h mm kA v g) H := hP
                    have hD : va_D A (moW h mm kA v g) := hD
                    rcases hp88 with ⟨rfl, z89⟩ | ⟨rfl, z90, z91⟩
                    · refine xz_ne (a := 1) (tgt := 261) hx hb xd_Mo_newRequire_247 (by decide) (by omega) (fun _ => ?_) (fun hc92 => absurd hc92 (by omega))
                      refine lv_bipush (v := (-2)) hx hb xd_Mo_newRequire_261 (by decide) ?_
                      exact W.iret (v := (-2)) hx hb hr (fun t ht hW => ⟨⟨(-2), (v, g), rfl, ⟨hMI, rfl, Or.inr (Or.inl rfl)⟩, by rw [ht]; exact hP, hD⟩, hS.F ht⟩) hS.2.2 xd_Mo_newRequire_263
                    · refine xz_ne (a := 0) (tgt := 261) hx hb xd_Mo_newRequire_247 (by decide) (by omega) (fun hc93 => absurd hc93 (by omega)) (fun _ => ?_)
                      refine lv_aload_n hx hb xd_Mo_newRequire_250 rfl (lv_at hl 2 rfl) ?_
                      refine va_get (D := D) (ci := 4) (v := .ref (mm 12)) (C := xR_Mo) (T := xT_Mo) (N := 31) hx hb hT xi_Mo hown hK.1 hP 0 rfl rfl 17 (by decide) (hT _ xq_12) (fun _ h9 => h9) rfl xd_Mo_newRequire_251 ?_
                      refine lv_iload hx hb xd_Mo_newRequire_254 (lv_at hl 6 rfl) ?_
                      refine xn_iald (i := nd - 1) hx hb hK.1 hP 13 0 rfl rfl (by omega) (by decide) xd_Mo_newRequire_256 ?_
                      refine xn_top (x := (g 12 (nd - 1))) (y := nI rq1) erq1 ?_
                      refine lv_iconst (v := 5) hx hb xd_Mo_newRequire_257 (by decide) ?_
                      refine xn_ne (a := rq1) (b := 5) (tgt := 264) hx hb xd_Mo_newRequire_258 (by decide) (by omega) (by omega) (fun hc94 => ?_) (fun hc94 => ?_)
                      · refine lv_aload_n hx hb xd_Mo_newRequire_264 rfl (lv_at hl 2 rfl) ?_
                        refine va_get (D := D) (ci := 4) (v := .ref (mm 13)) (C := xR_Mo) (T := xT_Mo) (N := 31) hx hb hT xi_Mo hown hK.1 hP 0 rfl rfl 18 (by decide) (hT _ xq_13) (fun _ h9 => h9) rfl xd_Mo_newRequire_265 ?_
                        refine lv_iconst (v := 5) hx hb xd_Mo_newRequire_268 (by decide) ?_
                        refine lv_iload hx hb xd_Mo_newRequire_269 (lv_at hl 6 rfl) ?_
                        refine lv_imul hx hb xd_Mo_newRequire_271 ?_
                        refine xn_top (y := nI (5 * (nd - 1))) (pk_mul 5 (nd - 1)) ?_
                        refine lv_aload_n hx hb xd_Mo_newRequire_272 rfl (lv_at hl 2 rfl) ?_
                        refine va_get (D := D) (ci := 4) (v := .ref (mm 12)) (C := xR_Mo) (T := xT_Mo) (N := 31) hx hb hT xi_Mo hown hK.1 hP 0 rfl rfl 17 (by decide) (hT _ xq_12) (fun _ h9 => h9) rfl xd_Mo_newRequire_273 ?_
                        refine lv_iload hx hb xd_Mo_newRequire_276 (lv_at hl 6 rfl) ?_
                        refine xn_iald (i := nd - 1) hx hb hK.1 hP 13 0 rfl rfl (by omega) (by decide) xd_Mo_newRequire_278 ?_
                        refine xn_top (x := (g 12 (nd - 1))) (y := nI rq1) erq1 ?_
                        refine lv_iadd hx hb xd_Mo_newRequire_279 ?_
                        refine xn_top (y := nI ((5 * (nd - 1)) + rq1)) (nI_add (5 * (nd - 1)) rq1) ?_
                        refine lv_iload hx hb xd_Mo_newRequire_280 (lv_at hl 5 rfl) ?_
                        refine xn_iast (i := (5 * (nd - 1)) + rq1) hx hb hK.1 hP hD hS 14 0 rfl rfl (by omega) (by decide) xd_Mo_newRequire_282 (fun H locs hP hD hS => ?_)
                        have hP : va_P D xcl (moW h mm kA v (va_up g 13 (upd (g 13) ((5 * (nd - 1)) + rq1) r66))) H := hP
                        have hD : va_D A (moW h mm kA v (va_up g 13 (upd (g 13) ((5 * (nd - 1)) + rq1) r66))) := hD
                        refine lv_aload_n hx hb xd_Mo_newRequire_283 rfl (lv_at hl 2 rfl) ?_
                        refine va_get (D := D) (ci := 4) (v := .ref (mm 16)) (C := xR_Mo) (T := xT_Mo) (N := 31) hx hb hT xi_Mo hown hK.1 hP 0 rfl rfl 21 (by decide) (hT _ xq_14) (fun _ h9 => h9) rfl xd_Mo_newRequire_284 ?_
                        refine lv_iconst (v := 5) hx hb xd_Mo_newRequire_287 (by decide) ?_
                        refine lv_iload hx hb xd_Mo_newRequire_288 (lv_at hl 6 rfl) ?_
                        refine lv_imul hx hb xd_Mo_newRequire_290 ?_
                        refine xn_top (y := nI (5 * (nd - 1))) (pk_mul 5 (nd - 1)) ?_
                        refine lv_aload_n hx hb xd_Mo_newRequire_291 rfl (lv_at hl 2 rfl) ?_
                        refine va_get (D := D) (ci := 4) (v := .ref (mm 12)) (C := xR_Mo) (T := xT_Mo) (N := 31) hx hb hT xi_Mo hown hK.1 hP 0 rfl rfl 17 (by decide) (hT _ xq_12) (fun _ h9 => h9) rfl xd_Mo_newRequire_292 ?_
                        refine lv_iload hx hb xd_Mo_newRequire_295 (lv_at hl 6 rfl) ?_
                        refine xn_iald (i := nd - 1) hx hb hK.1 hP 13 0 rfl rfl (by omega) (by decide) xd_Mo_newRequire_297 ?_
                        refine xn_top (x := (g 12 (nd - 1))) (y := nI rq1) erq1 ?_
                        refine lv_iadd hx hb xd_Mo_newRequire_298 ?_
                        refine xn_top (y := nI ((5 * (nd - 1)) + rq1)) (nI_add (5 * (nd - 1)) rq1) ?_
                        refine lv_iload_n hx hb xd_Mo_newRequire_299 rfl (lv_at hl 3 rfl) ?_
                        refine xn_zast (i := (5 * (nd - 1)) + rq1) hx hb hK.1 hP hD hS 17 2 rfl rfl (by omega) (by decide) xd_Mo_newRequire_300 (fun H locs hP hD hS => ?_)
                        have hP : va_P D xcl (moW h mm kA v (va_up (va_up g 13 (upd (g 13) ((5 * (nd - 1)) + rq1) r66)) 16 (upd (g 16) ((5 * (nd - 1)) + rq1) (vp_nar .boolean 0)))) H := hP
                        have hD : va_D A (moW h mm kA v (va_up (va_up g 13 (upd (g 13) ((5 * (nd - 1)) + rq1) r66)) 16 (upd (g 16) ((5 * (nd - 1)) + rq1) (vp_nar .boolean 0)))) := hD
                        refine lv_aload_n hx hb xd_Mo_newRequire_301 rfl (lv_at hl 2 rfl) ?_
                        refine va_get (D := D) (ci := 4) (v := .ref (mm 17)) (C := xR_Mo) (T := xT_Mo) (N := 31) hx hb hT xi_Mo hown hK.1 hP 0 rfl rfl 22 (by decide) (hT _ xq_15) (fun _ h9 => h9) rfl xd_Mo_newRequire_302 ?_
                        refine lv_iconst (v := 5) hx hb xd_Mo_newRequire_305 (by decide) ?_
                        refine lv_iload hx hb xd_Mo_newRequire_306 (lv_at hl 6 rfl) ?_
                        refine lv_imul hx hb xd_Mo_newRequire_308 ?_
                        refine xn_top (y := nI (5 * (nd - 1))) (pk_mul 5 (nd - 1)) ?_
                        refine lv_aload_n hx hb xd_Mo_newRequire_309 rfl (lv_at hl 2 rfl) ?_
                        refine va_get (D := D) (ci := 4) (v := .ref (mm 12)) (C := xR_Mo) (T := xT_Mo) (N := 31) hx hb hT xi_Mo hown hK.1 hP 0 rfl rfl 17 (by decide) (hT _ xq_12) (fun _ h9 => h9) rfl xd_Mo_newRequire_310 ?_
                        refine lv_iload hx hb xd_Mo_newRequire_313 (lv_at hl 6 rfl) ?_
                        refine xn_iald (i := nd - 1) hx hb hK.1 hP 13 0 rfl rfl (by omega) (by decide) xd_Mo_newRequire_315 ?_
                        refine xn_top (x := (g 12 (nd - 1))) (y := nI rq1) erq1 ?_
                        refine lv_iadd hx hb xd_Mo_newRequire_316 ?_
                        refine xn_top (y := nI ((5 * (nd - 1)) + rq1)) (nI_add (5 * (nd - 1)) rq1) ?_
                        refine lv_iload_n hx hb xd_Mo_newRequire_317 rfl (lv_at hl 4 rfl) ?_
                        refine xn_zast (i := (5 * (nd - 1)) + rq1) hx hb hK.1 hP hD hS 18 2 rfl rfl (by omega) (by decide) xd_Mo_newRequire_318 (fun H locs hP hD hS => ?_)
                        have hP : va_P D xcl (moW h mm kA v (va_up (va_up (va_up g 13 (upd (g 13) ((5 * (nd - 1)) + rq1) r66)) 16 (upd (g 16) ((5 * (nd - 1)) + rq1) (vp_nar .boolean 0))) 17 (upd (g 17) ((5 * (nd - 1)) + rq1) (vp_nar .boolean 0)))) H := hP
                        have hD : va_D A (moW h mm kA v (va_up (va_up (va_up g 13 (upd (g 13) ((5 * (nd - 1)) + rq1) r66)) 16 (upd (g 16) ((5 * (nd - 1)) + rq1) (vp_nar .boolean 0))) 17 (upd (g 17) ((5 * (nd - 1)) + rq1) (vp_nar .boolean 0)))) := hD
                        refine lv_aload_n hx hb xd_Mo_newRequire_319 rfl (lv_at hl 2 rfl) ?_
                        refine va_get (D := D) (ci := 4) (v := .ref (mm 12)) (C := xR_Mo) (T := xT_Mo) (N := 31) hx hb hT xi_Mo hown hK.1 hP 0 rfl rfl 17 (by decide) (hT _ xq_12) (fun _ h9 => h9) rfl xd_Mo_newRequire_320 ?_
                        refine lv_iload hx hb xd_Mo_newRequire_323 (lv_at hl 6 rfl) ?_
                        refine lv_dup2_11 hx hb xd_Mo_newRequire_325 rfl rfl ?_
                        refine xn_iald (i := nd - 1) hx hb hK.1 hP 13 0 rfl rfl (by omega) (by decide) xd_Mo_newRequire_326 ?_
                        refine xn_top (x := (g 12 (nd - 1))) (y := nI rq1) erq1 ?_
                        refine lv_iconst (v := 1) hx hb xd_Mo_newRequire_327 (by decide) ?_
                        refine lv_iadd hx hb xd_Mo_newRequire_328 ?_
                        refine xn_top (y := nI (rq1 + 1)) (nI_add rq1 1) ?_
                        refine xn_iast (i := nd - 1) hx hb hK.1 hP hD hS 13 0 rfl rfl (by omega) (by decide) xd_Mo_newRequire_329 (fun H locs hP hD hS => ?_)
                        have hP : va_P D xcl (moW h mm kA v (va_up (va_up (va_up (va_up g 12 (upd (g 12) (nd - 1) (nI (rq1 + 1)))) 13 (upd (g 13) ((5 * (nd - 1)) + rq1) r66)) 16 (upd (g 16) ((5 * (nd - 1)) + rq1) (vp_nar .boolean 0))) 17 (upd (g 17) ((5 * (nd - 1)) + rq1) (vp_nar .boolean 0)))) H := hP
                        have hD : va_D A (moW h mm kA v (va_up (va_up (va_up (va_up g 12 (upd (g 12) (nd - 1) (nI (rq1 + 1)))) 13 (upd (g 13) ((5 * (nd - 1)) + rq1) r66)) 16 (upd (g 16) ((5 * (nd - 1)) + rq1) (vp_nar .boolean 0))) 17 (upd (g 17) ((5 * (nd - 1)) + rq1) (vp_nar .boolean 0)))) := hD
                        refine lv_iconst (v := 2) hx hb xd_Mo_newRequire_330 (by decide) ?_
                        exact W.iret (v := 2) hx hb hr (fun t ht hW => ⟨⟨2, (v, (va_up (va_up (va_up (va_up g 12 (upd (g 12) (nd - 1) (nI (rq1 + 1)))) 13 (upd (g 13) ((5 * (nd - 1)) + rq1) r66)) 16 (upd (g 16) ((5 * (nd - 1)) + rq1) (vp_nar .boolean 0))) 17 (upd (g 17) ((5 * (nd - 1)) + rq1) (vp_nar .boolean 0)))), rfl, ⟨MI_g (g := va_up g 12 (upd (g 12) (nd - 1) (nI (rq1 + 1)))) rfl rfl rfl rfl rfl rfl rfl rfl (MI_rq (by omega) hMI), rfl, Or.inr (Or.inr (Or.inr rfl))⟩, by rw [ht]; exact hP, hD⟩, hS.F ht⟩) hS.2.2 xd_Mo_newRequire_331
                      · refine lv_bipush (v := (-2)) hx hb xd_Mo_newRequire_261 (by decide) ?_
                        exact W.iret (v := (-2)) hx hb hr (fun t ht hW => ⟨⟨(-2), (v, g), rfl, ⟨hMI, rfl, Or.inr (Or.inl rfl)⟩, by rw [ht]; exact hP, hD⟩, hS.F ht⟩) hS.2.2 xd_Mo_newRequire_263
                  · refine lv_iconst (v := (-1)) hx hb xd_Mo_newRequire_241 (by decide) ?_
                    exact W.iret (v := (-1)) hx hb hr (fun t ht hW => ⟨⟨(-1), (v, g), rfl, ⟨hMI, rfl, Or.inl rfl⟩, by rw [ht]; exact hP, hD⟩, hS.F ht⟩) hS.2.2 xd_Mo_newRequire_242
                · refine lv_iload hx hb xd_Mo_newRequire_206 (lv_at hl 1 rfl) ?_
                  refine lv_if_ne (tgt := 223) hx hb xd_Mo_newRequire_208 (by decide) (fun hc95 => ?_) (fun hc95 => ?_)
                  · refine lv_iconst (v := 1) hx hb xd_Mo_newRequire_223 (by decide) ?_
                    refine lv_goto (tgt := 228) hx hb xd_Mo_newRequire_224 (by decide) ?_
                    refine lv_istore hx hb xd_Mo_newRequire_228 hl (Nat.le_of_ble_eq_true rfl) rfl (fun ls hl => ?_)
                    have hl : lv_has ls 8 [(6, .int 1), (7, .int (nI i)), (0, .ref h), (2, .int 0), (3, .int 0), (4, .int r66), (5, .int (nI (nd - 1)))] := hl
                    refine lv_iinc (k := 1) (x := (nI i)) (v := (nI (i + 1))) hx hb xd_Mo_newRequire_230 hl rfl (xb_inc i 1) (Nat.le_of_ble_eq_true rfl) rfl (fun ls hl => ?_)
                    have hl : lv_has ls 8 [(7, .int (nI (i + 1))), (6, .int 1), (0, .ref h), (2, .int 0), (3, .int 0), (4, .int r66), (5, .int (nI (nd - 1)))] := hl
                    refine lv_goto (tgt := 184) hx hb xd_Mo_newRequire_233 (by decide) ?_
                    exact ih82 (i + 1, 1) _ _ _ (show 5 * (nd - 1) + rq1 - (i + 1) < 5 * (nd - 1) + rq1 - i by omega) (lv_sub hl [0, 1, 2, 3, 4, 5, 6] rfl) hP hD hS ⟨(show 5 * (nd - 1) ≤ (i + 1) from by first | assumption | omega), (show (i + 1) ≤ 5 * (nd - 1) + rq1 from by first | assumption | omega)⟩
                  · refine lv_aload_n hx hb xd_Mo_newRequire_211 rfl (lv_at hl 2 rfl) ?_
                    refine va_get (D := D) (ci := 4) (v := .ref (mm 13)) (C := xR_Mo) (T := xT_Mo) (N := 31) hx hb hT xi_Mo hown hK.1 hP 0 rfl rfl 18 (by decide) (hT _ xq_13) (fun _ h9 => h9) rfl xd_Mo_newRequire_212 ?_
                    refine lv_iload hx hb xd_Mo_newRequire_215 (lv_at hl 0 rfl) ?_
                    refine xn_iald (i := i) hx hb hK.1 hP 14 0 rfl rfl (by omega) (by decide) xd_Mo_newRequire_217 ?_
                    refine lv_iload hx hb xd_Mo_newRequire_218 (lv_at hl 5 rfl) ?_
                    refine lv_icmp_ne (tgt := 227) hx hb xd_Mo_newRequire_220 (by decide) (fun hc96 => ?_) (fun hc96 => ?_)
                    · refine lv_iconst (v := 0) hx hb xd_Mo_newRequire_227 (by decide) ?_
                      refine lv_istore hx hb xd_Mo_newRequire_228 hl (Nat.le_of_ble_eq_true rfl) rfl (fun ls hl => ?_)
                      have hl : lv_has ls 8 [(6, .int 0), (7, .int (nI i)), (0, .ref h), (2, .int 0), (3, .int 0), (4, .int r66), (5, .int (nI (nd - 1)))] := hl
                      refine lv_iinc (k := 1) (x := (nI i)) (v := (nI (i + 1))) hx hb xd_Mo_newRequire_230 hl rfl (xb_inc i 1) (Nat.le_of_ble_eq_true rfl) rfl (fun ls hl => ?_)
                      have hl : lv_has ls 8 [(7, .int (nI (i + 1))), (6, .int 0), (0, .ref h), (2, .int 0), (3, .int 0), (4, .int r66), (5, .int (nI (nd - 1)))] := hl
                      refine lv_goto (tgt := 184) hx hb xd_Mo_newRequire_233 (by decide) ?_
                      exact ih82 (i + 1, 0) _ _ _ (show 5 * (nd - 1) + rq1 - (i + 1) < 5 * (nd - 1) + rq1 - i by omega) (lv_sub hl [0, 1, 2, 3, 4, 5, 6] rfl) hP hD hS ⟨(show 5 * (nd - 1) ≤ (i + 1) from by first | assumption | omega), (show (i + 1) ≤ 5 * (nd - 1) + rq1 from by first | assumption | omega)⟩
                    · refine lv_iconst (v := 1) hx hb xd_Mo_newRequire_223 (by decide) ?_
                      refine lv_goto (tgt := 228) hx hb xd_Mo_newRequire_224 (by decide) ?_
                      refine lv_istore hx hb xd_Mo_newRequire_228 hl (Nat.le_of_ble_eq_true rfl) rfl (fun ls hl => ?_)
                      have hl : lv_has ls 8 [(6, .int 1), (7, .int (nI i)), (0, .ref h), (2, .int 0), (3, .int 0), (4, .int r66), (5, .int (nI (nd - 1)))] := hl
                      refine lv_iinc (k := 1) (x := (nI i)) (v := (nI (i + 1))) hx hb xd_Mo_newRequire_230 hl rfl (xb_inc i 1) (Nat.le_of_ble_eq_true rfl) rfl (fun ls hl => ?_)
                      have hl : lv_has ls 8 [(7, .int (nI (i + 1))), (6, .int 1), (0, .ref h), (2, .int 0), (3, .int 0), (4, .int r66), (5, .int (nI (nd - 1)))] := hl
                      refine lv_goto (tgt := 184) hx hb xd_Mo_newRequire_233 (by decide) ?_
                      exact ih82 (i + 1, 1) _ _ _ (show 5 * (nd - 1) + rq1 - (i + 1) < 5 * (nd - 1) + rq1 - i by omega) (lv_sub hl [0, 1, 2, 3, 4, 5, 6] rfl) hP hD hS ⟨(show 5 * (nd - 1) ≤ (i + 1) from by first | assumption | omega), (show (i + 1) ≤ 5 * (nd - 1) + rq1 from by first | assumption | omega)⟩
              · refine lv_iconst (v := 1) hx hb xd_Mo_newRequire_171 (by decide) ?_
                refine lv_goto (tgt := 176) hx hb xd_Mo_newRequire_172 (by decide) ?_
                refine lv_istore hx hb xd_Mo_newRequire_176 hl (Nat.le_of_ble_eq_true rfl) rfl (fun ls hl => ?_)
                have hl : lv_has ls 8 [(6, .int 1), (5, .int (nI (nd - 1))), (4, .int r66), (1, .int 1), (3, .int 0), (2, .int 0), (0, .ref h)] := hl
                refine lv_iconst (v := 5) hx hb xd_Mo_newRequire_178 (by decide) ?_
                refine lv_iload hx hb xd_Mo_newRequire_179 (lv_at hl 1 rfl) ?_
                refine lv_imul hx hb xd_Mo_newRequire_181 ?_
                refine xn_top (y := nI (5 * (nd - 1))) (pk_mul 5 (nd - 1)) ?_
                refine lv_istore hx hb xd_Mo_newRequire_182 hl (Nat.le_of_ble_eq_true rfl) rfl (fun ls hl => ?_)
                have hl : lv_has ls 8 [(7, .int (nI (5 * (nd - 1)))), (6, .int 1), (5, .int (nI (nd - 1))), (4, .int r66), (1, .int 1), (3, .int 0), (2, .int 0), (0, .ref h)] := hl
                refine xlab (σ := Nat × Int32) (ml := 8) 184 (fun (i, tw) => [(7, .int (nI i)), (6, .int tw), (0, .ref h), (2, .int 0), (3, .int 0), (4, .int r66), (5, .int (nI (nd - 1)))]) (fun (i, tw) => []) (fun (i, tw) => moW h mm kA v g) (fun (i, tw) => (5 * (nd - 1) ≤ i) ∧ (i ≤ 5 * (nd - 1) + rq1)) (fun (i, tw) => 5 * (nd - 1) + rq1 - i) ?_ (5 * (nd - 1), 1) _ _ _ (lv_sub hl [0, 1, 7, 6, 5, 3, 2] rfl) hP hD hS ⟨(show 5 * (nd - 1) ≤ (5 * (nd - 1)) from by first | assumption | omega), (show (5 * (nd - 1)) ≤ 5 * (nd - 1) + rq1 from by first | assumption | omega)⟩
                intro n9 ih97 a9 ls H locs hμ hl hP hD hS hI
                subst hμ
                obtain ⟨i, tw⟩ := a9
                obtain ⟨hi1, hi2⟩ := hI
                have hi1 : 5 * (nd - 1) ≤ i := hi1
                have hi2 : i ≤ 5 * (nd - 1) + rq1 := hi2
                have hl : lv_has ls 8 [(7, .int (nI i)), (6, .int tw), (0, .ref h), (2, .int 0), (3, .int 0), (4, .int r66), (5, .int (nI (nd - 1)))] := hl
                have hP : va_P D xcl (moW h mm kA v g) H := hP
                have hD : va_D A (moW h mm kA v g) := hD
                refine lv_iload hx hb xd_Mo_newRequire_184 (lv_at hl 6 rfl) ?_
                refine xz_lt (a := nd - 1) (tgt := 236) hx hb xd_Mo_newRequire_186 (by decide) (by omega) ?_
                refine lv_iload hx hb xd_Mo_newRequire_189 (lv_at hl 0 rfl) ?_
                refine lv_iconst (v := 5) hx hb xd_Mo_newRequire_191 (by decide) ?_
                refine lv_iload hx hb xd_Mo_newRequire_192 (lv_at hl 6 rfl) ?_
                refine lv_imul hx hb xd_Mo_newRequire_194 ?_
                refine xn_top (y := nI (5 * (nd - 1))) (pk_mul 5 (nd - 1)) ?_
                refine lv_aload_n hx hb xd_Mo_newRequire_195 rfl (lv_at hl 2 rfl) ?_
                refine va_get (D := D) (ci := 4) (v := .ref (mm 12)) (C := xR_Mo) (T := xT_Mo) (N := 31) hx hb hT xi_Mo hown hK.1 hP 0 rfl rfl 17 (by decide) (hT _ xq_12) (fun _ h9 => h9) rfl xd_Mo_newRequire_196 ?_
                refine lv_iload hx hb xd_Mo_newRequire_199 (lv_at hl 6 rfl) ?_
                refine xn_iald (i := nd - 1) hx hb hK.1 hP 13 0 rfl rfl (by omega) (by decide) xd_Mo_newRequire_201 ?_
                refine xn_top (x := (g 12 (nd - 1))) (y := nI rq1) erq1 ?_
                refine lv_iadd hx hb xd_Mo_newRequire_202 ?_
                refine xn_top (y := nI ((5 * (nd - 1)) + rq1)) (nI_add (5 * (nd - 1)) rq1) ?_
                refine xn_ge (a := i) (b := (5 * (nd - 1)) + rq1) (tgt := 236) hx hb xd_Mo_newRequire_203 (by decide) (by omega) (by omega) (fun hc99 => ?_) (fun hc99 => ?_)
                · refine lv_iload hx hb xd_Mo_newRequire_236 (lv_at hl 1 rfl) ?_
                  refine lv_if_eq (tgt := 243) hx hb xd_Mo_newRequire_238 (by decide) (fun hc100 => ?_) (fun hc100 => ?_)
                  · refine lv_aload_n hx hb xd_Mo_newRequire_243 rfl (lv_at hl 2 rfl) ?_
                    have hFc := va_free (wc := (moW h mm kA v g)) hD hS hA [0, 1, 2, 3, 4, 5, 6, 7, 8, 9, 10, 11, 12, 13, 14, 15, 16, 17, 18, 19, 20, 21, 22, 23, 24, 25] rfl
                    refine va_calli (va_runV (As := []) (rest := []) ⟨hx, hb, hml, hown, hT⟩ (xc_Mo_isShut l D kA H.size h mm v g nd (by first | assumption | omega) (by first | assumption | omega)) (cwV 0 hT (wT_V xq_8 xq_9 xq_10 xq_5 xq_7) rfl rfl rfl (by decide +kernel) ⟨Nat.le_of_ble_eq_true rfl, Nat.le_of_ble_eq_true rfl⟩) (x_preV hK hP hD 0 rfl rfl) rfl rfl hl.1 rfl (lv_room (Nat.le_of_ble_eq_true rfl)) xd_Mo_newRequire_244 ⟨Nat.le_of_ble_eq_true rfl, Nat.le_of_ble_eq_true rfl⟩) hS (fun q _ h => hFc q h) hFc (fun r101 u102 t H1 locs ht hvm hp103 hB hz1 hk1 hS => ?_)
                    obtain ⟨hP1, hD1⟩ := hB
                    rw [ht] at hP1
                    have hD1 := hD1.weaken (fun _ _ _ h => hFc _ h)
                    generalize H1 = H at hP1 hS ⊢
                    have hP := hP1
                    have hD := hD1
                    have hP : va_P D xcl (moW h mm kA v g) H := hP
                    have hD : va_D A (moW h mm kA v g) := hD
                    rcases hp103 with ⟨rfl, z104⟩ | ⟨rfl, z105, z106⟩
                    · refine xz_ne (a := 1) (tgt := 261) hx hb xd_Mo_newRequire_247 (by decide) (by omega) (fun _ => ?_) (fun hc107 => absurd hc107 (by omega))
                      refine lv_bipush (v := (-2)) hx hb xd_Mo_newRequire_261 (by decide) ?_
                      exact W.iret (v := (-2)) hx hb hr (fun t ht hW => ⟨⟨(-2), (v, g), rfl, ⟨hMI, rfl, Or.inr (Or.inl rfl)⟩, by rw [ht]; exact hP, hD⟩, hS.F ht⟩) hS.2.2 xd_Mo_newRequire_263
                    · refine xz_ne (a := 0) (tgt := 261) hx hb xd_Mo_newRequire_247 (by decide) (by omega) (fun hc108 => absurd hc108 (by omega)) (fun _ => ?_)
                      refine lv_aload_n hx hb xd_Mo_newRequire_250 rfl (lv_at hl 2 rfl) ?_
                      refine va_get (D := D) (ci := 4) (v := .ref (mm 12)) (C := xR_Mo) (T := xT_Mo) (N := 31) hx hb hT xi_Mo hown hK.1 hP 0 rfl rfl 17 (by decide) (hT _ xq_12) (fun _ h9 => h9) rfl xd_Mo_newRequire_251 ?_
                      refine lv_iload hx hb xd_Mo_newRequire_254 (lv_at hl 6 rfl) ?_
                      refine xn_iald (i := nd - 1) hx hb hK.1 hP 13 0 rfl rfl (by omega) (by decide) xd_Mo_newRequire_256 ?_
                      refine xn_top (x := (g 12 (nd - 1))) (y := nI rq1) erq1 ?_
                      refine lv_iconst (v := 5) hx hb xd_Mo_newRequire_257 (by decide) ?_
                      refine xn_ne (a := rq1) (b := 5) (tgt := 264) hx hb xd_Mo_newRequire_258 (by decide) (by omega) (by omega) (fun hc109 => ?_) (fun hc109 => ?_)
                      · refine lv_aload_n hx hb xd_Mo_newRequire_264 rfl (lv_at hl 2 rfl) ?_
                        refine va_get (D := D) (ci := 4) (v := .ref (mm 13)) (C := xR_Mo) (T := xT_Mo) (N := 31) hx hb hT xi_Mo hown hK.1 hP 0 rfl rfl 18 (by decide) (hT _ xq_13) (fun _ h9 => h9) rfl xd_Mo_newRequire_265 ?_
                        refine lv_iconst (v := 5) hx hb xd_Mo_newRequire_268 (by decide) ?_
                        refine lv_iload hx hb xd_Mo_newRequire_269 (lv_at hl 6 rfl) ?_
                        refine lv_imul hx hb xd_Mo_newRequire_271 ?_
                        refine xn_top (y := nI (5 * (nd - 1))) (pk_mul 5 (nd - 1)) ?_
                        refine lv_aload_n hx hb xd_Mo_newRequire_272 rfl (lv_at hl 2 rfl) ?_
                        refine va_get (D := D) (ci := 4) (v := .ref (mm 12)) (C := xR_Mo) (T := xT_Mo) (N := 31) hx hb hT xi_Mo hown hK.1 hP 0 rfl rfl 17 (by decide) (hT _ xq_12) (fun _ h9 => h9) rfl xd_Mo_newRequire_273 ?_
                        refine lv_iload hx hb xd_Mo_newRequire_276 (lv_at hl 6 rfl) ?_
                        refine xn_iald (i := nd - 1) hx hb hK.1 hP 13 0 rfl rfl (by omega) (by decide) xd_Mo_newRequire_278 ?_
                        refine xn_top (x := (g 12 (nd - 1))) (y := nI rq1) erq1 ?_
                        refine lv_iadd hx hb xd_Mo_newRequire_279 ?_
                        refine xn_top (y := nI ((5 * (nd - 1)) + rq1)) (nI_add (5 * (nd - 1)) rq1) ?_
                        refine lv_iload hx hb xd_Mo_newRequire_280 (lv_at hl 5 rfl) ?_
                        refine xn_iast (i := (5 * (nd - 1)) + rq1) hx hb hK.1 hP hD hS 14 0 rfl rfl (by omega) (by decide) xd_Mo_newRequire_282 (fun H locs hP hD hS => ?_)
                        have hP : va_P D xcl (moW h mm kA v (va_up g 13 (upd (g 13) ((5 * (nd - 1)) + rq1) r66))) H := hP
                        have hD : va_D A (moW h mm kA v (va_up g 13 (upd (g 13) ((5 * (nd - 1)) + rq1) r66))) := hD
                        refine lv_aload_n hx hb xd_Mo_newRequire_283 rfl (lv_at hl 2 rfl) ?_
                        refine va_get (D := D) (ci := 4) (v := .ref (mm 16)) (C := xR_Mo) (T := xT_Mo) (N := 31) hx hb hT xi_Mo hown hK.1 hP 0 rfl rfl 21 (by decide) (hT _ xq_14) (fun _ h9 => h9) rfl xd_Mo_newRequire_284 ?_
                        refine lv_iconst (v := 5) hx hb xd_Mo_newRequire_287 (by decide) ?_
                        refine lv_iload hx hb xd_Mo_newRequire_288 (lv_at hl 6 rfl) ?_
                        refine lv_imul hx hb xd_Mo_newRequire_290 ?_
                        refine xn_top (y := nI (5 * (nd - 1))) (pk_mul 5 (nd - 1)) ?_
                        refine lv_aload_n hx hb xd_Mo_newRequire_291 rfl (lv_at hl 2 rfl) ?_
                        refine va_get (D := D) (ci := 4) (v := .ref (mm 12)) (C := xR_Mo) (T := xT_Mo) (N := 31) hx hb hT xi_Mo hown hK.1 hP 0 rfl rfl 17 (by decide) (hT _ xq_12) (fun _ h9 => h9) rfl xd_Mo_newRequire_292 ?_
                        refine lv_iload hx hb xd_Mo_newRequire_295 (lv_at hl 6 rfl) ?_
                        refine xn_iald (i := nd - 1) hx hb hK.1 hP 13 0 rfl rfl (by omega) (by decide) xd_Mo_newRequire_297 ?_
                        refine xn_top (x := (g 12 (nd - 1))) (y := nI rq1) erq1 ?_
                        refine lv_iadd hx hb xd_Mo_newRequire_298 ?_
                        refine xn_top (y := nI ((5 * (nd - 1)) + rq1)) (nI_add (5 * (nd - 1)) rq1) ?_
                        refine lv_iload_n hx hb xd_Mo_newRequire_299 rfl (lv_at hl 3 rfl) ?_
                        refine xn_zast (i := (5 * (nd - 1)) + rq1) hx hb hK.1 hP hD hS 17 2 rfl rfl (by omega) (by decide) xd_Mo_newRequire_300 (fun H locs hP hD hS => ?_)
                        have hP : va_P D xcl (moW h mm kA v (va_up (va_up g 13 (upd (g 13) ((5 * (nd - 1)) + rq1) r66)) 16 (upd (g 16) ((5 * (nd - 1)) + rq1) (vp_nar .boolean 0)))) H := hP
                        have hD : va_D A (moW h mm kA v (va_up (va_up g 13 (upd (g 13) ((5 * (nd - 1)) + rq1) r66)) 16 (upd (g 16) ((5 * (nd - 1)) + rq1) (vp_nar .boolean 0)))) := hD
                        refine lv_aload_n hx hb xd_Mo_newRequire_301 rfl (lv_at hl 2 rfl) ?_
                        refine va_get (D := D) (ci := 4) (v := .ref (mm 17)) (C := xR_Mo) (T := xT_Mo) (N := 31) hx hb hT xi_Mo hown hK.1 hP 0 rfl rfl 22 (by decide) (hT _ xq_15) (fun _ h9 => h9) rfl xd_Mo_newRequire_302 ?_
                        refine lv_iconst (v := 5) hx hb xd_Mo_newRequire_305 (by decide) ?_
                        refine lv_iload hx hb xd_Mo_newRequire_306 (lv_at hl 6 rfl) ?_
                        refine lv_imul hx hb xd_Mo_newRequire_308 ?_
                        refine xn_top (y := nI (5 * (nd - 1))) (pk_mul 5 (nd - 1)) ?_
                        refine lv_aload_n hx hb xd_Mo_newRequire_309 rfl (lv_at hl 2 rfl) ?_
                        refine va_get (D := D) (ci := 4) (v := .ref (mm 12)) (C := xR_Mo) (T := xT_Mo) (N := 31) hx hb hT xi_Mo hown hK.1 hP 0 rfl rfl 17 (by decide) (hT _ xq_12) (fun _ h9 => h9) rfl xd_Mo_newRequire_310 ?_
                        refine lv_iload hx hb xd_Mo_newRequire_313 (lv_at hl 6 rfl) ?_
                        refine xn_iald (i := nd - 1) hx hb hK.1 hP 13 0 rfl rfl (by omega) (by decide) xd_Mo_newRequire_315 ?_
                        refine xn_top (x := (g 12 (nd - 1))) (y := nI rq1) erq1 ?_
                        refine lv_iadd hx hb xd_Mo_newRequire_316 ?_
                        refine xn_top (y := nI ((5 * (nd - 1)) + rq1)) (nI_add (5 * (nd - 1)) rq1) ?_
                        refine lv_iload_n hx hb xd_Mo_newRequire_317 rfl (lv_at hl 4 rfl) ?_
                        refine xn_zast (i := (5 * (nd - 1)) + rq1) hx hb hK.1 hP hD hS 18 2 rfl rfl (by omega) (by decide) xd_Mo_newRequire_318 (fun H locs hP hD hS => ?_)
                        have hP : va_P D xcl (moW h mm kA v (va_up (va_up (va_up g 13 (upd (g 13) ((5 * (nd - 1)) + rq1) r66)) 16 (upd (g 16) ((5 * (nd - 1)) + rq1) (vp_nar .boolean 0))) 17 (upd (g 17) ((5 * (nd - 1)) + rq1) (vp_nar .boolean 0)))) H := hP
                        have hD : va_D A (moW h mm kA v (va_up (va_up (va_up g 13 (upd (g 13) ((5 * (nd - 1)) + rq1) r66)) 16 (upd (g 16) ((5 * (nd - 1)) + rq1) (vp_nar .boolean 0))) 17 (upd (g 17) ((5 * (nd - 1)) + rq1) (vp_nar .boolean 0)))) := hD
                        refine lv_aload_n hx hb xd_Mo_newRequire_319 rfl (lv_at hl 2 rfl) ?_
                        refine va_get (D := D) (ci := 4) (v := .ref (mm 12)) (C := xR_Mo) (T := xT_Mo) (N := 31) hx hb hT xi_Mo hown hK.1 hP 0 rfl rfl 17 (by decide) (hT _ xq_12) (fun _ h9 => h9) rfl xd_Mo_newRequire_320 ?_
                        refine lv_iload hx hb xd_Mo_newRequire_323 (lv_at hl 6 rfl) ?_
                        refine lv_dup2_11 hx hb xd_Mo_newRequire_325 rfl rfl ?_
                        refine xn_iald (i := nd - 1) hx hb hK.1 hP 13 0 rfl rfl (by omega) (by decide) xd_Mo_newRequire_326 ?_
                        refine xn_top (x := (g 12 (nd - 1))) (y := nI rq1) erq1 ?_
                        refine lv_iconst (v := 1) hx hb xd_Mo_newRequire_327 (by decide) ?_
                        refine lv_iadd hx hb xd_Mo_newRequire_328 ?_
                        refine xn_top (y := nI (rq1 + 1)) (nI_add rq1 1) ?_
                        refine xn_iast (i := nd - 1) hx hb hK.1 hP hD hS 13 0 rfl rfl (by omega) (by decide) xd_Mo_newRequire_329 (fun H locs hP hD hS => ?_)
                        have hP : va_P D xcl (moW h mm kA v (va_up (va_up (va_up (va_up g 12 (upd (g 12) (nd - 1) (nI (rq1 + 1)))) 13 (upd (g 13) ((5 * (nd - 1)) + rq1) r66)) 16 (upd (g 16) ((5 * (nd - 1)) + rq1) (vp_nar .boolean 0))) 17 (upd (g 17) ((5 * (nd - 1)) + rq1) (vp_nar .boolean 0)))) H := hP
                        have hD : va_D A (moW h mm kA v (va_up (va_up (va_up (va_up g 12 (upd (g 12) (nd - 1) (nI (rq1 + 1)))) 13 (upd (g 13) ((5 * (nd - 1)) + rq1) r66)) 16 (upd (g 16) ((5 * (nd - 1)) + rq1) (vp_nar .boolean 0))) 17 (upd (g 17) ((5 * (nd - 1)) + rq1) (vp_nar .boolean 0)))) := hD
                        refine lv_iconst (v := 2) hx hb xd_Mo_newRequire_330 (by decide) ?_
                        exact W.iret (v := 2) hx hb hr (fun t ht hW => ⟨⟨2, (v, (va_up (va_up (va_up (va_up g 12 (upd (g 12) (nd - 1) (nI (rq1 + 1)))) 13 (upd (g 13) ((5 * (nd - 1)) + rq1) r66)) 16 (upd (g 16) ((5 * (nd - 1)) + rq1) (vp_nar .boolean 0))) 17 (upd (g 17) ((5 * (nd - 1)) + rq1) (vp_nar .boolean 0)))), rfl, ⟨MI_g (g := va_up g 12 (upd (g 12) (nd - 1) (nI (rq1 + 1)))) rfl rfl rfl rfl rfl rfl rfl rfl (MI_rq (by omega) hMI), rfl, Or.inr (Or.inr (Or.inr rfl))⟩, by rw [ht]; exact hP, hD⟩, hS.F ht⟩) hS.2.2 xd_Mo_newRequire_331
                      · refine lv_bipush (v := (-2)) hx hb xd_Mo_newRequire_261 (by decide) ?_
                        exact W.iret (v := (-2)) hx hb hr (fun t ht hW => ⟨⟨(-2), (v, g), rfl, ⟨hMI, rfl, Or.inr (Or.inl rfl)⟩, by rw [ht]; exact hP, hD⟩, hS.F ht⟩) hS.2.2 xd_Mo_newRequire_263
                  · refine lv_iconst (v := (-1)) hx hb xd_Mo_newRequire_241 (by decide) ?_
                    exact W.iret (v := (-1)) hx hb hr (fun t ht hW => ⟨⟨(-1), (v, g), rfl, ⟨hMI, rfl, Or.inl rfl⟩, by rw [ht]; exact hP, hD⟩, hS.F ht⟩) hS.2.2 xd_Mo_newRequire_242
                · refine lv_iload hx hb xd_Mo_newRequire_206 (lv_at hl 1 rfl) ?_
                  refine lv_if_ne (tgt := 223) hx hb xd_Mo_newRequire_208 (by decide) (fun hc110 => ?_) (fun hc110 => ?_)
                  · refine lv_iconst (v := 1) hx hb xd_Mo_newRequire_223 (by decide) ?_
                    refine lv_goto (tgt := 228) hx hb xd_Mo_newRequire_224 (by decide) ?_
                    refine lv_istore hx hb xd_Mo_newRequire_228 hl (Nat.le_of_ble_eq_true rfl) rfl (fun ls hl => ?_)
                    have hl : lv_has ls 8 [(6, .int 1), (7, .int (nI i)), (0, .ref h), (2, .int 0), (3, .int 0), (4, .int r66), (5, .int (nI (nd - 1)))] := hl
                    refine lv_iinc (k := 1) (x := (nI i)) (v := (nI (i + 1))) hx hb xd_Mo_newRequire_230 hl rfl (xb_inc i 1) (Nat.le_of_ble_eq_true rfl) rfl (fun ls hl => ?_)
                    have hl : lv_has ls 8 [(7, .int (nI (i + 1))), (6, .int 1), (0, .ref h), (2, .int 0), (3, .int 0), (4, .int r66), (5, .int (nI (nd - 1)))] := hl
                    refine lv_goto (tgt := 184) hx hb xd_Mo_newRequire_233 (by decide) ?_
                    exact ih97 (i + 1, 1) _ _ _ (show 5 * (nd - 1) + rq1 - (i + 1) < 5 * (nd - 1) + rq1 - i by omega) (lv_sub hl [0, 1, 2, 3, 4, 5, 6] rfl) hP hD hS ⟨(show 5 * (nd - 1) ≤ (i + 1) from by first | assumption | omega), (show (i + 1) ≤ 5 * (nd - 1) + rq1 from by first | assumption | omega)⟩
                  · refine lv_aload_n hx hb xd_Mo_newRequire_211 rfl (lv_at hl 2 rfl) ?_
                    refine va_get (D := D) (ci := 4) (v := .ref (mm 13)) (C := xR_Mo) (T := xT_Mo) (N := 31) hx hb hT xi_Mo hown hK.1 hP 0 rfl rfl 18 (by decide) (hT _ xq_13) (fun _ h9 => h9) rfl xd_Mo_newRequire_212 ?_
                    refine lv_iload hx hb xd_Mo_newRequire_215 (lv_at hl 0 rfl) ?_
                    refine xn_iald (i := i) hx hb hK.1 hP 14 0 rfl rfl (by omega) (by decide) xd_Mo_newRequire_217 ?_
                    refine lv_iload hx hb xd_Mo_newRequire_218 (lv_at hl 5 rfl) ?_
                    refine lv_icmp_ne (tgt := 227) hx hb xd_Mo_newRequire_220 (by decide) (fun hc111 => ?_) (fun hc111 => ?_)
                    · refine lv_iconst (v := 0) hx hb xd_Mo_newRequire_227 (by decide) ?_
                      refine lv_istore hx hb xd_Mo_newRequire_228 hl (Nat.le_of_ble_eq_true rfl) rfl (fun ls hl => ?_)
                      have hl : lv_has ls 8 [(6, .int 0), (7, .int (nI i)), (0, .ref h), (2, .int 0), (3, .int 0), (4, .int r66), (5, .int (nI (nd - 1)))] := hl
                      refine lv_iinc (k := 1) (x := (nI i)) (v := (nI (i + 1))) hx hb xd_Mo_newRequire_230 hl rfl (xb_inc i 1) (Nat.le_of_ble_eq_true rfl) rfl (fun ls hl => ?_)
                      have hl : lv_has ls 8 [(7, .int (nI (i + 1))), (6, .int 0), (0, .ref h), (2, .int 0), (3, .int 0), (4, .int r66), (5, .int (nI (nd - 1)))] := hl
                      refine lv_goto (tgt := 184) hx hb xd_Mo_newRequire_233 (by decide) ?_
                      exact ih97 (i + 1, 0) _ _ _ (show 5 * (nd - 1) + rq1 - (i + 1) < 5 * (nd - 1) + rq1 - i by omega) (lv_sub hl [0, 1, 2, 3, 4, 5, 6] rfl) hP hD hS ⟨(show 5 * (nd - 1) ≤ (i + 1) from by first | assumption | omega), (show (i + 1) ≤ 5 * (nd - 1) + rq1 from by first | assumption | omega)⟩
                    · refine lv_iconst (v := 1) hx hb xd_Mo_newRequire_223 (by decide) ?_
                      refine lv_goto (tgt := 228) hx hb xd_Mo_newRequire_224 (by decide) ?_
                      refine lv_istore hx hb xd_Mo_newRequire_228 hl (Nat.le_of_ble_eq_true rfl) rfl (fun ls hl => ?_)
                      have hl : lv_has ls 8 [(6, .int 1), (7, .int (nI i)), (0, .ref h), (2, .int 0), (3, .int 0), (4, .int r66), (5, .int (nI (nd - 1)))] := hl
                      refine lv_iinc (k := 1) (x := (nI i)) (v := (nI (i + 1))) hx hb xd_Mo_newRequire_230 hl rfl (xb_inc i 1) (Nat.le_of_ble_eq_true rfl) rfl (fun ls hl => ?_)
                      have hl : lv_has ls 8 [(7, .int (nI (i + 1))), (6, .int 1), (0, .ref h), (2, .int 0), (3, .int 0), (4, .int r66), (5, .int (nI (nd - 1)))] := hl
                      refine lv_goto (tgt := 184) hx hb xd_Mo_newRequire_233 (by decide) ?_
                      exact ih97 (i + 1, 1) _ _ _ (show 5 * (nd - 1) + rq1 - (i + 1) < 5 * (nd - 1) + rq1 - i by omega) (lv_sub hl [0, 1, 2, 3, 4, 5, 6] rfl) hP hD hS ⟨(show 5 * (nd - 1) ≤ (i + 1) from by first | assumption | omega), (show (i + 1) ≤ 5 * (nd - 1) + rq1 from by first | assumption | omega)⟩
          · refine lv_iconst (v := (-1)) hx hb xd_Mo_newRequire_144 (by decide) ?_
            exact W.iret (v := (-1)) hx hb hr (fun t ht hW => ⟨⟨(-1), (v, g), rfl, ⟨hMI, rfl, Or.inl rfl⟩, by rw [ht]; exact hP, hD⟩, hS.F ht⟩) hS.2.2 xd_Mo_newRequire_145
      · refine xz_eq (a := 1) (tgt := 104) hx hb xd_Mo_newRequire_97 (by decide) (by omega) (fun hc112 => absurd hc112 (by omega)) (fun _ => ?_)
        refine lv_iconst (v := 1) hx hb xd_Mo_newRequire_100 (by decide) ?_
        refine lv_goto (tgt := 105) hx hb xd_Mo_newRequire_101 (by decide) ?_
        refine lv_istore_n hx hb xd_Mo_newRequire_105 rfl hl (Nat.le_of_ble_eq_true rfl) rfl (fun ls hl => ?_)
        have hl : lv_has ls 8 [(3, .int 1), (1, .int 1), (2, .int 0), (0, .ref h)] := hl
        refine lv_iload_n hx hb xd_Mo_newRequire_106 rfl (lv_at hl 0 rfl) ?_
        refine xz_eq (a := 1) (tgt := 116) hx hb xd_Mo_newRequire_107 (by decide) (by omega) (fun hc113 => absurd hc113 (by omega)) (fun _ => ?_)
        refine lv_iload_n hx hb xd_Mo_newRequire_110 rfl (lv_at hl 1 rfl) ?_
        refine lv_iconst (v := 1) hx hb xd_Mo_newRequire_111 (by decide) ?_
        refine lv_iadd hx hb xd_Mo_newRequire_112 ?_
        refine xn_top (y := nI (2)) (nI_add 1 1) ?_
        refine lv_goto (tgt := 117) hx hb xd_Mo_newRequire_113 (by decide) ?_
        refine lv_istore_n hx hb xd_Mo_newRequire_117 rfl hl (Nat.le_of_ble_eq_true rfl) rfl (fun ls hl => ?_)
        have hl : lv_has ls 8 [(1, .int (nI 2)), (3, .int 1), (2, .int 0), (0, .ref h)] := hl
        refine lv_aload_n hx hb xd_Mo_newRequire_118 rfl (lv_at hl 3 rfl) ?_
        refine va_get (D := D) (ci := 4) (v := .int (v 3)) (C := xR_Mo) (T := xT_Mo) (N := 31) hx hb hT xi_Mo hown hK.1 hP 0 rfl rfl 4 (by decide) (hT _ xq_0) (fun _ h9 => h9) rfl xd_Mo_newRequire_119 ?_
        refine xn_top (x := (v 3)) (y := nI wn) hwn ?_
        refine lv_iload_n hx hb xd_Mo_newRequire_122 rfl (lv_at hl 0 rfl) ?_
        refine lv_iconst (v := 1) hx hb xd_Mo_newRequire_123 (by decide) ?_
        refine lv_iadd hx hb xd_Mo_newRequire_124 ?_
        refine xn_top (y := nI (3)) (nI_add 2 1) ?_
        refine xn_ne (a := wn) (b := 3) (tgt := 136) hx hb xd_Mo_newRequire_125 (by decide) (by omega) (by omega) (fun hc114 => ?_) (fun hc114 => ?_)
        · refine lv_iconst (v := 0) hx hb xd_Mo_newRequire_136 (by decide) ?_
          refine lv_istore hx hb xd_Mo_newRequire_137 hl (Nat.le_of_ble_eq_true rfl) rfl (fun ls hl => ?_)
          have hl : lv_has ls 8 [(4, .int 0), (1, .int (nI 2)), (3, .int 1), (2, .int 0), (0, .ref h)] := hl
          refine lv_iload hx hb xd_Mo_newRequire_139 (lv_at hl 0 rfl) ?_
          refine xz_ne (a := 0) (tgt := 146) hx hb xd_Mo_newRequire_141 (by decide) (by omega) (fun hc115 => absurd hc115 (by omega)) (fun _ => ?_)
          refine lv_iconst (v := (-1)) hx hb xd_Mo_newRequire_144 (by decide) ?_
          exact W.iret (v := (-1)) hx hb hr (fun t ht hW => ⟨⟨(-1), (v, g), rfl, ⟨hMI, rfl, Or.inl rfl⟩, by rw [ht]; exact hP, hD⟩, hS.F ht⟩) hS.2.2 xd_Mo_newRequire_145
        · obtain ⟨b2, e2, hbe2, he2, eb2, ee2⟩ := hws 2 (by omega)
          refine lv_aload_n hx hb xd_Mo_newRequire_128 rfl (lv_at hl 3 rfl) ?_
          refine lv_iload_n hx hb xd_Mo_newRequire_129 rfl (lv_at hl 0 rfl) ?_
          have hFc := va_free (wc := (moW h mm kA v g)) hD hS hA [0, 1, 2, 3, 4, 5, 6, 7, 8, 9, 10, 11, 12, 13, 14, 15, 16, 17, 18, 19, 20, 21, 22, 23, 24, 25] rfl
          refine va_calli (va_runV (As := [.int (nI 2)]) (rest := []) ⟨hx, hb, hml, hown, hT⟩ (xc_Mo_nameOf l D kA H.size h mm v g 2 b2 e2 (by first | assumption | omega) (by first | assumption | omega) (by first | assumption | omega) (by first | assumption | omega) (by first | assumption | omega)) (cwV 1 hT (wT_V xq_2 xq_3 xq_4 xq_5 xq_1) rfl rfl rfl (by decide +kernel) ⟨Nat.le_of_ble_eq_true rfl, Nat.le_of_ble_eq_true rfl⟩) (x_preV hK hP hD 0 rfl rfl) rfl rfl hl.1 rfl (lv_room (Nat.le_of_ble_eq_true rfl)) xd_Mo_newRequire_130 ⟨Nat.le_of_ble_eq_true rfl, Nat.le_of_ble_eq_true rfl⟩) hS (fun q _ h => hFc q h) hFc (fun r116 u117 t H1 locs ht hvm hp118 hB hz1 hk1 hS => ?_)
          obtain ⟨hP1, hD1⟩ := hB
          rw [ht] at hP1
          have hD1 := hD1.weaken (fun _ _ _ h => hFc _ h)
          generalize H1 = H at hP1 hS ⊢
          have hP := hP1
          have hD := hD1
          have hP : va_P D xcl (moW h mm kA v g) H := hP
          have hD : va_D A (moW h mm kA v g) := hD
          refine lv_goto (tgt := 137) hx hb xd_Mo_newRequire_133 (by decide) ?_
          refine lv_istore hx hb xd_Mo_newRequire_137 hl (Nat.le_of_ble_eq_true rfl) rfl (fun ls hl => ?_)
          have hl : lv_has ls 8 [(4, .int r116), (1, .int (nI 2)), (3, .int 1), (2, .int 0), (0, .ref h)] := hl
          refine lv_iload hx hb xd_Mo_newRequire_139 (lv_at hl 0 rfl) ?_
          refine lv_if_ne (tgt := 146) hx hb xd_Mo_newRequire_141 (by decide) (fun hc119 => ?_) (fun hc119 => ?_)
          · rcases Nat.eq_zero_or_pos nd with hz | hz
            · have hnd0 : v 4 = nI 0 := by rw [hnd, hz]
              refine lv_aload_n hx hb xd_Mo_newRequire_146 rfl (lv_at hl 4 rfl) ?_
              refine va_get (D := D) (ci := 4) (v := .int (v 4)) (C := xR_Mo) (T := xT_Mo) (N := 31) hx hb hT xi_Mo hown hK.1 hP 0 rfl rfl 7 (by decide) (hT _ xq_6) (fun _ h9 => h9) rfl xd_Mo_newRequire_147 ?_
              refine xn_top (x := (v 4)) (y := nI 0) hnd0 ?_
              refine lv_iconst (v := 1) hx hb xd_Mo_newRequire_150 (by decide) ?_
              refine lv_isub hx hb xd_Mo_newRequire_151 ?_
              refine lv_istore hx hb xd_Mo_newRequire_152 hl (Nat.le_of_ble_eq_true rfl) rfl (fun ls hl => ?_)
              have hl : lv_has ls 8 [(5, .int ((nI 0) - 1)), (4, .int r116), (1, .int (nI 2)), (3, .int 1), (2, .int 0), (0, .ref h)] := hl
              refine lv_iload hx hb xd_Mo_newRequire_154 (lv_at hl 0 rfl) ?_
              refine lv_if_lt (tgt := 175) hx hb xd_Mo_newRequire_156 (by decide) (fun _ => ?_) (fun hc120 => absurd hc120 (by decide))
              refine lv_iconst (v := 0) hx hb xd_Mo_newRequire_175 (by decide) ?_
              refine lv_istore hx hb xd_Mo_newRequire_176 hl (Nat.le_of_ble_eq_true rfl) rfl (fun ls hl => ?_)
              have hl : lv_has ls 8 [(6, .int 0), (5, .int ((nI 0) - 1)), (4, .int r116), (1, .int (nI 2)), (3, .int 1), (2, .int 0), (0, .ref h)] := hl
              refine lv_iconst (v := 5) hx hb xd_Mo_newRequire_178 (by decide) ?_
              refine lv_iload hx hb xd_Mo_newRequire_179 (lv_at hl 1 rfl) ?_
              refine lv_imul hx hb xd_Mo_newRequire_181 ?_
              refine lv_istore hx hb xd_Mo_newRequire_182 hl (Nat.le_of_ble_eq_true rfl) rfl (fun ls hl => ?_)
              have hl : lv_has ls 8 [(7, .int (5 * ((nI 0) - 1))), (6, .int 0), (5, .int ((nI 0) - 1)), (4, .int r116), (1, .int (nI 2)), (3, .int 1), (2, .int 0), (0, .ref h)] := hl
              refine lv_iload hx hb xd_Mo_newRequire_184 (lv_at hl 2 rfl) ?_
              refine lv_if_lt (tgt := 236) hx hb xd_Mo_newRequire_186 (by decide) (fun _ => ?_) (fun hc121 => absurd hc121 (by decide))
              refine lv_iload hx hb xd_Mo_newRequire_236 (lv_at hl 1 rfl) ?_
              refine xz_eq (a := 0) (tgt := 243) hx hb xd_Mo_newRequire_238 (by decide) (by omega) (fun _ => ?_) (fun hc122 => absurd hc122 (by omega))
              refine lv_aload_n hx hb xd_Mo_newRequire_243 rfl (lv_at hl 7 rfl) ?_
              have hFc := va_free (wc := (moW h mm kA v g)) hD hS hA [0, 1, 2, 3, 4, 5, 6, 7, 8, 9, 10, 11, 12, 13, 14, 15, 16, 17, 18, 19, 20, 21, 22, 23, 24, 25] rfl
              refine va_calli (va_runV (As := []) (rest := []) ⟨hx, hb, hml, hown, hT⟩ (xc_Mo_isShut l D kA H.size h mm v g nd (by first | assumption | omega) (by first | assumption | omega)) (cwV 0 hT (wT_V xq_8 xq_9 xq_10 xq_5 xq_7) rfl rfl rfl (by decide +kernel) ⟨Nat.le_of_ble_eq_true rfl, Nat.le_of_ble_eq_true rfl⟩) (x_preV hK hP hD 0 rfl rfl) rfl rfl hl.1 rfl (lv_room (Nat.le_of_ble_eq_true rfl)) xd_Mo_newRequire_244 ⟨Nat.le_of_ble_eq_true rfl, Nat.le_of_ble_eq_true rfl⟩) hS (fun q _ h => hFc q h) hFc (fun r123 u124 t H1 locs ht hvm hp125 hB hz1 hk1 hS => ?_)
              obtain ⟨hP1, hD1⟩ := hB
              rw [ht] at hP1
              have hD1 := hD1.weaken (fun _ _ _ h => hFc _ h)
              generalize H1 = H at hP1 hS ⊢
              have hP := hP1
              have hD := hD1
              have hP : va_P D xcl (moW h mm kA v g) H := hP
              have hD : va_D A (moW h mm kA v g) := hD
              rcases hp125 with ⟨rfl, z126⟩ | ⟨rfl, z127, z128⟩
              · refine xz_ne (a := 1) (tgt := 261) hx hb xd_Mo_newRequire_247 (by decide) (by omega) (fun _ => ?_) (fun hc129 => absurd hc129 (by omega))
                refine lv_bipush (v := (-2)) hx hb xd_Mo_newRequire_261 (by decide) ?_
                exact W.iret (v := (-2)) hx hb hr (fun t ht hW => ⟨⟨(-2), (v, g), rfl, ⟨hMI, rfl, Or.inr (Or.inl rfl)⟩, by rw [ht]; exact hP, hD⟩, hS.F ht⟩) hS.2.2 xd_Mo_newRequire_263
              · exact absurd hz z127
            · refine lv_aload_n hx hb xd_Mo_newRequire_146 rfl (lv_at hl 4 rfl) ?_
              refine va_get (D := D) (ci := 4) (v := .int (v 4)) (C := xR_Mo) (T := xT_Mo) (N := 31) hx hb hT xi_Mo hown hK.1 hP 0 rfl rfl 7 (by decide) (hT _ xq_6) (fun _ h9 => h9) rfl xd_Mo_newRequire_147 ?_
              refine xn_top (x := (v 4)) (y := nI nd) hnd ?_
              refine lv_iconst (v := 1) hx hb xd_Mo_newRequire_150 (by decide) ?_
              refine lv_isub hx hb xd_Mo_newRequire_151 ?_
              refine xn_top (y := nI (nd - 1)) (pk_sub (a := nd) (b := 1) (by omega)) ?_
              refine lv_istore hx hb xd_Mo_newRequire_152 hl (Nat.le_of_ble_eq_true rfl) rfl (fun ls hl => ?_)
              have hl : lv_has ls 8 [(5, .int (nI (nd - 1))), (4, .int r116), (1, .int (nI 2)), (3, .int 1), (2, .int 0), (0, .ref h)] := hl
              refine lv_iload hx hb xd_Mo_newRequire_154 (lv_at hl 0 rfl) ?_
              refine xz_lt (a := nd - 1) (tgt := 175) hx hb xd_Mo_newRequire_156 (by decide) (by omega) ?_
              obtain ⟨rq1, hrq1, erq1⟩ := hrq (nd - 1) (by omega)
              refine lv_aload_n hx hb xd_Mo_newRequire_159 rfl (lv_at hl 5 rfl) ?_
              refine va_get (D := D) (ci := 4) (v := .ref (mm 4)) (C := xR_Mo) (T := xT_Mo) (N := 31) hx hb hT xi_Mo hown hK.1 hP 0 rfl rfl 9 (by decide) (hT _ xq_11) (fun _ h9 => h9) rfl xd_Mo_newRequire_160 ?_
              refine lv_iload hx hb xd_Mo_newRequire_163 (lv_at hl 0 rfl) ?_
              refine xn_iald (i := nd - 1) hx hb hK.1 hP 5 0 rfl rfl (by omega) (by decide) xd_Mo_newRequire_165 ?_
              refine lv_iload hx hb xd_Mo_newRequire_166 (lv_at hl 1 rfl) ?_
              refine lv_icmp_ne (tgt := 175) hx hb xd_Mo_newRequire_168 (by decide) (fun hc131 => ?_) (fun hc131 => ?_)
              · refine lv_iconst (v := 0) hx hb xd_Mo_newRequire_175 (by decide) ?_
                refine lv_istore hx hb xd_Mo_newRequire_176 hl (Nat.le_of_ble_eq_true rfl) rfl (fun ls hl => ?_)
                have hl : lv_has ls 8 [(6, .int 0), (5, .int (nI (nd - 1))), (4, .int r116), (1, .int (nI 2)), (3, .int 1), (2, .int 0), (0, .ref h)] := hl
                refine lv_iconst (v := 5) hx hb xd_Mo_newRequire_178 (by decide) ?_
                refine lv_iload hx hb xd_Mo_newRequire_179 (lv_at hl 1 rfl) ?_
                refine lv_imul hx hb xd_Mo_newRequire_181 ?_
                refine xn_top (y := nI (5 * (nd - 1))) (pk_mul 5 (nd - 1)) ?_
                refine lv_istore hx hb xd_Mo_newRequire_182 hl (Nat.le_of_ble_eq_true rfl) rfl (fun ls hl => ?_)
                have hl : lv_has ls 8 [(7, .int (nI (5 * (nd - 1)))), (6, .int 0), (5, .int (nI (nd - 1))), (4, .int r116), (1, .int (nI 2)), (3, .int 1), (2, .int 0), (0, .ref h)] := hl
                refine xlab (σ := Nat × Int32) (ml := 8) 184 (fun (i, tw) => [(7, .int (nI i)), (6, .int tw), (0, .ref h), (2, .int 0), (3, .int 1), (4, .int r116), (5, .int (nI (nd - 1)))]) (fun (i, tw) => []) (fun (i, tw) => moW h mm kA v g) (fun (i, tw) => (5 * (nd - 1) ≤ i) ∧ (i ≤ 5 * (nd - 1) + rq1)) (fun (i, tw) => 5 * (nd - 1) + rq1 - i) ?_ (5 * (nd - 1), 0) _ _ _ (lv_sub hl [0, 1, 7, 6, 5, 3, 2] rfl) hP hD hS ⟨(show 5 * (nd - 1) ≤ (5 * (nd - 1)) from by first | assumption | omega), (show (5 * (nd - 1)) ≤ 5 * (nd - 1) + rq1 from by first | assumption | omega)⟩
                intro n9 ih132 a9 ls H locs hμ hl hP hD hS hI
                subst hμ
                obtain ⟨i, tw⟩ := a9
                obtain ⟨hi1, hi2⟩ := hI
                have hi1 : 5 * (nd - 1) ≤ i := hi1
                have hi2 : i ≤ 5 * (nd - 1) + rq1 := hi2
                have hl : lv_has ls 8 [(7, .int (nI i)), (6, .int tw), (0, .ref h), (2, .int 0), (3, .int 1), (4, .int r116), (5, .int (nI (nd - 1)))] := hl
                have hP : va_P D xcl (moW h mm kA v g) H := hP
                have hD : va_D A (moW h mm kA v g) := hD
                refine lv_iload hx hb xd_Mo_newRequire_184 (lv_at hl 6 rfl) ?_
                refine xz_lt (a := nd - 1) (tgt := 236) hx hb xd_Mo_newRequire_186 (by decide) (by omega) ?_
                refine lv_iload hx hb xd_Mo_newRequire_189 (lv_at hl 0 rfl) ?_
                refine lv_iconst (v := 5) hx hb xd_Mo_newRequire_191 (by decide) ?_
                refine lv_iload hx hb xd_Mo_newRequire_192 (lv_at hl 6 rfl) ?_
                refine lv_imul hx hb xd_Mo_newRequire_194 ?_
                refine xn_top (y := nI (5 * (nd - 1))) (pk_mul 5 (nd - 1)) ?_
                refine lv_aload_n hx hb xd_Mo_newRequire_195 rfl (lv_at hl 2 rfl) ?_
                refine va_get (D := D) (ci := 4) (v := .ref (mm 12)) (C := xR_Mo) (T := xT_Mo) (N := 31) hx hb hT xi_Mo hown hK.1 hP 0 rfl rfl 17 (by decide) (hT _ xq_12) (fun _ h9 => h9) rfl xd_Mo_newRequire_196 ?_
                refine lv_iload hx hb xd_Mo_newRequire_199 (lv_at hl 6 rfl) ?_
                refine xn_iald (i := nd - 1) hx hb hK.1 hP 13 0 rfl rfl (by omega) (by decide) xd_Mo_newRequire_201 ?_
                refine xn_top (x := (g 12 (nd - 1))) (y := nI rq1) erq1 ?_
                refine lv_iadd hx hb xd_Mo_newRequire_202 ?_
                refine xn_top (y := nI ((5 * (nd - 1)) + rq1)) (nI_add (5 * (nd - 1)) rq1) ?_
                refine xn_ge (a := i) (b := (5 * (nd - 1)) + rq1) (tgt := 236) hx hb xd_Mo_newRequire_203 (by decide) (by omega) (by omega) (fun hc134 => ?_) (fun hc134 => ?_)
                · refine lv_iload hx hb xd_Mo_newRequire_236 (lv_at hl 1 rfl) ?_
                  refine lv_if_eq (tgt := 243) hx hb xd_Mo_newRequire_238 (by decide) (fun hc135 => ?_) (fun hc135 => ?_)
                  · refine lv_aload_n hx hb xd_Mo_newRequire_243 rfl (lv_at hl 2 rfl) ?_
                    have hFc := va_free (wc := (moW h mm kA v g)) hD hS hA [0, 1, 2, 3, 4, 5, 6, 7, 8, 9, 10, 11, 12, 13, 14, 15, 16, 17, 18, 19, 20, 21, 22, 23, 24, 25] rfl
                    refine va_calli (va_runV (As := []) (rest := []) ⟨hx, hb, hml, hown, hT⟩ (xc_Mo_isShut l D kA H.size h mm v g nd (by first | assumption | omega) (by first | assumption | omega)) (cwV 0 hT (wT_V xq_8 xq_9 xq_10 xq_5 xq_7) rfl rfl rfl (by decide +kernel) ⟨Nat.le_of_ble_eq_true rfl, Nat.le_of_ble_eq_true rfl⟩) (x_preV hK hP hD 0 rfl rfl) rfl rfl hl.1 rfl (lv_room (Nat.le_of_ble_eq_true rfl)) xd_Mo_newRequire_244 ⟨Nat.le_of_ble_eq_true rfl, Nat.le_of_ble_eq_true rfl⟩) hS (fun q _ h => hFc q h) hFc (fun r136 u137 t H1 locs ht hvm hp138 hB hz1 hk1 hS => ?_)
                    obtain ⟨hP1, hD1⟩ := hB
                    rw [ht] at hP1
                    have hD1 := hD1.weaken (fun _ _ _ h => hFc _ h)
                    generalize H1 = H at hP1 hS ⊢
                    have hP := hP1
                    have hD := hD1
                    have hP : va_P D xcl (moW h mm kA v g) H := hP
                    have hD : va_D A (moW h mm kA v g) := hD
                    rcases hp138 with ⟨rfl, z139⟩ | ⟨rfl, z140, z141⟩
                    · refine xz_ne (a := 1) (tgt := 261) hx hb xd_Mo_newRequire_247 (by decide) (by omega) (fun _ => ?_) (fun hc142 => absurd hc142 (by omega))
                      refine lv_bipush (v := (-2)) hx hb xd_Mo_newRequire_261 (by decide) ?_
                      exact W.iret (v := (-2)) hx hb hr (fun t ht hW => ⟨⟨(-2), (v, g), rfl, ⟨hMI, rfl, Or.inr (Or.inl rfl)⟩, by rw [ht]; exact hP, hD⟩, hS.F ht⟩) hS.2.2 xd_Mo_newRequire_263
                    · refine xz_ne (a := 0) (tgt := 261) hx hb xd_Mo_newRequire_247 (by decide) (by omega) (fun hc143 => absurd hc143 (by omega)) (fun _ => ?_)
                      refine lv_aload_n hx hb xd_Mo_newRequire_250 rfl (lv_at hl 2 rfl) ?_
                      refine va_get (D := D) (ci := 4) (v := .ref (mm 12)) (C := xR_Mo) (T := xT_Mo) (N := 31) hx hb hT xi_Mo hown hK.1 hP 0 rfl rfl 17 (by decide) (hT _ xq_12) (fun _ h9 => h9) rfl xd_Mo_newRequire_251 ?_
                      refine lv_iload hx hb xd_Mo_newRequire_254 (lv_at hl 6 rfl) ?_
                      refine xn_iald (i := nd - 1) hx hb hK.1 hP 13 0 rfl rfl (by omega) (by decide) xd_Mo_newRequire_256 ?_
                      refine xn_top (x := (g 12 (nd - 1))) (y := nI rq1) erq1 ?_
                      refine lv_iconst (v := 5) hx hb xd_Mo_newRequire_257 (by decide) ?_
                      refine xn_ne (a := rq1) (b := 5) (tgt := 264) hx hb xd_Mo_newRequire_258 (by decide) (by omega) (by omega) (fun hc144 => ?_) (fun hc144 => ?_)
                      · refine lv_aload_n hx hb xd_Mo_newRequire_264 rfl (lv_at hl 2 rfl) ?_
                        refine va_get (D := D) (ci := 4) (v := .ref (mm 13)) (C := xR_Mo) (T := xT_Mo) (N := 31) hx hb hT xi_Mo hown hK.1 hP 0 rfl rfl 18 (by decide) (hT _ xq_13) (fun _ h9 => h9) rfl xd_Mo_newRequire_265 ?_
                        refine lv_iconst (v := 5) hx hb xd_Mo_newRequire_268 (by decide) ?_
                        refine lv_iload hx hb xd_Mo_newRequire_269 (lv_at hl 6 rfl) ?_
                        refine lv_imul hx hb xd_Mo_newRequire_271 ?_
                        refine xn_top (y := nI (5 * (nd - 1))) (pk_mul 5 (nd - 1)) ?_
                        refine lv_aload_n hx hb xd_Mo_newRequire_272 rfl (lv_at hl 2 rfl) ?_
                        refine va_get (D := D) (ci := 4) (v := .ref (mm 12)) (C := xR_Mo) (T := xT_Mo) (N := 31) hx hb hT xi_Mo hown hK.1 hP 0 rfl rfl 17 (by decide) (hT _ xq_12) (fun _ h9 => h9) rfl xd_Mo_newRequire_273 ?_
                        refine lv_iload hx hb xd_Mo_newRequire_276 (lv_at hl 6 rfl) ?_
                        refine xn_iald (i := nd - 1) hx hb hK.1 hP 13 0 rfl rfl (by omega) (by decide) xd_Mo_newRequire_278 ?_
                        refine xn_top (x := (g 12 (nd - 1))) (y := nI rq1) erq1 ?_
                        refine lv_iadd hx hb xd_Mo_newRequire_279 ?_
                        refine xn_top (y := nI ((5 * (nd - 1)) + rq1)) (nI_add (5 * (nd - 1)) rq1) ?_
                        refine lv_iload hx hb xd_Mo_newRequire_280 (lv_at hl 5 rfl) ?_
                        refine xn_iast (i := (5 * (nd - 1)) + rq1) hx hb hK.1 hP hD hS 14 0 rfl rfl (by omega) (by decide) xd_Mo_newRequire_282 (fun H locs hP hD hS => ?_)
                        have hP : va_P D xcl (moW h mm kA v (va_up g 13 (upd (g 13) ((5 * (nd - 1)) + rq1) r116))) H := hP
                        have hD : va_D A (moW h mm kA v (va_up g 13 (upd (g 13) ((5 * (nd - 1)) + rq1) r116))) := hD
                        refine lv_aload_n hx hb xd_Mo_newRequire_283 rfl (lv_at hl 2 rfl) ?_
                        refine va_get (D := D) (ci := 4) (v := .ref (mm 16)) (C := xR_Mo) (T := xT_Mo) (N := 31) hx hb hT xi_Mo hown hK.1 hP 0 rfl rfl 21 (by decide) (hT _ xq_14) (fun _ h9 => h9) rfl xd_Mo_newRequire_284 ?_
                        refine lv_iconst (v := 5) hx hb xd_Mo_newRequire_287 (by decide) ?_
                        refine lv_iload hx hb xd_Mo_newRequire_288 (lv_at hl 6 rfl) ?_
                        refine lv_imul hx hb xd_Mo_newRequire_290 ?_
                        refine xn_top (y := nI (5 * (nd - 1))) (pk_mul 5 (nd - 1)) ?_
                        refine lv_aload_n hx hb xd_Mo_newRequire_291 rfl (lv_at hl 2 rfl) ?_
                        refine va_get (D := D) (ci := 4) (v := .ref (mm 12)) (C := xR_Mo) (T := xT_Mo) (N := 31) hx hb hT xi_Mo hown hK.1 hP 0 rfl rfl 17 (by decide) (hT _ xq_12) (fun _ h9 => h9) rfl xd_Mo_newRequire_292 ?_
                        refine lv_iload hx hb xd_Mo_newRequire_295 (lv_at hl 6 rfl) ?_
                        refine xn_iald (i := nd - 1) hx hb hK.1 hP 13 0 rfl rfl (by omega) (by decide) xd_Mo_newRequire_297 ?_
                        refine xn_top (x := (g 12 (nd - 1))) (y := nI rq1) erq1 ?_
                        refine lv_iadd hx hb xd_Mo_newRequire_298 ?_
                        refine xn_top (y := nI ((5 * (nd - 1)) + rq1)) (nI_add (5 * (nd - 1)) rq1) ?_
                        refine lv_iload_n hx hb xd_Mo_newRequire_299 rfl (lv_at hl 3 rfl) ?_
                        refine xn_zast (i := (5 * (nd - 1)) + rq1) hx hb hK.1 hP hD hS 17 2 rfl rfl (by omega) (by decide) xd_Mo_newRequire_300 (fun H locs hP hD hS => ?_)
                        have hP : va_P D xcl (moW h mm kA v (va_up (va_up g 13 (upd (g 13) ((5 * (nd - 1)) + rq1) r116)) 16 (upd (g 16) ((5 * (nd - 1)) + rq1) (vp_nar .boolean 0)))) H := hP
                        have hD : va_D A (moW h mm kA v (va_up (va_up g 13 (upd (g 13) ((5 * (nd - 1)) + rq1) r116)) 16 (upd (g 16) ((5 * (nd - 1)) + rq1) (vp_nar .boolean 0)))) := hD
                        refine lv_aload_n hx hb xd_Mo_newRequire_301 rfl (lv_at hl 2 rfl) ?_
                        refine va_get (D := D) (ci := 4) (v := .ref (mm 17)) (C := xR_Mo) (T := xT_Mo) (N := 31) hx hb hT xi_Mo hown hK.1 hP 0 rfl rfl 22 (by decide) (hT _ xq_15) (fun _ h9 => h9) rfl xd_Mo_newRequire_302 ?_
                        refine lv_iconst (v := 5) hx hb xd_Mo_newRequire_305 (by decide) ?_
                        refine lv_iload hx hb xd_Mo_newRequire_306 (lv_at hl 6 rfl) ?_
                        refine lv_imul hx hb xd_Mo_newRequire_308 ?_
                        refine xn_top (y := nI (5 * (nd - 1))) (pk_mul 5 (nd - 1)) ?_
                        refine lv_aload_n hx hb xd_Mo_newRequire_309 rfl (lv_at hl 2 rfl) ?_
                        refine va_get (D := D) (ci := 4) (v := .ref (mm 12)) (C := xR_Mo) (T := xT_Mo) (N := 31) hx hb hT xi_Mo hown hK.1 hP 0 rfl rfl 17 (by decide) (hT _ xq_12) (fun _ h9 => h9) rfl xd_Mo_newRequire_310 ?_
                        refine lv_iload hx hb xd_Mo_newRequire_313 (lv_at hl 6 rfl) ?_
                        refine xn_iald (i := nd - 1) hx hb hK.1 hP 13 0 rfl rfl (by omega) (by decide) xd_Mo_newRequire_315 ?_
                        refine xn_top (x := (g 12 (nd - 1))) (y := nI rq1) erq1 ?_
                        refine lv_iadd hx hb xd_Mo_newRequire_316 ?_
                        refine xn_top (y := nI ((5 * (nd - 1)) + rq1)) (nI_add (5 * (nd - 1)) rq1) ?_
                        refine lv_iload_n hx hb xd_Mo_newRequire_317 rfl (lv_at hl 4 rfl) ?_
                        refine xn_zast (i := (5 * (nd - 1)) + rq1) hx hb hK.1 hP hD hS 18 2 rfl rfl (by omega) (by decide) xd_Mo_newRequire_318 (fun H locs hP hD hS => ?_)
                        have hP : va_P D xcl (moW h mm kA v (va_up (va_up (va_up g 13 (upd (g 13) ((5 * (nd - 1)) + rq1) r116)) 16 (upd (g 16) ((5 * (nd - 1)) + rq1) (vp_nar .boolean 0))) 17 (upd (g 17) ((5 * (nd - 1)) + rq1) (vp_nar .boolean 1)))) H := hP
                        have hD : va_D A (moW h mm kA v (va_up (va_up (va_up g 13 (upd (g 13) ((5 * (nd - 1)) + rq1) r116)) 16 (upd (g 16) ((5 * (nd - 1)) + rq1) (vp_nar .boolean 0))) 17 (upd (g 17) ((5 * (nd - 1)) + rq1) (vp_nar .boolean 1)))) := hD
                        refine lv_aload_n hx hb xd_Mo_newRequire_319 rfl (lv_at hl 2 rfl) ?_
                        refine va_get (D := D) (ci := 4) (v := .ref (mm 12)) (C := xR_Mo) (T := xT_Mo) (N := 31) hx hb hT xi_Mo hown hK.1 hP 0 rfl rfl 17 (by decide) (hT _ xq_12) (fun _ h9 => h9) rfl xd_Mo_newRequire_320 ?_
                        refine lv_iload hx hb xd_Mo_newRequire_323 (lv_at hl 6 rfl) ?_
                        refine lv_dup2_11 hx hb xd_Mo_newRequire_325 rfl rfl ?_
                        refine xn_iald (i := nd - 1) hx hb hK.1 hP 13 0 rfl rfl (by omega) (by decide) xd_Mo_newRequire_326 ?_
                        refine xn_top (x := (g 12 (nd - 1))) (y := nI rq1) erq1 ?_
                        refine lv_iconst (v := 1) hx hb xd_Mo_newRequire_327 (by decide) ?_
                        refine lv_iadd hx hb xd_Mo_newRequire_328 ?_
                        refine xn_top (y := nI (rq1 + 1)) (nI_add rq1 1) ?_
                        refine xn_iast (i := nd - 1) hx hb hK.1 hP hD hS 13 0 rfl rfl (by omega) (by decide) xd_Mo_newRequire_329 (fun H locs hP hD hS => ?_)
                        have hP : va_P D xcl (moW h mm kA v (va_up (va_up (va_up (va_up g 12 (upd (g 12) (nd - 1) (nI (rq1 + 1)))) 13 (upd (g 13) ((5 * (nd - 1)) + rq1) r116)) 16 (upd (g 16) ((5 * (nd - 1)) + rq1) (vp_nar .boolean 0))) 17 (upd (g 17) ((5 * (nd - 1)) + rq1) (vp_nar .boolean 1)))) H := hP
                        have hD : va_D A (moW h mm kA v (va_up (va_up (va_up (va_up g 12 (upd (g 12) (nd - 1) (nI (rq1 + 1)))) 13 (upd (g 13) ((5 * (nd - 1)) + rq1) r116)) 16 (upd (g 16) ((5 * (nd - 1)) + rq1) (vp_nar .boolean 0))) 17 (upd (g 17) ((5 * (nd - 1)) + rq1) (vp_nar .boolean 1)))) := hD
                        refine lv_iconst (v := 2) hx hb xd_Mo_newRequire_330 (by decide) ?_
                        exact W.iret (v := 2) hx hb hr (fun t ht hW => ⟨⟨2, (v, (va_up (va_up (va_up (va_up g 12 (upd (g 12) (nd - 1) (nI (rq1 + 1)))) 13 (upd (g 13) ((5 * (nd - 1)) + rq1) r116)) 16 (upd (g 16) ((5 * (nd - 1)) + rq1) (vp_nar .boolean 0))) 17 (upd (g 17) ((5 * (nd - 1)) + rq1) (vp_nar .boolean 1)))), rfl, ⟨MI_g (g := va_up g 12 (upd (g 12) (nd - 1) (nI (rq1 + 1)))) rfl rfl rfl rfl rfl rfl rfl rfl (MI_rq (by omega) hMI), rfl, Or.inr (Or.inr (Or.inr rfl))⟩, by rw [ht]; exact hP, hD⟩, hS.F ht⟩) hS.2.2 xd_Mo_newRequire_331
                      · refine lv_bipush (v := (-2)) hx hb xd_Mo_newRequire_261 (by decide) ?_
                        exact W.iret (v := (-2)) hx hb hr (fun t ht hW => ⟨⟨(-2), (v, g), rfl, ⟨hMI, rfl, Or.inr (Or.inl rfl)⟩, by rw [ht]; exact hP, hD⟩, hS.F ht⟩) hS.2.2 xd_Mo_newRequire_263
                  · refine lv_iconst (v := (-1)) hx hb xd_Mo_newRequire_241 (by decide) ?_
                    exact W.iret (v := (-1)) hx hb hr (fun t ht hW => ⟨⟨(-1), (v, g), rfl, ⟨hMI, rfl, Or.inl rfl⟩, by rw [ht]; exact hP, hD⟩, hS.F ht⟩) hS.2.2 xd_Mo_newRequire_242
                · refine lv_iload hx hb xd_Mo_newRequire_206 (lv_at hl 1 rfl) ?_
                  refine lv_if_ne (tgt := 223) hx hb xd_Mo_newRequire_208 (by decide) (fun hc145 => ?_) (fun hc145 => ?_)
                  · refine lv_iconst (v := 1) hx hb xd_Mo_newRequire_223 (by decide) ?_
                    refine lv_goto (tgt := 228) hx hb xd_Mo_newRequire_224 (by decide) ?_
                    refine lv_istore hx hb xd_Mo_newRequire_228 hl (Nat.le_of_ble_eq_true rfl) rfl (fun ls hl => ?_)
                    have hl : lv_has ls 8 [(6, .int 1), (7, .int (nI i)), (0, .ref h), (2, .int 0), (3, .int 1), (4, .int r116), (5, .int (nI (nd - 1)))] := hl
                    refine lv_iinc (k := 1) (x := (nI i)) (v := (nI (i + 1))) hx hb xd_Mo_newRequire_230 hl rfl (xb_inc i 1) (Nat.le_of_ble_eq_true rfl) rfl (fun ls hl => ?_)
                    have hl : lv_has ls 8 [(7, .int (nI (i + 1))), (6, .int 1), (0, .ref h), (2, .int 0), (3, .int 1), (4, .int r116), (5, .int (nI (nd - 1)))] := hl
                    refine lv_goto (tgt := 184) hx hb xd_Mo_newRequire_233 (by decide) ?_
                    exact ih132 (i + 1, 1) _ _ _ (show 5 * (nd - 1) + rq1 - (i + 1) < 5 * (nd - 1) + rq1 - i by omega) (lv_sub hl [0, 1, 2, 3, 4, 5, 6] rfl) hP hD hS ⟨(show 5 * (nd - 1) ≤ (i + 1) from by first | assumption | omega), (show (i + 1) ≤ 5 * (nd - 1) + rq1 from by first | assumption | omega)⟩
                  · refine lv_aload_n hx hb xd_Mo_newRequire_211 rfl (lv_at hl 2 rfl) ?_
                    refine va_get (D := D) (ci := 4) (v := .ref (mm 13)) (C := xR_Mo) (T := xT_Mo) (N := 31) hx hb hT xi_Mo hown hK.1 hP 0 rfl rfl 18 (by decide) (hT _ xq_13) (fun _ h9 => h9) rfl xd_Mo_newRequire_212 ?_
                    refine lv_iload hx hb xd_Mo_newRequire_215 (lv_at hl 0 rfl) ?_
                    refine xn_iald (i := i) hx hb hK.1 hP 14 0 rfl rfl (by omega) (by decide) xd_Mo_newRequire_217 ?_
                    refine lv_iload hx hb xd_Mo_newRequire_218 (lv_at hl 5 rfl) ?_
                    refine lv_icmp_ne (tgt := 227) hx hb xd_Mo_newRequire_220 (by decide) (fun hc146 => ?_) (fun hc146 => ?_)
                    · refine lv_iconst (v := 0) hx hb xd_Mo_newRequire_227 (by decide) ?_
                      refine lv_istore hx hb xd_Mo_newRequire_228 hl (Nat.le_of_ble_eq_true rfl) rfl (fun ls hl => ?_)
                      have hl : lv_has ls 8 [(6, .int 0), (7, .int (nI i)), (0, .ref h), (2, .int 0), (3, .int 1), (4, .int r116), (5, .int (nI (nd - 1)))] := hl
                      refine lv_iinc (k := 1) (x := (nI i)) (v := (nI (i + 1))) hx hb xd_Mo_newRequire_230 hl rfl (xb_inc i 1) (Nat.le_of_ble_eq_true rfl) rfl (fun ls hl => ?_)
                      have hl : lv_has ls 8 [(7, .int (nI (i + 1))), (6, .int 0), (0, .ref h), (2, .int 0), (3, .int 1), (4, .int r116), (5, .int (nI (nd - 1)))] := hl
                      refine lv_goto (tgt := 184) hx hb xd_Mo_newRequire_233 (by decide) ?_
                      exact ih132 (i + 1, 0) _ _ _ (show 5 * (nd - 1) + rq1 - (i + 1) < 5 * (nd - 1) + rq1 - i by omega) (lv_sub hl [0, 1, 2, 3, 4, 5, 6] rfl) hP hD hS ⟨(show 5 * (nd - 1) ≤ (i + 1) from by first | assumption | omega), (show (i + 1) ≤ 5 * (nd - 1) + rq1 from by first | assumption | omega)⟩
                    · refine lv_iconst (v := 1) hx hb xd_Mo_newRequire_223 (by decide) ?_
                      refine lv_goto (tgt := 228) hx hb xd_Mo_newRequire_224 (by decide) ?_
                      refine lv_istore hx hb xd_Mo_newRequire_228 hl (Nat.le_of_ble_eq_true rfl) rfl (fun ls hl => ?_)
                      have hl : lv_has ls 8 [(6, .int 1), (7, .int (nI i)), (0, .ref h), (2, .int 0), (3, .int 1), (4, .int r116), (5, .int (nI (nd - 1)))] := hl
                      refine lv_iinc (k := 1) (x := (nI i)) (v := (nI (i + 1))) hx hb xd_Mo_newRequire_230 hl rfl (xb_inc i 1) (Nat.le_of_ble_eq_true rfl) rfl (fun ls hl => ?_)
                      have hl : lv_has ls 8 [(7, .int (nI (i + 1))), (6, .int 1), (0, .ref h), (2, .int 0), (3, .int 1), (4, .int r116), (5, .int (nI (nd - 1)))] := hl
                      refine lv_goto (tgt := 184) hx hb xd_Mo_newRequire_233 (by decide) ?_
                      exact ih132 (i + 1, 1) _ _ _ (show 5 * (nd - 1) + rq1 - (i + 1) < 5 * (nd - 1) + rq1 - i by omega) (lv_sub hl [0, 1, 2, 3, 4, 5, 6] rfl) hP hD hS ⟨(show 5 * (nd - 1) ≤ (i + 1) from by first | assumption | omega), (show (i + 1) ≤ 5 * (nd - 1) + rq1 from by first | assumption | omega)⟩
              · refine lv_iconst (v := 1) hx hb xd_Mo_newRequire_171 (by decide) ?_
                refine lv_goto (tgt := 176) hx hb xd_Mo_newRequire_172 (by decide) ?_
                refine lv_istore hx hb xd_Mo_newRequire_176 hl (Nat.le_of_ble_eq_true rfl) rfl (fun ls hl => ?_)
                have hl : lv_has ls 8 [(6, .int 1), (5, .int (nI (nd - 1))), (4, .int r116), (1, .int (nI 2)), (3, .int 1), (2, .int 0), (0, .ref h)] := hl
                refine lv_iconst (v := 5) hx hb xd_Mo_newRequire_178 (by decide) ?_
                refine lv_iload hx hb xd_Mo_newRequire_179 (lv_at hl 1 rfl) ?_
                refine lv_imul hx hb xd_Mo_newRequire_181 ?_
                refine xn_top (y := nI (5 * (nd - 1))) (pk_mul 5 (nd - 1)) ?_
                refine lv_istore hx hb xd_Mo_newRequire_182 hl (Nat.le_of_ble_eq_true rfl) rfl (fun ls hl => ?_)
                have hl : lv_has ls 8 [(7, .int (nI (5 * (nd - 1)))), (6, .int 1), (5, .int (nI (nd - 1))), (4, .int r116), (1, .int (nI 2)), (3, .int 1), (2, .int 0), (0, .ref h)] := hl
                refine xlab (σ := Nat × Int32) (ml := 8) 184 (fun (i, tw) => [(7, .int (nI i)), (6, .int tw), (0, .ref h), (2, .int 0), (3, .int 1), (4, .int r116), (5, .int (nI (nd - 1)))]) (fun (i, tw) => []) (fun (i, tw) => moW h mm kA v g) (fun (i, tw) => (5 * (nd - 1) ≤ i) ∧ (i ≤ 5 * (nd - 1) + rq1)) (fun (i, tw) => 5 * (nd - 1) + rq1 - i) ?_ (5 * (nd - 1), 1) _ _ _ (lv_sub hl [0, 1, 7, 6, 5, 3, 2] rfl) hP hD hS ⟨(show 5 * (nd - 1) ≤ (5 * (nd - 1)) from by first | assumption | omega), (show (5 * (nd - 1)) ≤ 5 * (nd - 1) + rq1 from by first | assumption | omega)⟩
                intro n9 ih147 a9 ls H locs hμ hl hP hD hS hI
                subst hμ
                obtain ⟨i, tw⟩ := a9
                obtain ⟨hi1, hi2⟩ := hI
                have hi1 : 5 * (nd - 1) ≤ i := hi1
                have hi2 : i ≤ 5 * (nd - 1) + rq1 := hi2
                have hl : lv_has ls 8 [(7, .int (nI i)), (6, .int tw), (0, .ref h), (2, .int 0), (3, .int 1), (4, .int r116), (5, .int (nI (nd - 1)))] := hl
                have hP : va_P D xcl (moW h mm kA v g) H := hP
                have hD : va_D A (moW h mm kA v g) := hD
                refine lv_iload hx hb xd_Mo_newRequire_184 (lv_at hl 6 rfl) ?_
                refine xz_lt (a := nd - 1) (tgt := 236) hx hb xd_Mo_newRequire_186 (by decide) (by omega) ?_
                refine lv_iload hx hb xd_Mo_newRequire_189 (lv_at hl 0 rfl) ?_
                refine lv_iconst (v := 5) hx hb xd_Mo_newRequire_191 (by decide) ?_
                refine lv_iload hx hb xd_Mo_newRequire_192 (lv_at hl 6 rfl) ?_
                refine lv_imul hx hb xd_Mo_newRequire_194 ?_
                refine xn_top (y := nI (5 * (nd - 1))) (pk_mul 5 (nd - 1)) ?_
                refine lv_aload_n hx hb xd_Mo_newRequire_195 rfl (lv_at hl 2 rfl) ?_
                refine va_get (D := D) (ci := 4) (v := .ref (mm 12)) (C := xR_Mo) (T := xT_Mo) (N := 31) hx hb hT xi_Mo hown hK.1 hP 0 rfl rfl 17 (by decide) (hT _ xq_12) (fun _ h9 => h9) rfl xd_Mo_newRequire_196 ?_
                refine lv_iload hx hb xd_Mo_newRequire_199 (lv_at hl 6 rfl) ?_
                refine xn_iald (i := nd - 1) hx hb hK.1 hP 13 0 rfl rfl (by omega) (by decide) xd_Mo_newRequire_201 ?_
                refine xn_top (x := (g 12 (nd - 1))) (y := nI rq1) erq1 ?_
                refine lv_iadd hx hb xd_Mo_newRequire_202 ?_
                refine xn_top (y := nI ((5 * (nd - 1)) + rq1)) (nI_add (5 * (nd - 1)) rq1) ?_
                refine xn_ge (a := i) (b := (5 * (nd - 1)) + rq1) (tgt := 236) hx hb xd_Mo_newRequire_203 (by decide) (by omega) (by omega) (fun hc149 => ?_) (fun hc149 => ?_)
                · refine lv_iload hx hb xd_Mo_newRequire_236 (lv_at hl 1 rfl) ?_
                  refine lv_if_eq (tgt := 243) hx hb xd_Mo_newRequire_238 (by decide) (fun hc150 => ?_) (fun hc150 => ?_)
                  · refine lv_aload_n hx hb xd_Mo_newRequire_243 rfl (lv_at hl 2 rfl) ?_
                    have hFc := va_free (wc := (moW h mm kA v g)) hD hS hA [0, 1, 2, 3, 4, 5, 6, 7, 8, 9, 10, 11, 12, 13, 14, 15, 16, 17, 18, 19, 20, 21, 22, 23, 24, 25] rfl
                    refine va_calli (va_runV (As := []) (rest := []) ⟨hx, hb, hml, hown, hT⟩ (xc_Mo_isShut l D kA H.size h mm v g nd (by first | assumption | omega) (by first | assumption | omega)) (cwV 0 hT (wT_V xq_8 xq_9 xq_10 xq_5 xq_7) rfl rfl rfl (by decide +kernel) ⟨Nat.le_of_ble_eq_true rfl, Nat.le_of_ble_eq_true rfl⟩) (x_preV hK hP hD 0 rfl rfl) rfl rfl hl.1 rfl (lv_room (Nat.le_of_ble_eq_true rfl)) xd_Mo_newRequire_244 ⟨Nat.le_of_ble_eq_true rfl, Nat.le_of_ble_eq_true rfl⟩) hS (fun q _ h => hFc q h) hFc (fun r151 u152 t H1 locs ht hvm hp153 hB hz1 hk1 hS => ?_)
                    obtain ⟨hP1, hD1⟩ := hB
                    rw [ht] at hP1
                    have hD1 := hD1.weaken (fun _ _ _ h => hFc _ h)
                    generalize H1 = H at hP1 hS ⊢
                    have hP := hP1
                    have hD := hD1
                    have hP : va_P D xcl (moW h mm kA v g) H := hP
                    have hD : va_D A (moW h mm kA v g) := hD
                    rcases hp153 with ⟨rfl, z154⟩ | ⟨rfl, z155, z156⟩
                    · refine xz_ne (a := 1) (tgt := 261) hx hb xd_Mo_newRequire_247 (by decide) (by omega) (fun _ => ?_) (fun hc157 => absurd hc157 (by omega))
                      refine lv_bipush (v := (-2)) hx hb xd_Mo_newRequire_261 (by decide) ?_
                      exact W.iret (v := (-2)) hx hb hr (fun t ht hW => ⟨⟨(-2), (v, g), rfl, ⟨hMI, rfl, Or.inr (Or.inl rfl)⟩, by rw [ht]; exact hP, hD⟩, hS.F ht⟩) hS.2.2 xd_Mo_newRequire_263
                    · refine xz_ne (a := 0) (tgt := 261) hx hb xd_Mo_newRequire_247 (by decide) (by omega) (fun hc158 => absurd hc158 (by omega)) (fun _ => ?_)
                      refine lv_aload_n hx hb xd_Mo_newRequire_250 rfl (lv_at hl 2 rfl) ?_
                      refine va_get (D := D) (ci := 4) (v := .ref (mm 12)) (C := xR_Mo) (T := xT_Mo) (N := 31) hx hb hT xi_Mo hown hK.1 hP 0 rfl rfl 17 (by decide) (hT _ xq_12) (fun _ h9 => h9) rfl xd_Mo_newRequire_251 ?_
                      refine lv_iload hx hb xd_Mo_newRequire_254 (lv_at hl 6 rfl) ?_
                      refine xn_iald (i := nd - 1) hx hb hK.1 hP 13 0 rfl rfl (by omega) (by decide) xd_Mo_newRequire_256 ?_
                      refine xn_top (x := (g 12 (nd - 1))) (y := nI rq1) erq1 ?_
                      refine lv_iconst (v := 5) hx hb xd_Mo_newRequire_257 (by decide) ?_
                      refine xn_ne (a := rq1) (b := 5) (tgt := 264) hx hb xd_Mo_newRequire_258 (by decide) (by omega) (by omega) (fun hc159 => ?_) (fun hc159 => ?_)
                      · refine lv_aload_n hx hb xd_Mo_newRequire_264 rfl (lv_at hl 2 rfl) ?_
                        refine va_get (D := D) (ci := 4) (v := .ref (mm 13)) (C := xR_Mo) (T := xT_Mo) (N := 31) hx hb hT xi_Mo hown hK.1 hP 0 rfl rfl 18 (by decide) (hT _ xq_13) (fun _ h9 => h9) rfl xd_Mo_newRequire_265 ?_
                        refine lv_iconst (v := 5) hx hb xd_Mo_newRequire_268 (by decide) ?_
                        refine lv_iload hx hb xd_Mo_newRequire_269 (lv_at hl 6 rfl) ?_
                        refine lv_imul hx hb xd_Mo_newRequire_271 ?_
                        refine xn_top (y := nI (5 * (nd - 1))) (pk_mul 5 (nd - 1)) ?_
                        refine lv_aload_n hx hb xd_Mo_newRequire_272 rfl (lv_at hl 2 rfl) ?_
                        refine va_get (D := D) (ci := 4) (v := .ref (mm 12)) (C := xR_Mo) (T := xT_Mo) (N := 31) hx hb hT xi_Mo hown hK.1 hP 0 rfl rfl 17 (by decide) (hT _ xq_12) (fun _ h9 => h9) rfl xd_Mo_newRequire_273 ?_
                        refine lv_iload hx hb xd_Mo_newRequire_276 (lv_at hl 6 rfl) ?_
                        refine xn_iald (i := nd - 1) hx hb hK.1 hP 13 0 rfl rfl (by omega) (by decide) xd_Mo_newRequire_278 ?_
                        refine xn_top (x := (g 12 (nd - 1))) (y := nI rq1) erq1 ?_
                        refine lv_iadd hx hb xd_Mo_newRequire_279 ?_
                        refine xn_top (y := nI ((5 * (nd - 1)) + rq1)) (nI_add (5 * (nd - 1)) rq1) ?_
                        refine lv_iload hx hb xd_Mo_newRequire_280 (lv_at hl 5 rfl) ?_
                        refine xn_iast (i := (5 * (nd - 1)) + rq1) hx hb hK.1 hP hD hS 14 0 rfl rfl (by omega) (by decide) xd_Mo_newRequire_282 (fun H locs hP hD hS => ?_)
                        have hP : va_P D xcl (moW h mm kA v (va_up g 13 (upd (g 13) ((5 * (nd - 1)) + rq1) r116))) H := hP
                        have hD : va_D A (moW h mm kA v (va_up g 13 (upd (g 13) ((5 * (nd - 1)) + rq1) r116))) := hD
                        refine lv_aload_n hx hb xd_Mo_newRequire_283 rfl (lv_at hl 2 rfl) ?_
                        refine va_get (D := D) (ci := 4) (v := .ref (mm 16)) (C := xR_Mo) (T := xT_Mo) (N := 31) hx hb hT xi_Mo hown hK.1 hP 0 rfl rfl 21 (by decide) (hT _ xq_14) (fun _ h9 => h9) rfl xd_Mo_newRequire_284 ?_
                        refine lv_iconst (v := 5) hx hb xd_Mo_newRequire_287 (by decide) ?_
                        refine lv_iload hx hb xd_Mo_newRequire_288 (lv_at hl 6 rfl) ?_
                        refine lv_imul hx hb xd_Mo_newRequire_290 ?_
                        refine xn_top (y := nI (5 * (nd - 1))) (pk_mul 5 (nd - 1)) ?_
                        refine lv_aload_n hx hb xd_Mo_newRequire_291 rfl (lv_at hl 2 rfl) ?_
                        refine va_get (D := D) (ci := 4) (v := .ref (mm 12)) (C := xR_Mo) (T := xT_Mo) (N := 31) hx hb hT xi_Mo hown hK.1 hP 0 rfl rfl 17 (by decide) (hT _ xq_12) (fun _ h9 => h9) rfl xd_Mo_newRequire_292 ?_
                        refine lv_iload hx hb xd_Mo_newRequire_295 (lv_at hl 6 rfl) ?_
                        refine xn_iald (i := nd - 1) hx hb hK.1 hP 13 0 rfl rfl (by omega) (by decide) xd_Mo_newRequire_297 ?_
                        refine xn_top (x := (g 12 (nd - 1))) (y := nI rq1) erq1 ?_
                        refine lv_iadd hx hb xd_Mo_newRequire_298 ?_
                        refine xn_top (y := nI ((5 * (nd - 1)) + rq1)) (nI_add (5 * (nd - 1)) rq1) ?_
                        refine lv_iload_n hx hb xd_Mo_newRequire_299 rfl (lv_at hl 3 rfl) ?_
                        refine xn_zast (i := (5 * (nd - 1)) + rq1) hx hb hK.1 hP hD hS 17 2 rfl rfl (by omega) (by decide) xd_Mo_newRequire_300 (fun H locs hP hD hS => ?_)
                        have hP : va_P D xcl (moW h mm kA v (va_up (va_up g 13 (upd (g 13) ((5 * (nd - 1)) + rq1) r116)) 16 (upd (g 16) ((5 * (nd - 1)) + rq1) (vp_nar .boolean 0)))) H := hP
                        have hD : va_D A (moW h mm kA v (va_up (va_up g 13 (upd (g 13) ((5 * (nd - 1)) + rq1) r116)) 16 (upd (g 16) ((5 * (nd - 1)) + rq1) (vp_nar .boolean 0)))) := hD
                        refine lv_aload_n hx hb xd_Mo_newRequire_301 rfl (lv_at hl 2 rfl) ?_
                        refine va_get (D := D) (ci := 4) (v := .ref (mm 17)) (C := xR_Mo) (T := xT_Mo) (N := 31) hx hb hT xi_Mo hown hK.1 hP 0 rfl rfl 22 (by decide) (hT _ xq_15) (fun _ h9 => h9) rfl xd_Mo_newRequire_302 ?_
                        refine lv_iconst (v := 5) hx hb xd_Mo_newRequire_305 (by decide) ?_
                        refine lv_iload hx hb xd_Mo_newRequire_306 (lv_at hl 6 rfl) ?_
                        refine lv_imul hx hb xd_Mo_newRequire_308 ?_
                        refine xn_top (y := nI (5 * (nd - 1))) (pk_mul 5 (nd - 1)) ?_
                        refine lv_aload_n hx hb xd_Mo_newRequire_309 rfl (lv_at hl 2 rfl) ?_
                        refine va_get (D := D) (ci := 4) (v := .ref (mm 12)) (C := xR_Mo) (T := xT_Mo) (N := 31) hx hb hT xi_Mo hown hK.1 hP 0 rfl rfl 17 (by decide) (hT _ xq_12) (fun _ h9 => h9) rfl xd_Mo_newRequire_310 ?_
                        refine lv_iload hx hb xd_Mo_newRequire_313 (lv_at hl 6 rfl) ?_
                        refine xn_iald (i := nd - 1) hx hb hK.1 hP 13 0 rfl rfl (by omega) (by decide) xd_Mo_newRequire_315 ?_
                        refine xn_top (x := (g 12 (nd - 1))) (y := nI rq1) erq1 ?_
                        refine lv_iadd hx hb xd_Mo_newRequire_316 ?_
                        refine xn_top (y := nI ((5 * (nd - 1)) + rq1)) (nI_add (5 * (nd - 1)) rq1) ?_
                        refine lv_iload_n hx hb xd_Mo_newRequire_317 rfl (lv_at hl 4 rfl) ?_
                        refine xn_zast (i := (5 * (nd - 1)) + rq1) hx hb hK.1 hP hD hS 18 2 rfl rfl (by omega) (by decide) xd_Mo_newRequire_318 (fun H locs hP hD hS => ?_)
                        have hP : va_P D xcl (moW h mm kA v (va_up (va_up (va_up g 13 (upd (g 13) ((5 * (nd - 1)) + rq1) r116)) 16 (upd (g 16) ((5 * (nd - 1)) + rq1) (vp_nar .boolean 0))) 17 (upd (g 17) ((5 * (nd - 1)) + rq1) (vp_nar .boolean 1)))) H := hP
                        have hD : va_D A (moW h mm kA v (va_up (va_up (va_up g 13 (upd (g 13) ((5 * (nd - 1)) + rq1) r116)) 16 (upd (g 16) ((5 * (nd - 1)) + rq1) (vp_nar .boolean 0))) 17 (upd (g 17) ((5 * (nd - 1)) + rq1) (vp_nar .boolean 1)))) := hD
                        refine lv_aload_n hx hb xd_Mo_newRequire_319 rfl (lv_at hl 2 rfl) ?_
                        refine va_get (D := D) (ci := 4) (v := .ref (mm 12)) (C := xR_Mo) (T := xT_Mo) (N := 31) hx hb hT xi_Mo hown hK.1 hP 0 rfl rfl 17 (by decide) (hT _ xq_12) (fun _ h9 => h9) rfl xd_Mo_newRequire_320 ?_
                        refine lv_iload hx hb xd_Mo_newRequire_323 (lv_at hl 6 rfl) ?_
                        refine lv_dup2_11 hx hb xd_Mo_newRequire_325 rfl rfl ?_
                        refine xn_iald (i := nd - 1) hx hb hK.1 hP 13 0 rfl rfl (by omega) (by decide) xd_Mo_newRequire_326 ?_
                        refine xn_top (x := (g 12 (nd - 1))) (y := nI rq1) erq1 ?_
                        refine lv_iconst (v := 1) hx hb xd_Mo_newRequire_327 (by decide) ?_
                        refine lv_iadd hx hb xd_Mo_newRequire_328 ?_
                        refine xn_top (y := nI (rq1 + 1)) (nI_add rq1 1) ?_
                        refine xn_iast (i := nd - 1) hx hb hK.1 hP hD hS 13 0 rfl rfl (by omega) (by decide) xd_Mo_newRequire_329 (fun H locs hP hD hS => ?_)
                        have hP : va_P D xcl (moW h mm kA v (va_up (va_up (va_up (va_up g 12 (upd (g 12) (nd - 1) (nI (rq1 + 1)))) 13 (upd (g 13) ((5 * (nd - 1)) + rq1) r116)) 16 (upd (g 16) ((5 * (nd - 1)) + rq1) (vp_nar .boolean 0))) 17 (upd (g 17) ((5 * (nd - 1)) + rq1) (vp_nar .boolean 1)))) H := hP
                        have hD : va_D A (moW h mm kA v (va_up (va_up (va_up (va_up g 12 (upd (g 12) (nd - 1) (nI (rq1 + 1)))) 13 (upd (g 13) ((5 * (nd - 1)) + rq1) r116)) 16 (upd (g 16) ((5 * (nd - 1)) + rq1) (vp_nar .boolean 0))) 17 (upd (g 17) ((5 * (nd - 1)) + rq1) (vp_nar .boolean 1)))) := hD
                        refine lv_iconst (v := 2) hx hb xd_Mo_newRequire_330 (by decide) ?_
                        exact W.iret (v := 2) hx hb hr (fun t ht hW => ⟨⟨2, (v, (va_up (va_up (va_up (va_up g 12 (upd (g 12) (nd - 1) (nI (rq1 + 1)))) 13 (upd (g 13) ((5 * (nd - 1)) + rq1) r116)) 16 (upd (g 16) ((5 * (nd - 1)) + rq1) (vp_nar .boolean 0))) 17 (upd (g 17) ((5 * (nd - 1)) + rq1) (vp_nar .boolean 1)))), rfl, ⟨MI_g (g := va_up g 12 (upd (g 12) (nd - 1) (nI (rq1 + 1)))) rfl rfl rfl rfl rfl rfl rfl rfl (MI_rq (by omega) hMI), rfl, Or.inr (Or.inr (Or.inr rfl))⟩, by rw [ht]; exact hP, hD⟩, hS.F ht⟩) hS.2.2 xd_Mo_newRequire_331
                      · refine lv_bipush (v := (-2)) hx hb xd_Mo_newRequire_261 (by decide) ?_
                        exact W.iret (v := (-2)) hx hb hr (fun t ht hW => ⟨⟨(-2), (v, g), rfl, ⟨hMI, rfl, Or.inr (Or.inl rfl)⟩, by rw [ht]; exact hP, hD⟩, hS.F ht⟩) hS.2.2 xd_Mo_newRequire_263
                  · refine lv_iconst (v := (-1)) hx hb xd_Mo_newRequire_241 (by decide) ?_
                    exact W.iret (v := (-1)) hx hb hr (fun t ht hW => ⟨⟨(-1), (v, g), rfl, ⟨hMI, rfl, Or.inl rfl⟩, by rw [ht]; exact hP, hD⟩, hS.F ht⟩) hS.2.2 xd_Mo_newRequire_242
                · refine lv_iload hx hb xd_Mo_newRequire_206 (lv_at hl 1 rfl) ?_
                  refine lv_if_ne (tgt := 223) hx hb xd_Mo_newRequire_208 (by decide) (fun hc160 => ?_) (fun hc160 => ?_)
                  · refine lv_iconst (v := 1) hx hb xd_Mo_newRequire_223 (by decide) ?_
                    refine lv_goto (tgt := 228) hx hb xd_Mo_newRequire_224 (by decide) ?_
                    refine lv_istore hx hb xd_Mo_newRequire_228 hl (Nat.le_of_ble_eq_true rfl) rfl (fun ls hl => ?_)
                    have hl : lv_has ls 8 [(6, .int 1), (7, .int (nI i)), (0, .ref h), (2, .int 0), (3, .int 1), (4, .int r116), (5, .int (nI (nd - 1)))] := hl
                    refine lv_iinc (k := 1) (x := (nI i)) (v := (nI (i + 1))) hx hb xd_Mo_newRequire_230 hl rfl (xb_inc i 1) (Nat.le_of_ble_eq_true rfl) rfl (fun ls hl => ?_)
                    have hl : lv_has ls 8 [(7, .int (nI (i + 1))), (6, .int 1), (0, .ref h), (2, .int 0), (3, .int 1), (4, .int r116), (5, .int (nI (nd - 1)))] := hl
                    refine lv_goto (tgt := 184) hx hb xd_Mo_newRequire_233 (by decide) ?_
                    exact ih147 (i + 1, 1) _ _ _ (show 5 * (nd - 1) + rq1 - (i + 1) < 5 * (nd - 1) + rq1 - i by omega) (lv_sub hl [0, 1, 2, 3, 4, 5, 6] rfl) hP hD hS ⟨(show 5 * (nd - 1) ≤ (i + 1) from by first | assumption | omega), (show (i + 1) ≤ 5 * (nd - 1) + rq1 from by first | assumption | omega)⟩
                  · refine lv_aload_n hx hb xd_Mo_newRequire_211 rfl (lv_at hl 2 rfl) ?_
                    refine va_get (D := D) (ci := 4) (v := .ref (mm 13)) (C := xR_Mo) (T := xT_Mo) (N := 31) hx hb hT xi_Mo hown hK.1 hP 0 rfl rfl 18 (by decide) (hT _ xq_13) (fun _ h9 => h9) rfl xd_Mo_newRequire_212 ?_
                    refine lv_iload hx hb xd_Mo_newRequire_215 (lv_at hl 0 rfl) ?_
                    refine xn_iald (i := i) hx hb hK.1 hP 14 0 rfl rfl (by omega) (by decide) xd_Mo_newRequire_217 ?_
                    refine lv_iload hx hb xd_Mo_newRequire_218 (lv_at hl 5 rfl) ?_
                    refine lv_icmp_ne (tgt := 227) hx hb xd_Mo_newRequire_220 (by decide) (fun hc161 => ?_) (fun hc161 => ?_)
                    · refine lv_iconst (v := 0) hx hb xd_Mo_newRequire_227 (by decide) ?_
                      refine lv_istore hx hb xd_Mo_newRequire_228 hl (Nat.le_of_ble_eq_true rfl) rfl (fun ls hl => ?_)
                      have hl : lv_has ls 8 [(6, .int 0), (7, .int (nI i)), (0, .ref h), (2, .int 0), (3, .int 1), (4, .int r116), (5, .int (nI (nd - 1)))] := hl
                      refine lv_iinc (k := 1) (x := (nI i)) (v := (nI (i + 1))) hx hb xd_Mo_newRequire_230 hl rfl (xb_inc i 1) (Nat.le_of_ble_eq_true rfl) rfl (fun ls hl => ?_)
                      have hl : lv_has ls 8 [(7, .int (nI (i + 1))), (6, .int 0), (0, .ref h), (2, .int 0), (3, .int 1), (4, .int r116), (5, .int (nI (nd - 1)))] := hl
                      refine lv_goto (tgt := 184) hx hb xd_Mo_newRequire_233 (by decide) ?_
                      exact ih147 (i + 1, 0) _ _ _ (show 5 * (nd - 1) + rq1 - (i + 1) < 5 * (nd - 1) + rq1 - i by omega) (lv_sub hl [0, 1, 2, 3, 4, 5, 6] rfl) hP hD hS ⟨(show 5 * (nd - 1) ≤ (i + 1) from by first | assumption | omega), (show (i + 1) ≤ 5 * (nd - 1) + rq1 from by first | assumption | omega)⟩
                    · refine lv_iconst (v := 1) hx hb xd_Mo_newRequire_223 (by decide) ?_
                      refine lv_goto (tgt := 228) hx hb xd_Mo_newRequire_224 (by decide) ?_
                      refine lv_istore hx hb xd_Mo_newRequire_228 hl (Nat.le_of_ble_eq_true rfl) rfl (fun ls hl => ?_)
                      have hl : lv_has ls 8 [(6, .int 1), (7, .int (nI i)), (0, .ref h), (2, .int 0), (3, .int 1), (4, .int r116), (5, .int (nI (nd - 1)))] := hl
                      refine lv_iinc (k := 1) (x := (nI i)) (v := (nI (i + 1))) hx hb xd_Mo_newRequire_230 hl rfl (xb_inc i 1) (Nat.le_of_ble_eq_true rfl) rfl (fun ls hl => ?_)
                      have hl : lv_has ls 8 [(7, .int (nI (i + 1))), (6, .int 1), (0, .ref h), (2, .int 0), (3, .int 1), (4, .int r116), (5, .int (nI (nd - 1)))] := hl
                      refine lv_goto (tgt := 184) hx hb xd_Mo_newRequire_233 (by decide) ?_
                      exact ih147 (i + 1, 1) _ _ _ (show 5 * (nd - 1) + rq1 - (i + 1) < 5 * (nd - 1) + rq1 - i by omega) (lv_sub hl [0, 1, 2, 3, 4, 5, 6] rfl) hP hD hS ⟨(show 5 * (nd - 1) ≤ (i + 1) from by first | assumption | omega), (show (i + 1) ≤ 5 * (nd - 1) + rq1 from by first | assumption | omega)⟩
          · refine lv_iconst (v := (-1)) hx hb xd_Mo_newRequire_144 (by decide) ?_
            exact W.iret (v := (-1)) hx hb hr (fun t ht hW => ⟨⟨(-1), (v, g), rfl, ⟨hMI, rfl, Or.inl rfl⟩, by rw [ht]; exact hP, hD⟩, hS.F ht⟩) hS.2.2 xd_Mo_newRequire_145
  · obtain ⟨b1, e1, hbe1, he1, eb1, ee1⟩ := hws 1 (by omega)
    refine lv_aload_n hx hb xd_Mo_newRequire_10 rfl (lv_at hl 1 rfl) ?_
    refine lv_iconst (v := 1) hx hb xd_Mo_newRequire_11 (by decide) ?_
    refine lv_bipush (v := 116) hx hb xd_Mo_newRequire_12 (by decide) ?_
    refine lv_bipush (v := 114) hx hb xd_Mo_newRequire_14 (by decide) ?_
    refine lv_bipush (v := 97) hx hb xd_Mo_newRequire_16 (by decide) ?_
    refine lv_bipush (v := 110) hx hb xd_Mo_newRequire_18 (by decide) ?_
    refine lv_bipush (v := 115) hx hb xd_Mo_newRequire_20 (by decide) ?_
    have hFc := va_free (wc := (moW h mm kA v g)) hD hS hA [0, 1, 2, 3, 4, 5, 6, 7, 8, 9, 10, 11, 12, 13, 14, 15, 16, 17, 18, 19, 20, 21, 22, 23, 24, 25] rfl
    refine va_calli (va_runS (As := [.int 116, .int 114, .int 97, .int 110, .int 115]) (rest := [.int 1, .ref h]) ⟨hx, hb, hml, hown, hT⟩ (xc_Mo_code l D kA s.heap.size h mm v g 116 114 97 110 115) (cwS 5 hT (wT_S0 xq_17 xq_18 xq_5 xq_16) rfl rfl rfl (by decide +kernel) ⟨Nat.le_of_ble_eq_true rfl, Nat.le_of_ble_eq_true rfl⟩) (x_preS hK hP hD) rfl rfl hl.1 rfl (lv_room (Nat.le_of_ble_eq_true rfl)) xd_Mo_newRequire_22 ⟨Nat.le_of_ble_eq_true rfl, Nat.le_of_ble_eq_true rfl⟩) hS (fun q _ h => hFc q h) hFc (fun r162 u163 t H1 locs ht hvm hp164 hB hz1 hk1 hS => ?_)
    obtain ⟨hP1, hD1⟩ := hB
    rw [ht] at hP1
    have hD1 := hD1.weaken (fun _ _ _ h => hFc _ h)
    generalize H1 = H at hP1 hS ⊢
    have hP := hP1
    have hD := hD1
    have hP : va_P D xcl (moW h mm kA v g) H := hP
    have hD : va_D A (moW h mm kA v g) := hD
    refine lv_bipush (v := 105) hx hb xd_Mo_newRequire_25 (by decide) ?_
    refine lv_bipush (v := 116) hx hb xd_Mo_newRequire_27 (by decide) ?_
    refine lv_bipush (v := 105) hx hb xd_Mo_newRequire_29 (by decide) ?_
    refine lv_bipush (v := 118) hx hb xd_Mo_newRequire_31 (by decide) ?_
    refine lv_bipush (v := 101) hx hb xd_Mo_newRequire_33 (by decide) ?_
    have hFc := va_free (wc := (moW h mm kA v g)) hD hS hA [0, 1, 2, 3, 4, 5, 6, 7, 8, 9, 10, 11, 12, 13, 14, 15, 16, 17, 18, 19, 20, 21, 22, 23, 24, 25] rfl
    refine va_calli (va_runS (As := [.int 105, .int 116, .int 105, .int 118, .int 101]) (rest := [.int r162, .int 1, .ref h]) ⟨hx, hb, hml, hown, hT⟩ (xc_Mo_code l D kA H.size h mm v g 105 116 105 118 101) (cwS 5 hT (wT_S0 xq_17 xq_18 xq_5 xq_16) rfl rfl rfl (by decide +kernel) ⟨Nat.le_of_ble_eq_true rfl, Nat.le_of_ble_eq_true rfl⟩) (x_preS hK hP hD) rfl rfl hl.1 rfl (lv_room (Nat.le_of_ble_eq_true rfl)) xd_Mo_newRequire_35 ⟨Nat.le_of_ble_eq_true rfl, Nat.le_of_ble_eq_true rfl⟩) hS (fun q _ h => hFc q h) hFc (fun r165 u166 t H1 locs ht hvm hp167 hB hz1 hk1 hS => ?_)
    obtain ⟨hP1, hD1⟩ := hB
    rw [ht] at hP1
    have hD1 := hD1.weaken (fun _ _ _ h => hFc _ h)
    generalize H1 = H at hP1 hS ⊢
    have hP := hP1
    have hD := hD1
    have hP : va_P D xcl (moW h mm kA v g) H := hP
    have hD : va_D A (moW h mm kA v g) := hD
    have hFc := va_free (wc := (moW h mm kA v g)) hD hS hA [0, 1, 2, 3, 4, 5, 6, 7, 8, 9, 10, 11, 12, 13, 14, 15, 16, 17, 18, 19, 20, 21, 22, 23, 24, 25] rfl
    refine va_calli (va_runV (As := [.int 1, .int r162, .int r165]) (rest := []) ⟨hx, hb, hml, hown, hT⟩ (xc_Mo_says l D kA H.size h mm v g 1 b1 e1 r162 r165 (by first | assumption | omega) (by first | assumption | omega) (by first | assumption | omega) (by first | assumption | omega) (by first | assumption | omega) (by first | assumption | omega)) (cwV 3 hT (wT_V xq_20 xq_21 xq_22 xq_5 xq_19) rfl rfl rfl (by decide +kernel) ⟨Nat.le_of_ble_eq_true rfl, Nat.le_of_ble_eq_true rfl⟩) (x_preV hK hP hD 0 rfl rfl) rfl rfl hl.1 rfl (lv_room (Nat.le_of_ble_eq_true rfl)) xd_Mo_newRequire_38 ⟨Nat.le_of_ble_eq_true rfl, Nat.le_of_ble_eq_true rfl⟩) hS (fun q _ h => hFc q h) hFc (fun r168 u169 t H1 locs ht hvm hp170 hB hz1 hk1 hS => ?_)
    obtain ⟨hP1, hD1⟩ := hB
    rw [ht] at hP1
    have hD1 := hD1.weaken (fun _ _ _ h => hFc _ h)
    generalize H1 = H at hP1 hS ⊢
    have hP := hP1
    have hD := hD1
    have hP : va_P D xcl (moW h mm kA v g) H := hP
    have hD : va_D A (moW h mm kA v g) := hD
    rcases hp170 with rfl | rfl
    · refine xz_eq (a := 0) (tgt := 48) hx hb xd_Mo_newRequire_41 (by decide) (by omega) (fun _ => ?_) (fun hc171 => absurd hc171 (by omega))
      refine lv_iconst (v := 0) hx hb xd_Mo_newRequire_48 (by decide) ?_
      refine lv_istore_n hx hb xd_Mo_newRequire_49 rfl hl (Nat.le_of_ble_eq_true rfl) rfl (fun ls hl => ?_)
      have hl : lv_has ls 8 [(2, .int 0), (1, .int 1), (0, .ref h)] := hl
      refine lv_iload_n hx hb xd_Mo_newRequire_50 rfl (lv_at hl 0 rfl) ?_
      refine xz_eq (a := 0) (tgt := 58) hx hb xd_Mo_newRequire_51 (by decide) (by omega) (fun _ => ?_) (fun hc172 => absurd hc172 (by omega))
      refine lv_iconst (v := 1) hx hb xd_Mo_newRequire_58 (by decide) ?_
      refine lv_istore_n hx hb xd_Mo_newRequire_59 rfl hl (Nat.le_of_ble_eq_true rfl) rfl (fun ls hl => ?_)
      have hl : lv_has ls 8 [(1, .int 1), (2, .int 0), (0, .ref h)] := hl
      refine lv_aload_n hx hb xd_Mo_newRequire_60 rfl (lv_at hl 2 rfl) ?_
      refine va_get (D := D) (ci := 4) (v := .int (v 3)) (C := xR_Mo) (T := xT_Mo) (N := 31) hx hb hT xi_Mo hown hK.1 hP 0 rfl rfl 4 (by decide) (hT _ xq_0) (fun _ h9 => h9) rfl xd_Mo_newRequire_61 ?_
      refine xn_top (x := (v 3)) (y := nI wn) hwn ?_
      refine lv_iload_n hx hb xd_Mo_newRequire_64 rfl (lv_at hl 0 rfl) ?_
      refine lv_iconst (v := 1) hx hb xd_Mo_newRequire_65 (by decide) ?_
      refine lv_iadd hx hb xd_Mo_newRequire_66 ?_
      refine xn_top (y := nI (2)) (nI_add 1 1) ?_
      refine xn_le (a := wn) (b := 2) (tgt := 104) hx hb xd_Mo_newRequire_67 (by decide) (by omega) (by omega) (fun hc173 => ?_) (fun hc173 => ?_)
      · refine lv_iconst (v := 0) hx hb xd_Mo_newRequire_104 (by decide) ?_
        refine lv_istore_n hx hb xd_Mo_newRequire_105 rfl hl (Nat.le_of_ble_eq_true rfl) rfl (fun ls hl => ?_)
        have hl : lv_has ls 8 [(3, .int 0), (1, .int 1), (2, .int 0), (0, .ref h)] := hl
        refine lv_iload_n hx hb xd_Mo_newRequire_106 rfl (lv_at hl 0 rfl) ?_
        refine xz_eq (a := 0) (tgt := 116) hx hb xd_Mo_newRequire_107 (by decide) (by omega) (fun _ => ?_) (fun hc174 => absurd hc174 (by omega))
        refine lv_iload_n hx hb xd_Mo_newRequire_116 rfl (lv_at hl 1 rfl) ?_
        refine lv_istore_n hx hb xd_Mo_newRequire_117 rfl hl (Nat.le_of_ble_eq_true rfl) rfl (fun ls hl => ?_)
        have hl : lv_has ls 8 [(1, .int 1), (3, .int 0), (2, .int 0), (0, .ref h)] := hl
        refine lv_aload_n hx hb xd_Mo_newRequire_118 rfl (lv_at hl 3 rfl) ?_
        refine va_get (D := D) (ci := 4) (v := .int (v 3)) (C := xR_Mo) (T := xT_Mo) (N := 31) hx hb hT xi_Mo hown hK.1 hP 0 rfl rfl 4 (by decide) (hT _ xq_0) (fun _ h9 => h9) rfl xd_Mo_newRequire_119 ?_
        refine xn_top (x := (v 3)) (y := nI wn) hwn ?_
        refine lv_iload_n hx hb xd_Mo_newRequire_122 rfl (lv_at hl 0 rfl) ?_
        refine lv_iconst (v := 1) hx hb xd_Mo_newRequire_123 (by decide) ?_
        refine lv_iadd hx hb xd_Mo_newRequire_124 ?_
        refine xn_top (y := nI (2)) (nI_add 1 1) ?_
        refine xn_ne (a := wn) (b := 2) (tgt := 136) hx hb xd_Mo_newRequire_125 (by decide) (by omega) (by omega) (fun hc175 => ?_) (fun hc175 => ?_)
        · refine lv_iconst (v := 0) hx hb xd_Mo_newRequire_136 (by decide) ?_
          refine lv_istore hx hb xd_Mo_newRequire_137 hl (Nat.le_of_ble_eq_true rfl) rfl (fun ls hl => ?_)
          have hl : lv_has ls 8 [(4, .int 0), (1, .int 1), (3, .int 0), (2, .int 0), (0, .ref h)] := hl
          refine lv_iload hx hb xd_Mo_newRequire_139 (lv_at hl 0 rfl) ?_
          refine xz_ne (a := 0) (tgt := 146) hx hb xd_Mo_newRequire_141 (by decide) (by omega) (fun hc176 => absurd hc176 (by omega)) (fun _ => ?_)
          refine lv_iconst (v := (-1)) hx hb xd_Mo_newRequire_144 (by decide) ?_
          exact W.iret (v := (-1)) hx hb hr (fun t ht hW => ⟨⟨(-1), (v, g), rfl, ⟨hMI, rfl, Or.inl rfl⟩, by rw [ht]; exact hP, hD⟩, hS.F ht⟩) hS.2.2 xd_Mo_newRequire_145
        · refine lv_aload_n hx hb xd_Mo_newRequire_128 rfl (lv_at hl 3 rfl) ?_
          refine lv_iload_n hx hb xd_Mo_newRequire_129 rfl (lv_at hl 0 rfl) ?_
          have hFc := va_free (wc := (moW h mm kA v g)) hD hS hA [0, 1, 2, 3, 4, 5, 6, 7, 8, 9, 10, 11, 12, 13, 14, 15, 16, 17, 18, 19, 20, 21, 22, 23, 24, 25] rfl
          refine va_calli (va_runV (As := [.int 1]) (rest := []) ⟨hx, hb, hml, hown, hT⟩ (xc_Mo_nameOf l D kA H.size h mm v g 1 b1 e1 (by first | assumption | omega) (by first | assumption | omega) (by first | assumption | omega) (by first | assumption | omega) (by first | assumption | omega)) (cwV 1 hT (wT_V xq_2 xq_3 xq_4 xq_5 xq_1) rfl rfl rfl (by decide +kernel) ⟨Nat.le_of_ble_eq_true rfl, Nat.le_of_ble_eq_true rfl⟩) (x_preV hK hP hD 0 rfl rfl) rfl rfl hl.1 rfl (lv_room (Nat.le_of_ble_eq_true rfl)) xd_Mo_newRequire_130 ⟨Nat.le_of_ble_eq_true rfl, Nat.le_of_ble_eq_true rfl⟩) hS (fun q _ h => hFc q h) hFc (fun r177 u178 t H1 locs ht hvm hp179 hB hz1 hk1 hS => ?_)
          obtain ⟨hP1, hD1⟩ := hB
          rw [ht] at hP1
          have hD1 := hD1.weaken (fun _ _ _ h => hFc _ h)
          generalize H1 = H at hP1 hS ⊢
          have hP := hP1
          have hD := hD1
          have hP : va_P D xcl (moW h mm kA v g) H := hP
          have hD : va_D A (moW h mm kA v g) := hD
          refine lv_goto (tgt := 137) hx hb xd_Mo_newRequire_133 (by decide) ?_
          refine lv_istore hx hb xd_Mo_newRequire_137 hl (Nat.le_of_ble_eq_true rfl) rfl (fun ls hl => ?_)
          have hl : lv_has ls 8 [(4, .int r177), (1, .int 1), (3, .int 0), (2, .int 0), (0, .ref h)] := hl
          refine lv_iload hx hb xd_Mo_newRequire_139 (lv_at hl 0 rfl) ?_
          refine lv_if_ne (tgt := 146) hx hb xd_Mo_newRequire_141 (by decide) (fun hc180 => ?_) (fun hc180 => ?_)
          · rcases Nat.eq_zero_or_pos nd with hz | hz
            · have hnd0 : v 4 = nI 0 := by rw [hnd, hz]
              refine lv_aload_n hx hb xd_Mo_newRequire_146 rfl (lv_at hl 4 rfl) ?_
              refine va_get (D := D) (ci := 4) (v := .int (v 4)) (C := xR_Mo) (T := xT_Mo) (N := 31) hx hb hT xi_Mo hown hK.1 hP 0 rfl rfl 7 (by decide) (hT _ xq_6) (fun _ h9 => h9) rfl xd_Mo_newRequire_147 ?_
              refine xn_top (x := (v 4)) (y := nI 0) hnd0 ?_
              refine lv_iconst (v := 1) hx hb xd_Mo_newRequire_150 (by decide) ?_
              refine lv_isub hx hb xd_Mo_newRequire_151 ?_
              refine lv_istore hx hb xd_Mo_newRequire_152 hl (Nat.le_of_ble_eq_true rfl) rfl (fun ls hl => ?_)
              have hl : lv_has ls 8 [(5, .int ((nI 0) - 1)), (4, .int r177), (1, .int 1), (3, .int 0), (2, .int 0), (0, .ref h)] := hl
              refine lv_iload hx hb xd_Mo_newRequire_154 (lv_at hl 0 rfl) ?_
              refine lv_if_lt (tgt := 175) hx hb xd_Mo_newRequire_156 (by decide) (fun _ => ?_) (fun hc181 => absurd hc181 (by decide))
              refine lv_iconst (v := 0) hx hb xd_Mo_newRequire_175 (by decide) ?_
              refine lv_istore hx hb xd_Mo_newRequire_176 hl (Nat.le_of_ble_eq_true rfl) rfl (fun ls hl => ?_)
              have hl : lv_has ls 8 [(6, .int 0), (5, .int ((nI 0) - 1)), (4, .int r177), (1, .int 1), (3, .int 0), (2, .int 0), (0, .ref h)] := hl
              refine lv_iconst (v := 5) hx hb xd_Mo_newRequire_178 (by decide) ?_
              refine lv_iload hx hb xd_Mo_newRequire_179 (lv_at hl 1 rfl) ?_
              refine lv_imul hx hb xd_Mo_newRequire_181 ?_
              refine lv_istore hx hb xd_Mo_newRequire_182 hl (Nat.le_of_ble_eq_true rfl) rfl (fun ls hl => ?_)
              have hl : lv_has ls 8 [(7, .int (5 * ((nI 0) - 1))), (6, .int 0), (5, .int ((nI 0) - 1)), (4, .int r177), (1, .int 1), (3, .int 0), (2, .int 0), (0, .ref h)] := hl
              refine lv_iload hx hb xd_Mo_newRequire_184 (lv_at hl 2 rfl) ?_
              refine lv_if_lt (tgt := 236) hx hb xd_Mo_newRequire_186 (by decide) (fun _ => ?_) (fun hc182 => absurd hc182 (by decide))
              refine lv_iload hx hb xd_Mo_newRequire_236 (lv_at hl 1 rfl) ?_
              refine xz_eq (a := 0) (tgt := 243) hx hb xd_Mo_newRequire_238 (by decide) (by omega) (fun _ => ?_) (fun hc183 => absurd hc183 (by omega))
              refine lv_aload_n hx hb xd_Mo_newRequire_243 rfl (lv_at hl 7 rfl) ?_
              have hFc := va_free (wc := (moW h mm kA v g)) hD hS hA [0, 1, 2, 3, 4, 5, 6, 7, 8, 9, 10, 11, 12, 13, 14, 15, 16, 17, 18, 19, 20, 21, 22, 23, 24, 25] rfl
              refine va_calli (va_runV (As := []) (rest := []) ⟨hx, hb, hml, hown, hT⟩ (xc_Mo_isShut l D kA H.size h mm v g nd (by first | assumption | omega) (by first | assumption | omega)) (cwV 0 hT (wT_V xq_8 xq_9 xq_10 xq_5 xq_7) rfl rfl rfl (by decide +kernel) ⟨Nat.le_of_ble_eq_true rfl, Nat.le_of_ble_eq_true rfl⟩) (x_preV hK hP hD 0 rfl rfl) rfl rfl hl.1 rfl (lv_room (Nat.le_of_ble_eq_true rfl)) xd_Mo_newRequire_244 ⟨Nat.le_of_ble_eq_true rfl, Nat.le_of_ble_eq_true rfl⟩) hS (fun q _ h => hFc q h) hFc (fun r184 u185 t H1 locs ht hvm hp186 hB hz1 hk1 hS => ?_)
              obtain ⟨hP1, hD1⟩ := hB
              rw [ht] at hP1
              have hD1 := hD1.weaken (fun _ _ _ h => hFc _ h)
              generalize H1 = H at hP1 hS ⊢
              have hP := hP1
              have hD := hD1
              have hP : va_P D xcl (moW h mm kA v g) H := hP
              have hD : va_D A (moW h mm kA v g) := hD
              rcases hp186 with ⟨rfl, z187⟩ | ⟨rfl, z188, z189⟩
              · refine xz_ne (a := 1) (tgt := 261) hx hb xd_Mo_newRequire_247 (by decide) (by omega) (fun _ => ?_) (fun hc190 => absurd hc190 (by omega))
                refine lv_bipush (v := (-2)) hx hb xd_Mo_newRequire_261 (by decide) ?_
                exact W.iret (v := (-2)) hx hb hr (fun t ht hW => ⟨⟨(-2), (v, g), rfl, ⟨hMI, rfl, Or.inr (Or.inl rfl)⟩, by rw [ht]; exact hP, hD⟩, hS.F ht⟩) hS.2.2 xd_Mo_newRequire_263
              · exact absurd hz z188
            · refine lv_aload_n hx hb xd_Mo_newRequire_146 rfl (lv_at hl 4 rfl) ?_
              refine va_get (D := D) (ci := 4) (v := .int (v 4)) (C := xR_Mo) (T := xT_Mo) (N := 31) hx hb hT xi_Mo hown hK.1 hP 0 rfl rfl 7 (by decide) (hT _ xq_6) (fun _ h9 => h9) rfl xd_Mo_newRequire_147 ?_
              refine xn_top (x := (v 4)) (y := nI nd) hnd ?_
              refine lv_iconst (v := 1) hx hb xd_Mo_newRequire_150 (by decide) ?_
              refine lv_isub hx hb xd_Mo_newRequire_151 ?_
              refine xn_top (y := nI (nd - 1)) (pk_sub (a := nd) (b := 1) (by omega)) ?_
              refine lv_istore hx hb xd_Mo_newRequire_152 hl (Nat.le_of_ble_eq_true rfl) rfl (fun ls hl => ?_)
              have hl : lv_has ls 8 [(5, .int (nI (nd - 1))), (4, .int r177), (1, .int 1), (3, .int 0), (2, .int 0), (0, .ref h)] := hl
              refine lv_iload hx hb xd_Mo_newRequire_154 (lv_at hl 0 rfl) ?_
              refine xz_lt (a := nd - 1) (tgt := 175) hx hb xd_Mo_newRequire_156 (by decide) (by omega) ?_
              obtain ⟨rq1, hrq1, erq1⟩ := hrq (nd - 1) (by omega)
              refine lv_aload_n hx hb xd_Mo_newRequire_159 rfl (lv_at hl 5 rfl) ?_
              refine va_get (D := D) (ci := 4) (v := .ref (mm 4)) (C := xR_Mo) (T := xT_Mo) (N := 31) hx hb hT xi_Mo hown hK.1 hP 0 rfl rfl 9 (by decide) (hT _ xq_11) (fun _ h9 => h9) rfl xd_Mo_newRequire_160 ?_
              refine lv_iload hx hb xd_Mo_newRequire_163 (lv_at hl 0 rfl) ?_
              refine xn_iald (i := nd - 1) hx hb hK.1 hP 5 0 rfl rfl (by omega) (by decide) xd_Mo_newRequire_165 ?_
              refine lv_iload hx hb xd_Mo_newRequire_166 (lv_at hl 1 rfl) ?_
              refine lv_icmp_ne (tgt := 175) hx hb xd_Mo_newRequire_168 (by decide) (fun hc192 => ?_) (fun hc192 => ?_)
              · refine lv_iconst (v := 0) hx hb xd_Mo_newRequire_175 (by decide) ?_
                refine lv_istore hx hb xd_Mo_newRequire_176 hl (Nat.le_of_ble_eq_true rfl) rfl (fun ls hl => ?_)
                have hl : lv_has ls 8 [(6, .int 0), (5, .int (nI (nd - 1))), (4, .int r177), (1, .int 1), (3, .int 0), (2, .int 0), (0, .ref h)] := hl
                refine lv_iconst (v := 5) hx hb xd_Mo_newRequire_178 (by decide) ?_
                refine lv_iload hx hb xd_Mo_newRequire_179 (lv_at hl 1 rfl) ?_
                refine lv_imul hx hb xd_Mo_newRequire_181 ?_
                refine xn_top (y := nI (5 * (nd - 1))) (pk_mul 5 (nd - 1)) ?_
                refine lv_istore hx hb xd_Mo_newRequire_182 hl (Nat.le_of_ble_eq_true rfl) rfl (fun ls hl => ?_)
                have hl : lv_has ls 8 [(7, .int (nI (5 * (nd - 1)))), (6, .int 0), (5, .int (nI (nd - 1))), (4, .int r177), (1, .int 1), (3, .int 0), (2, .int 0), (0, .ref h)] := hl
                refine xlab (σ := Nat × Int32) (ml := 8) 184 (fun (i, tw) => [(7, .int (nI i)), (6, .int tw), (0, .ref h), (2, .int 0), (3, .int 0), (4, .int r177), (5, .int (nI (nd - 1)))]) (fun (i, tw) => []) (fun (i, tw) => moW h mm kA v g) (fun (i, tw) => (5 * (nd - 1) ≤ i) ∧ (i ≤ 5 * (nd - 1) + rq1)) (fun (i, tw) => 5 * (nd - 1) + rq1 - i) ?_ (5 * (nd - 1), 0) _ _ _ (lv_sub hl [0, 1, 7, 6, 5, 3, 2] rfl) hP hD hS ⟨(show 5 * (nd - 1) ≤ (5 * (nd - 1)) from by first | assumption | omega), (show (5 * (nd - 1)) ≤ 5 * (nd - 1) + rq1 from by first | assumption | omega)⟩
                intro n9 ih193 a9 ls H locs hμ hl hP hD hS hI
                subst hμ
                obtain ⟨i, tw⟩ := a9
                obtain ⟨hi1, hi2⟩ := hI
                have hi1 : 5 * (nd - 1) ≤ i := hi1
                have hi2 : i ≤ 5 * (nd - 1) + rq1 := hi2
                have hl : lv_has ls 8 [(7, .int (nI i)), (6, .int tw), (0, .ref h), (2, .int 0), (3, .int 0), (4, .int r177), (5, .int (nI (nd - 1)))] := hl
                have hP : va_P D xcl (moW h mm kA v g) H := hP
                have hD : va_D A (moW h mm kA v g) := hD
                refine lv_iload hx hb xd_Mo_newRequire_184 (lv_at hl 6 rfl) ?_
                refine xz_lt (a := nd - 1) (tgt := 236) hx hb xd_Mo_newRequire_186 (by decide) (by omega) ?_
                refine lv_iload hx hb xd_Mo_newRequire_189 (lv_at hl 0 rfl) ?_
                refine lv_iconst (v := 5) hx hb xd_Mo_newRequire_191 (by decide) ?_
                refine lv_iload hx hb xd_Mo_newRequire_192 (lv_at hl 6 rfl) ?_
                refine lv_imul hx hb xd_Mo_newRequire_194 ?_
                refine xn_top (y := nI (5 * (nd - 1))) (pk_mul 5 (nd - 1)) ?_
                refine lv_aload_n hx hb xd_Mo_newRequire_195 rfl (lv_at hl 2 rfl) ?_
                refine va_get (D := D) (ci := 4) (v := .ref (mm 12)) (C := xR_Mo) (T := xT_Mo) (N := 31) hx hb hT xi_Mo hown hK.1 hP 0 rfl rfl 17 (by decide) (hT _ xq_12) (fun _ h9 => h9) rfl xd_Mo_newRequire_196 ?_
                refine lv_iload hx hb xd_Mo_newRequire_199 (lv_at hl 6 rfl) ?_
                refine xn_iald (i := nd - 1) hx hb hK.1 hP 13 0 rfl rfl (by omega) (by decide) xd_Mo_newRequire_201 ?_
                refine xn_top (x := (g 12 (nd - 1))) (y := nI rq1) erq1 ?_
                refine lv_iadd hx hb xd_Mo_newRequire_202 ?_
                refine xn_top (y := nI ((5 * (nd - 1)) + rq1)) (nI_add (5 * (nd - 1)) rq1) ?_
                refine xn_ge (a := i) (b := (5 * (nd - 1)) + rq1) (tgt := 236) hx hb xd_Mo_newRequire_203 (by decide) (by omega) (by omega) (fun hc195 => ?_) (fun hc195 => ?_)
                · refine lv_iload hx hb xd_Mo_newRequire_236 (lv_at hl 1 rfl) ?_
                  refine lv_if_eq (tgt := 243) hx hb xd_Mo_newRequire_238 (by decide) (fun hc196 => ?_) (fun hc196 => ?_)
                  · refine lv_aload_n hx hb xd_Mo_newRequire_243 rfl (lv_at hl 2 rfl) ?_
                    have hFc := va_free (wc := (moW h mm kA v g)) hD hS hA [0, 1, 2, 3, 4, 5, 6, 7, 8, 9, 10, 11, 12, 13, 14, 15, 16, 17, 18, 19, 20, 21, 22, 23, 24, 25] rfl
                    refine va_calli (va_runV (As := []) (rest := []) ⟨hx, hb, hml, hown, hT⟩ (xc_Mo_isShut l D kA H.size h mm v g nd (by first | assumption | omega) (by first | assumption | omega)) (cwV 0 hT (wT_V xq_8 xq_9 xq_10 xq_5 xq_7) rfl rfl rfl (by decide +kernel) ⟨Nat.le_of_ble_eq_true rfl, Nat.le_of_ble_eq_true rfl⟩) (x_preV hK hP hD 0 rfl rfl) rfl rfl hl.1 rfl (lv_room (Nat.le_of_ble_eq_true rfl)) xd_Mo_newRequire_244 ⟨Nat.le_of_ble_eq_true rfl, Nat.le_of_ble_eq_true rfl⟩) hS (fun q _ h => hFc q h) hFc (fun r197 u198 t H1 locs ht hvm hp199 hB hz1 hk1 hS => ?_)
                    obtain ⟨hP1, hD1⟩ := hB
                    rw [ht] at hP1
                    have hD1 := hD1.weaken (fun _ _ _ h => hFc _ h)
                    generalize H1 = H at hP1 hS ⊢
                    have hP := hP1
                    have hD := hD1
                    have hP : va_P D xcl (moW h mm kA v g) H := hP
                    have hD : va_D A (moW h mm kA v g) := hD
                    rcases hp199 with ⟨rfl, z200⟩ | ⟨rfl, z201, z202⟩
                    · refine xz_ne (a := 1) (tgt := 261) hx hb xd_Mo_newRequire_247 (by decide) (by omega) (fun _ => ?_) (fun hc203 => absurd hc203 (by omega))
                      refine lv_bipush (v := (-2)) hx hb xd_Mo_newRequire_261 (by decide) ?_
                      exact W.iret (v := (-2)) hx hb hr (fun t ht hW => ⟨⟨(-2), (v, g), rfl, ⟨hMI, rfl, Or.inr (Or.inl rfl)⟩, by rw [ht]; exact hP, hD⟩, hS.F ht⟩) hS.2.2 xd_Mo_newRequire_263
                    · refine xz_ne (a := 0) (tgt := 261) hx hb xd_Mo_newRequire_247 (by decide) (by omega) (fun hc204 => absurd hc204 (by omega)) (fun _ => ?_)
                      refine lv_aload_n hx hb xd_Mo_newRequire_250 rfl (lv_at hl 2 rfl) ?_
                      refine va_get (D := D) (ci := 4) (v := .ref (mm 12)) (C := xR_Mo) (T := xT_Mo) (N := 31) hx hb hT xi_Mo hown hK.1 hP 0 rfl rfl 17 (by decide) (hT _ xq_12) (fun _ h9 => h9) rfl xd_Mo_newRequire_251 ?_
                      refine lv_iload hx hb xd_Mo_newRequire_254 (lv_at hl 6 rfl) ?_
                      refine xn_iald (i := nd - 1) hx hb hK.1 hP 13 0 rfl rfl (by omega) (by decide) xd_Mo_newRequire_256 ?_
                      refine xn_top (x := (g 12 (nd - 1))) (y := nI rq1) erq1 ?_
                      refine lv_iconst (v := 5) hx hb xd_Mo_newRequire_257 (by decide) ?_
                      refine xn_ne (a := rq1) (b := 5) (tgt := 264) hx hb xd_Mo_newRequire_258 (by decide) (by omega) (by omega) (fun hc205 => ?_) (fun hc205 => ?_)
                      · refine lv_aload_n hx hb xd_Mo_newRequire_264 rfl (lv_at hl 2 rfl) ?_
                        refine va_get (D := D) (ci := 4) (v := .ref (mm 13)) (C := xR_Mo) (T := xT_Mo) (N := 31) hx hb hT xi_Mo hown hK.1 hP 0 rfl rfl 18 (by decide) (hT _ xq_13) (fun _ h9 => h9) rfl xd_Mo_newRequire_265 ?_
                        refine lv_iconst (v := 5) hx hb xd_Mo_newRequire_268 (by decide) ?_
                        refine lv_iload hx hb xd_Mo_newRequire_269 (lv_at hl 6 rfl) ?_
                        refine lv_imul hx hb xd_Mo_newRequire_271 ?_
                        refine xn_top (y := nI (5 * (nd - 1))) (pk_mul 5 (nd - 1)) ?_
                        refine lv_aload_n hx hb xd_Mo_newRequire_272 rfl (lv_at hl 2 rfl) ?_
                        refine va_get (D := D) (ci := 4) (v := .ref (mm 12)) (C := xR_Mo) (T := xT_Mo) (N := 31) hx hb hT xi_Mo hown hK.1 hP 0 rfl rfl 17 (by decide) (hT _ xq_12) (fun _ h9 => h9) rfl xd_Mo_newRequire_273 ?_
                        refine lv_iload hx hb xd_Mo_newRequire_276 (lv_at hl 6 rfl) ?_
                        refine xn_iald (i := nd - 1) hx hb hK.1 hP 13 0 rfl rfl (by omega) (by decide) xd_Mo_newRequire_278 ?_
                        refine xn_top (x := (g 12 (nd - 1))) (y := nI rq1) erq1 ?_
                        refine lv_iadd hx hb xd_Mo_newRequire_279 ?_
                        refine xn_top (y := nI ((5 * (nd - 1)) + rq1)) (nI_add (5 * (nd - 1)) rq1) ?_
                        refine lv_iload hx hb xd_Mo_newRequire_280 (lv_at hl 5 rfl) ?_
                        refine xn_iast (i := (5 * (nd - 1)) + rq1) hx hb hK.1 hP hD hS 14 0 rfl rfl (by omega) (by decide) xd_Mo_newRequire_282 (fun H locs hP hD hS => ?_)
                        have hP : va_P D xcl (moW h mm kA v (va_up g 13 (upd (g 13) ((5 * (nd - 1)) + rq1) r177))) H := hP
                        have hD : va_D A (moW h mm kA v (va_up g 13 (upd (g 13) ((5 * (nd - 1)) + rq1) r177))) := hD
                        refine lv_aload_n hx hb xd_Mo_newRequire_283 rfl (lv_at hl 2 rfl) ?_
                        refine va_get (D := D) (ci := 4) (v := .ref (mm 16)) (C := xR_Mo) (T := xT_Mo) (N := 31) hx hb hT xi_Mo hown hK.1 hP 0 rfl rfl 21 (by decide) (hT _ xq_14) (fun _ h9 => h9) rfl xd_Mo_newRequire_284 ?_
                        refine lv_iconst (v := 5) hx hb xd_Mo_newRequire_287 (by decide) ?_
                        refine lv_iload hx hb xd_Mo_newRequire_288 (lv_at hl 6 rfl) ?_
                        refine lv_imul hx hb xd_Mo_newRequire_290 ?_
                        refine xn_top (y := nI (5 * (nd - 1))) (pk_mul 5 (nd - 1)) ?_
                        refine lv_aload_n hx hb xd_Mo_newRequire_291 rfl (lv_at hl 2 rfl) ?_
                        refine va_get (D := D) (ci := 4) (v := .ref (mm 12)) (C := xR_Mo) (T := xT_Mo) (N := 31) hx hb hT xi_Mo hown hK.1 hP 0 rfl rfl 17 (by decide) (hT _ xq_12) (fun _ h9 => h9) rfl xd_Mo_newRequire_292 ?_
                        refine lv_iload hx hb xd_Mo_newRequire_295 (lv_at hl 6 rfl) ?_
                        refine xn_iald (i := nd - 1) hx hb hK.1 hP 13 0 rfl rfl (by omega) (by decide) xd_Mo_newRequire_297 ?_
                        refine xn_top (x := (g 12 (nd - 1))) (y := nI rq1) erq1 ?_
                        refine lv_iadd hx hb xd_Mo_newRequire_298 ?_
                        refine xn_top (y := nI ((5 * (nd - 1)) + rq1)) (nI_add (5 * (nd - 1)) rq1) ?_
                        refine lv_iload_n hx hb xd_Mo_newRequire_299 rfl (lv_at hl 3 rfl) ?_
                        refine xn_zast (i := (5 * (nd - 1)) + rq1) hx hb hK.1 hP hD hS 17 2 rfl rfl (by omega) (by decide) xd_Mo_newRequire_300 (fun H locs hP hD hS => ?_)
                        have hP : va_P D xcl (moW h mm kA v (va_up (va_up g 13 (upd (g 13) ((5 * (nd - 1)) + rq1) r177)) 16 (upd (g 16) ((5 * (nd - 1)) + rq1) (vp_nar .boolean 0)))) H := hP
                        have hD : va_D A (moW h mm kA v (va_up (va_up g 13 (upd (g 13) ((5 * (nd - 1)) + rq1) r177)) 16 (upd (g 16) ((5 * (nd - 1)) + rq1) (vp_nar .boolean 0)))) := hD
                        refine lv_aload_n hx hb xd_Mo_newRequire_301 rfl (lv_at hl 2 rfl) ?_
                        refine va_get (D := D) (ci := 4) (v := .ref (mm 17)) (C := xR_Mo) (T := xT_Mo) (N := 31) hx hb hT xi_Mo hown hK.1 hP 0 rfl rfl 22 (by decide) (hT _ xq_15) (fun _ h9 => h9) rfl xd_Mo_newRequire_302 ?_
                        refine lv_iconst (v := 5) hx hb xd_Mo_newRequire_305 (by decide) ?_
                        refine lv_iload hx hb xd_Mo_newRequire_306 (lv_at hl 6 rfl) ?_
                        refine lv_imul hx hb xd_Mo_newRequire_308 ?_
                        refine xn_top (y := nI (5 * (nd - 1))) (pk_mul 5 (nd - 1)) ?_
                        refine lv_aload_n hx hb xd_Mo_newRequire_309 rfl (lv_at hl 2 rfl) ?_
                        refine va_get (D := D) (ci := 4) (v := .ref (mm 12)) (C := xR_Mo) (T := xT_Mo) (N := 31) hx hb hT xi_Mo hown hK.1 hP 0 rfl rfl 17 (by decide) (hT _ xq_12) (fun _ h9 => h9) rfl xd_Mo_newRequire_310 ?_
                        refine lv_iload hx hb xd_Mo_newRequire_313 (lv_at hl 6 rfl) ?_
                        refine xn_iald (i := nd - 1) hx hb hK.1 hP 13 0 rfl rfl (by omega) (by decide) xd_Mo_newRequire_315 ?_
                        refine xn_top (x := (g 12 (nd - 1))) (y := nI rq1) erq1 ?_
                        refine lv_iadd hx hb xd_Mo_newRequire_316 ?_
                        refine xn_top (y := nI ((5 * (nd - 1)) + rq1)) (nI_add (5 * (nd - 1)) rq1) ?_
                        refine lv_iload_n hx hb xd_Mo_newRequire_317 rfl (lv_at hl 4 rfl) ?_
                        refine xn_zast (i := (5 * (nd - 1)) + rq1) hx hb hK.1 hP hD hS 18 2 rfl rfl (by omega) (by decide) xd_Mo_newRequire_318 (fun H locs hP hD hS => ?_)
                        have hP : va_P D xcl (moW h mm kA v (va_up (va_up (va_up g 13 (upd (g 13) ((5 * (nd - 1)) + rq1) r177)) 16 (upd (g 16) ((5 * (nd - 1)) + rq1) (vp_nar .boolean 0))) 17 (upd (g 17) ((5 * (nd - 1)) + rq1) (vp_nar .boolean 0)))) H := hP
                        have hD : va_D A (moW h mm kA v (va_up (va_up (va_up g 13 (upd (g 13) ((5 * (nd - 1)) + rq1) r177)) 16 (upd (g 16) ((5 * (nd - 1)) + rq1) (vp_nar .boolean 0))) 17 (upd (g 17) ((5 * (nd - 1)) + rq1) (vp_nar .boolean 0)))) := hD
                        refine lv_aload_n hx hb xd_Mo_newRequire_319 rfl (lv_at hl 2 rfl) ?_
                        refine va_get (D := D) (ci := 4) (v := .ref (mm 12)) (C := xR_Mo) (T := xT_Mo) (N := 31) hx hb hT xi_Mo hown hK.1 hP 0 rfl rfl 17 (by decide) (hT _ xq_12) (fun _ h9 => h9) rfl xd_Mo_newRequire_320 ?_
                        refine lv_iload hx hb xd_Mo_newRequire_323 (lv_at hl 6 rfl) ?_
                        refine lv_dup2_11 hx hb xd_Mo_newRequire_325 rfl rfl ?_
                        refine xn_iald (i := nd - 1) hx hb hK.1 hP 13 0 rfl rfl (by omega) (by decide) xd_Mo_newRequire_326 ?_
                        refine xn_top (x := (g 12 (nd - 1))) (y := nI rq1) erq1 ?_
                        refine lv_iconst (v := 1) hx hb xd_Mo_newRequire_327 (by decide) ?_
                        refine lv_iadd hx hb xd_Mo_newRequire_328 ?_
                        refine xn_top (y := nI (rq1 + 1)) (nI_add rq1 1) ?_
                        refine xn_iast (i := nd - 1) hx hb hK.1 hP hD hS 13 0 rfl rfl (by omega) (by decide) xd_Mo_newRequire_329 (fun H locs hP hD hS => ?_)
                        have hP : va_P D xcl (moW h mm kA v (va_up (va_up (va_up (va_up g 12 (upd (g 12) (nd - 1) (nI (rq1 + 1)))) 13 (upd (g 13) ((5 * (nd - 1)) + rq1) r177)) 16 (upd (g 16) ((5 * (nd - 1)) + rq1) (vp_nar .boolean 0))) 17 (upd (g 17) ((5 * (nd - 1)) + rq1) (vp_nar .boolean 0)))) H := hP
                        have hD : va_D A (moW h mm kA v (va_up (va_up (va_up (va_up g 12 (upd (g 12) (nd - 1) (nI (rq1 + 1)))) 13 (upd (g 13) ((5 * (nd - 1)) + rq1) r177)) 16 (upd (g 16) ((5 * (nd - 1)) + rq1) (vp_nar .boolean 0))) 17 (upd (g 17) ((5 * (nd - 1)) + rq1) (vp_nar .boolean 0)))) := hD
                        refine lv_iconst (v := 2) hx hb xd_Mo_newRequire_330 (by decide) ?_
                        exact W.iret (v := 2) hx hb hr (fun t ht hW => ⟨⟨2, (v, (va_up (va_up (va_up (va_up g 12 (upd (g 12) (nd - 1) (nI (rq1 + 1)))) 13 (upd (g 13) ((5 * (nd - 1)) + rq1) r177)) 16 (upd (g 16) ((5 * (nd - 1)) + rq1) (vp_nar .boolean 0))) 17 (upd (g 17) ((5 * (nd - 1)) + rq1) (vp_nar .boolean 0)))), rfl, ⟨MI_g (g := va_up g 12 (upd (g 12) (nd - 1) (nI (rq1 + 1)))) rfl rfl rfl rfl rfl rfl rfl rfl (MI_rq (by omega) hMI), rfl, Or.inr (Or.inr (Or.inr rfl))⟩, by rw [ht]; exact hP, hD⟩, hS.F ht⟩) hS.2.2 xd_Mo_newRequire_331
                      · refine lv_bipush (v := (-2)) hx hb xd_Mo_newRequire_261 (by decide) ?_
                        exact W.iret (v := (-2)) hx hb hr (fun t ht hW => ⟨⟨(-2), (v, g), rfl, ⟨hMI, rfl, Or.inr (Or.inl rfl)⟩, by rw [ht]; exact hP, hD⟩, hS.F ht⟩) hS.2.2 xd_Mo_newRequire_263
                  · refine lv_iconst (v := (-1)) hx hb xd_Mo_newRequire_241 (by decide) ?_
                    exact W.iret (v := (-1)) hx hb hr (fun t ht hW => ⟨⟨(-1), (v, g), rfl, ⟨hMI, rfl, Or.inl rfl⟩, by rw [ht]; exact hP, hD⟩, hS.F ht⟩) hS.2.2 xd_Mo_newRequire_242
                · refine lv_iload hx hb xd_Mo_newRequire_206 (lv_at hl 1 rfl) ?_
                  refine lv_if_ne (tgt := 223) hx hb xd_Mo_newRequire_208 (by decide) (fun hc206 => ?_) (fun hc206 => ?_)
                  · refine lv_iconst (v := 1) hx hb xd_Mo_newRequire_223 (by decide) ?_
                    refine lv_goto (tgt := 228) hx hb xd_Mo_newRequire_224 (by decide) ?_
                    refine lv_istore hx hb xd_Mo_newRequire_228 hl (Nat.le_of_ble_eq_true rfl) rfl (fun ls hl => ?_)
                    have hl : lv_has ls 8 [(6, .int 1), (7, .int (nI i)), (0, .ref h), (2, .int 0), (3, .int 0), (4, .int r177), (5, .int (nI (nd - 1)))] := hl
                    refine lv_iinc (k := 1) (x := (nI i)) (v := (nI (i + 1))) hx hb xd_Mo_newRequire_230 hl rfl (xb_inc i 1) (Nat.le_of_ble_eq_true rfl) rfl (fun ls hl => ?_)
                    have hl : lv_has ls 8 [(7, .int (nI (i + 1))), (6, .int 1), (0, .ref h), (2, .int 0), (3, .int 0), (4, .int r177), (5, .int (nI (nd - 1)))] := hl
                    refine lv_goto (tgt := 184) hx hb xd_Mo_newRequire_233 (by decide) ?_
                    exact ih193 (i + 1, 1) _ _ _ (show 5 * (nd - 1) + rq1 - (i + 1) < 5 * (nd - 1) + rq1 - i by omega) (lv_sub hl [0, 1, 2, 3, 4, 5, 6] rfl) hP hD hS ⟨(show 5 * (nd - 1) ≤ (i + 1) from by first | assumption | omega), (show (i + 1) ≤ 5 * (nd - 1) + rq1 from by first | assumption | omega)⟩
                  · refine lv_aload_n hx hb xd_Mo_newRequire_211 rfl (lv_at hl 2 rfl) ?_
                    refine va_get (D := D) (ci := 4) (v := .ref (mm 13)) (C := xR_Mo) (T := xT_Mo) (N := 31) hx hb hT xi_Mo hown hK.1 hP 0 rfl rfl 18 (by decide) (hT _ xq_13) (fun _ h9 => h9) rfl xd_Mo_newRequire_212 ?_
                    refine lv_iload hx hb xd_Mo_newRequire_215 (lv_at hl 0 rfl) ?_
                    refine xn_iald (i := i) hx hb hK.1 hP 14 0 rfl rfl (by omega) (by decide) xd_Mo_newRequire_217 ?_
                    refine lv_iload hx hb xd_Mo_newRequire_218 (lv_at hl 5 rfl) ?_
                    refine lv_icmp_ne (tgt := 227) hx hb xd_Mo_newRequire_220 (by decide) (fun hc207 => ?_) (fun hc207 => ?_)
                    · refine lv_iconst (v := 0) hx hb xd_Mo_newRequire_227 (by decide) ?_
                      refine lv_istore hx hb xd_Mo_newRequire_228 hl (Nat.le_of_ble_eq_true rfl) rfl (fun ls hl => ?_)
                      have hl : lv_has ls 8 [(6, .int 0), (7, .int (nI i)), (0, .ref h), (2, .int 0), (3, .int 0), (4, .int r177), (5, .int (nI (nd - 1)))] := hl
                      refine lv_iinc (k := 1) (x := (nI i)) (v := (nI (i + 1))) hx hb xd_Mo_newRequire_230 hl rfl (xb_inc i 1) (Nat.le_of_ble_eq_true rfl) rfl (fun ls hl => ?_)
                      have hl : lv_has ls 8 [(7, .int (nI (i + 1))), (6, .int 0), (0, .ref h), (2, .int 0), (3, .int 0), (4, .int r177), (5, .int (nI (nd - 1)))] := hl
                      refine lv_goto (tgt := 184) hx hb xd_Mo_newRequire_233 (by decide) ?_
                      exact ih193 (i + 1, 0) _ _ _ (show 5 * (nd - 1) + rq1 - (i + 1) < 5 * (nd - 1) + rq1 - i by omega) (lv_sub hl [0, 1, 2, 3, 4, 5, 6] rfl) hP hD hS ⟨(show 5 * (nd - 1) ≤ (i + 1) from by first | assumption | omega), (show (i + 1) ≤ 5 * (nd - 1) + rq1 from by first | assumption | omega)⟩
                    · refine lv_iconst (v := 1) hx hb xd_Mo_newRequire_223 (by decide) ?_
                      refine lv_goto (tgt := 228) hx hb xd_Mo_newRequire_224 (by decide) ?_
                      refine lv_istore hx hb xd_Mo_newRequire_228 hl (Nat.le_of_ble_eq_true rfl) rfl (fun ls hl => ?_)
                      have hl : lv_has ls 8 [(6, .int 1), (7, .int (nI i)), (0, .ref h), (2, .int 0), (3, .int 0), (4, .int r177), (5, .int (nI (nd - 1)))] := hl
                      refine lv_iinc (k := 1) (x := (nI i)) (v := (nI (i + 1))) hx hb xd_Mo_newRequire_230 hl rfl (xb_inc i 1) (Nat.le_of_ble_eq_true rfl) rfl (fun ls hl => ?_)
                      have hl : lv_has ls 8 [(7, .int (nI (i + 1))), (6, .int 1), (0, .ref h), (2, .int 0), (3, .int 0), (4, .int r177), (5, .int (nI (nd - 1)))] := hl
                      refine lv_goto (tgt := 184) hx hb xd_Mo_newRequire_233 (by decide) ?_
                      exact ih193 (i + 1, 1) _ _ _ (show 5 * (nd - 1) + rq1 - (i + 1) < 5 * (nd - 1) + rq1 - i by omega) (lv_sub hl [0, 1, 2, 3, 4, 5, 6] rfl) hP hD hS ⟨(show 5 * (nd - 1) ≤ (i + 1) from by first | assumption | omega), (show (i + 1) ≤ 5 * (nd - 1) + rq1 from by first | assumption | omega)⟩
              · refine lv_iconst (v := 1) hx hb xd_Mo_newRequire_171 (by decide) ?_
                refine lv_goto (tgt := 176) hx hb xd_Mo_newRequire_172 (by decide) ?_
                refine lv_istore hx hb xd_Mo_newRequire_176 hl (Nat.le_of_ble_eq_true rfl) rfl (fun ls hl => ?_)
                have hl : lv_has ls 8 [(6, .int 1), (5, .int (nI (nd - 1))), (4, .int r177), (1, .int 1), (3, .int 0), (2, .int 0), (0, .ref h)] := hl
                refine lv_iconst (v := 5) hx hb xd_Mo_newRequire_178 (by decide) ?_
                refine lv_iload hx hb xd_Mo_newRequire_179 (lv_at hl 1 rfl) ?_
                refine lv_imul hx hb xd_Mo_newRequire_181 ?_
                refine xn_top (y := nI (5 * (nd - 1))) (pk_mul 5 (nd - 1)) ?_
                refine lv_istore hx hb xd_Mo_newRequire_182 hl (Nat.le_of_ble_eq_true rfl) rfl (fun ls hl => ?_)
                have hl : lv_has ls 8 [(7, .int (nI (5 * (nd - 1)))), (6, .int 1), (5, .int (nI (nd - 1))), (4, .int r177), (1, .int 1), (3, .int 0), (2, .int 0), (0, .ref h)] := hl
                refine xlab (σ := Nat × Int32) (ml := 8) 184 (fun (i, tw) => [(7, .int (nI i)), (6, .int tw), (0, .ref h), (2, .int 0), (3, .int 0), (4, .int r177), (5, .int (nI (nd - 1)))]) (fun (i, tw) => []) (fun (i, tw) => moW h mm kA v g) (fun (i, tw) => (5 * (nd - 1) ≤ i) ∧ (i ≤ 5 * (nd - 1) + rq1)) (fun (i, tw) => 5 * (nd - 1) + rq1 - i) ?_ (5 * (nd - 1), 1) _ _ _ (lv_sub hl [0, 1, 7, 6, 5, 3, 2] rfl) hP hD hS ⟨(show 5 * (nd - 1) ≤ (5 * (nd - 1)) from by first | assumption | omega), (show (5 * (nd - 1)) ≤ 5 * (nd - 1) + rq1 from by first | assumption | omega)⟩
                intro n9 ih208 a9 ls H locs hμ hl hP hD hS hI
                subst hμ
                obtain ⟨i, tw⟩ := a9
                obtain ⟨hi1, hi2⟩ := hI
                have hi1 : 5 * (nd - 1) ≤ i := hi1
                have hi2 : i ≤ 5 * (nd - 1) + rq1 := hi2
                have hl : lv_has ls 8 [(7, .int (nI i)), (6, .int tw), (0, .ref h), (2, .int 0), (3, .int 0), (4, .int r177), (5, .int (nI (nd - 1)))] := hl
                have hP : va_P D xcl (moW h mm kA v g) H := hP
                have hD : va_D A (moW h mm kA v g) := hD
                refine lv_iload hx hb xd_Mo_newRequire_184 (lv_at hl 6 rfl) ?_
                refine xz_lt (a := nd - 1) (tgt := 236) hx hb xd_Mo_newRequire_186 (by decide) (by omega) ?_
                refine lv_iload hx hb xd_Mo_newRequire_189 (lv_at hl 0 rfl) ?_
                refine lv_iconst (v := 5) hx hb xd_Mo_newRequire_191 (by decide) ?_
                refine lv_iload hx hb xd_Mo_newRequire_192 (lv_at hl 6 rfl) ?_
                refine lv_imul hx hb xd_Mo_newRequire_194 ?_
                refine xn_top (y := nI (5 * (nd - 1))) (pk_mul 5 (nd - 1)) ?_
                refine lv_aload_n hx hb xd_Mo_newRequire_195 rfl (lv_at hl 2 rfl) ?_
                refine va_get (D := D) (ci := 4) (v := .ref (mm 12)) (C := xR_Mo) (T := xT_Mo) (N := 31) hx hb hT xi_Mo hown hK.1 hP 0 rfl rfl 17 (by decide) (hT _ xq_12) (fun _ h9 => h9) rfl xd_Mo_newRequire_196 ?_
                refine lv_iload hx hb xd_Mo_newRequire_199 (lv_at hl 6 rfl) ?_
                refine xn_iald (i := nd - 1) hx hb hK.1 hP 13 0 rfl rfl (by omega) (by decide) xd_Mo_newRequire_201 ?_
                refine xn_top (x := (g 12 (nd - 1))) (y := nI rq1) erq1 ?_
                refine lv_iadd hx hb xd_Mo_newRequire_202 ?_
                refine xn_top (y := nI ((5 * (nd - 1)) + rq1)) (nI_add (5 * (nd - 1)) rq1) ?_
                refine xn_ge (a := i) (b := (5 * (nd - 1)) + rq1) (tgt := 236) hx hb xd_Mo_newRequire_203 (by decide) (by omega) (by omega) (fun hc210 => ?_) (fun hc210 => ?_)
                · refine lv_iload hx hb xd_Mo_newRequire_236 (lv_at hl 1 rfl) ?_
                  refine lv_if_eq (tgt := 243) hx hb xd_Mo_newRequire_238 (by decide) (fun hc211 => ?_) (fun hc211 => ?_)
                  · refine lv_aload_n hx hb xd_Mo_newRequire_243 rfl (lv_at hl 2 rfl) ?_
                    have hFc := va_free (wc := (moW h mm kA v g)) hD hS hA [0, 1, 2, 3, 4, 5, 6, 7, 8, 9, 10, 11, 12, 13, 14, 15, 16, 17, 18, 19, 20, 21, 22, 23, 24, 25] rfl
                    refine va_calli (va_runV (As := []) (rest := []) ⟨hx, hb, hml, hown, hT⟩ (xc_Mo_isShut l D kA H.size h mm v g nd (by first | assumption | omega) (by first | assumption | omega)) (cwV 0 hT (wT_V xq_8 xq_9 xq_10 xq_5 xq_7) rfl rfl rfl (by decide +kernel) ⟨Nat.le_of_ble_eq_true rfl, Nat.le_of_ble_eq_true rfl⟩) (x_preV hK hP hD 0 rfl rfl) rfl rfl hl.1 rfl (lv_room (Nat.le_of_ble_eq_true rfl)) xd_Mo_newRequire_244 ⟨Nat.le_of_ble_eq_true rfl, Nat.le_of_ble_eq_true rfl⟩) hS (fun q _ h => hFc q h) hFc (fun r212 u213 t H1 locs ht hvm hp214 hB hz1 hk1 hS => ?_)
                    obtain ⟨hP1, hD1⟩ := hB
                    rw [ht] at hP1
                    have hD1 := hD1.weaken (fun _ _ _ h => hFc _ h)
                    generalize H1 = H at hP1 hS ⊢
                    have hP := hP1
                    have hD := hD1
                    have hP : va_P D xcl (moW h mm kA v g) H := hP
                    have hD : va_D A (moW h mm kA v g) := hD
                    rcases hp214 with ⟨rfl, z215⟩ | ⟨rfl, z216, z217⟩
                    · refine xz_ne (a := 1) (tgt := 261) hx hb xd_Mo_newRequire_247 (by decide) (by omega) (fun _ => ?_) (fun hc218 => absurd hc218 (by omega))
                      refine lv_bipush (v := (-2)) hx hb xd_Mo_newRequire_261 (by decide) ?_
                      exact W.iret (v := (-2)) hx hb hr (fun t ht hW => ⟨⟨(-2), (v, g), rfl, ⟨hMI, rfl, Or.inr (Or.inl rfl)⟩, by rw [ht]; exact hP, hD⟩, hS.F ht⟩) hS.2.2 xd_Mo_newRequire_263
                    · refine xz_ne (a := 0) (tgt := 261) hx hb xd_Mo_newRequire_247 (by decide) (by omega) (fun hc219 => absurd hc219 (by omega)) (fun _ => ?_)
                      refine lv_aload_n hx hb xd_Mo_newRequire_250 rfl (lv_at hl 2 rfl) ?_
                      refine va_get (D := D) (ci := 4) (v := .ref (mm 12)) (C := xR_Mo) (T := xT_Mo) (N := 31) hx hb hT xi_Mo hown hK.1 hP 0 rfl rfl 17 (by decide) (hT _ xq_12) (fun _ h9 => h9) rfl xd_Mo_newRequire_251 ?_
                      refine lv_iload hx hb xd_Mo_newRequire_254 (lv_at hl 6 rfl) ?_
                      refine xn_iald (i := nd - 1) hx hb hK.1 hP 13 0 rfl rfl (by omega) (by decide) xd_Mo_newRequire_256 ?_
                      refine xn_top (x := (g 12 (nd - 1))) (y := nI rq1) erq1 ?_
                      refine lv_iconst (v := 5) hx hb xd_Mo_newRequire_257 (by decide) ?_
                      refine xn_ne (a := rq1) (b := 5) (tgt := 264) hx hb xd_Mo_newRequire_258 (by decide) (by omega) (by omega) (fun hc220 => ?_) (fun hc220 => ?_)
                      · refine lv_aload_n hx hb xd_Mo_newRequire_264 rfl (lv_at hl 2 rfl) ?_
                        refine va_get (D := D) (ci := 4) (v := .ref (mm 13)) (C := xR_Mo) (T := xT_Mo) (N := 31) hx hb hT xi_Mo hown hK.1 hP 0 rfl rfl 18 (by decide) (hT _ xq_13) (fun _ h9 => h9) rfl xd_Mo_newRequire_265 ?_
                        refine lv_iconst (v := 5) hx hb xd_Mo_newRequire_268 (by decide) ?_
                        refine lv_iload hx hb xd_Mo_newRequire_269 (lv_at hl 6 rfl) ?_
                        refine lv_imul hx hb xd_Mo_newRequire_271 ?_
                        refine xn_top (y := nI (5 * (nd - 1))) (pk_mul 5 (nd - 1)) ?_
                        refine lv_aload_n hx hb xd_Mo_newRequire_272 rfl (lv_at hl 2 rfl) ?_
                        refine va_get (D := D) (ci := 4) (v := .ref (mm 12)) (C := xR_Mo) (T := xT_Mo) (N := 31) hx hb hT xi_Mo hown hK.1 hP 0 rfl rfl 17 (by decide) (hT _ xq_12) (fun _ h9 => h9) rfl xd_Mo_newRequire_273 ?_
                        refine lv_iload hx hb xd_Mo_newRequire_276 (lv_at hl 6 rfl) ?_
                        refine xn_iald (i := nd - 1) hx hb hK.1 hP 13 0 rfl rfl (by omega) (by decide) xd_Mo_newRequire_278 ?_
                        refine xn_top (x := (g 12 (nd - 1))) (y := nI rq1) erq1 ?_
                        refine lv_iadd hx hb xd_Mo_newRequire_279 ?_
                        refine xn_top (y := nI ((5 * (nd - 1)) + rq1)) (nI_add (5 * (nd - 1)) rq1) ?_
                        refine lv_iload hx hb xd_Mo_newRequire_280 (lv_at hl 5 rfl) ?_
                        refine xn_iast (i := (5 * (nd - 1)) + rq1) hx hb hK.1 hP hD hS 14 0 rfl rfl (by omega) (by decide) xd_Mo_newRequire_282 (fun H locs hP hD hS => ?_)
                        have hP : va_P D xcl (moW h mm kA v (va_up g 13 (upd (g 13) ((5 * (nd - 1)) + rq1) r177))) H := hP
                        have hD : va_D A (moW h mm kA v (va_up g 13 (upd (g 13) ((5 * (nd - 1)) + rq1) r177))) := hD
                        refine lv_aload_n hx hb xd_Mo_newRequire_283 rfl (lv_at hl 2 rfl) ?_
                        refine va_get (D := D) (ci := 4) (v := .ref (mm 16)) (C := xR_Mo) (T := xT_Mo) (N := 31) hx hb hT xi_Mo hown hK.1 hP 0 rfl rfl 21 (by decide) (hT _ xq_14) (fun _ h9 => h9) rfl xd_Mo_newRequire_284 ?_
                        refine lv_iconst (v := 5) hx hb xd_Mo_newRequire_287 (by decide) ?_
                        refine lv_iload hx hb xd_Mo_newRequire_288 (lv_at hl 6 rfl) ?_
                        refine lv_imul hx hb xd_Mo_newRequire_290 ?_
                        refine xn_top (y := nI (5 * (nd - 1))) (pk_mul 5 (nd - 1)) ?_
                        refine lv_aload_n hx hb xd_Mo_newRequire_291 rfl (lv_at hl 2 rfl) ?_
                        refine va_get (D := D) (ci := 4) (v := .ref (mm 12)) (C := xR_Mo) (T := xT_Mo) (N := 31) hx hb hT xi_Mo hown hK.1 hP 0 rfl rfl 17 (by decide) (hT _ xq_12) (fun _ h9 => h9) rfl xd_Mo_newRequire_292 ?_
                        refine lv_iload hx hb xd_Mo_newRequire_295 (lv_at hl 6 rfl) ?_
                        refine xn_iald (i := nd - 1) hx hb hK.1 hP 13 0 rfl rfl (by omega) (by decide) xd_Mo_newRequire_297 ?_
                        refine xn_top (x := (g 12 (nd - 1))) (y := nI rq1) erq1 ?_
                        refine lv_iadd hx hb xd_Mo_newRequire_298 ?_
                        refine xn_top (y := nI ((5 * (nd - 1)) + rq1)) (nI_add (5 * (nd - 1)) rq1) ?_
                        refine lv_iload_n hx hb xd_Mo_newRequire_299 rfl (lv_at hl 3 rfl) ?_
                        refine xn_zast (i := (5 * (nd - 1)) + rq1) hx hb hK.1 hP hD hS 17 2 rfl rfl (by omega) (by decide) xd_Mo_newRequire_300 (fun H locs hP hD hS => ?_)
                        have hP : va_P D xcl (moW h mm kA v (va_up (va_up g 13 (upd (g 13) ((5 * (nd - 1)) + rq1) r177)) 16 (upd (g 16) ((5 * (nd - 1)) + rq1) (vp_nar .boolean 0)))) H := hP
                        have hD : va_D A (moW h mm kA v (va_up (va_up g 13 (upd (g 13) ((5 * (nd - 1)) + rq1) r177)) 16 (upd (g 16) ((5 * (nd - 1)) + rq1) (vp_nar .boolean 0)))) := hD
                        refine lv_aload_n hx hb xd_Mo_newRequire_301 rfl (lv_at hl 2 rfl) ?_
                        refine va_get (D := D) (ci := 4) (v := .ref (mm 17)) (C := xR_Mo) (T := xT_Mo) (N := 31) hx hb hT xi_Mo hown hK.1 hP 0 rfl rfl 22 (by decide) (hT _ xq_15) (fun _ h9 => h9) rfl xd_Mo_newRequire_302 ?_
                        refine lv_iconst (v := 5) hx hb xd_Mo_newRequire_305 (by decide) ?_
                        refine lv_iload hx hb xd_Mo_newRequire_306 (lv_at hl 6 rfl) ?_
                        refine lv_imul hx hb xd_Mo_newRequire_308 ?_
                        refine xn_top (y := nI (5 * (nd - 1))) (pk_mul 5 (nd - 1)) ?_
                        refine lv_aload_n hx hb xd_Mo_newRequire_309 rfl (lv_at hl 2 rfl) ?_
                        refine va_get (D := D) (ci := 4) (v := .ref (mm 12)) (C := xR_Mo) (T := xT_Mo) (N := 31) hx hb hT xi_Mo hown hK.1 hP 0 rfl rfl 17 (by decide) (hT _ xq_12) (fun _ h9 => h9) rfl xd_Mo_newRequire_310 ?_
                        refine lv_iload hx hb xd_Mo_newRequire_313 (lv_at hl 6 rfl) ?_
                        refine xn_iald (i := nd - 1) hx hb hK.1 hP 13 0 rfl rfl (by omega) (by decide) xd_Mo_newRequire_315 ?_
                        refine xn_top (x := (g 12 (nd - 1))) (y := nI rq1) erq1 ?_
                        refine lv_iadd hx hb xd_Mo_newRequire_316 ?_
                        refine xn_top (y := nI ((5 * (nd - 1)) + rq1)) (nI_add (5 * (nd - 1)) rq1) ?_
                        refine lv_iload_n hx hb xd_Mo_newRequire_317 rfl (lv_at hl 4 rfl) ?_
                        refine xn_zast (i := (5 * (nd - 1)) + rq1) hx hb hK.1 hP hD hS 18 2 rfl rfl (by omega) (by decide) xd_Mo_newRequire_318 (fun H locs hP hD hS => ?_)
                        have hP : va_P D xcl (moW h mm kA v (va_up (va_up (va_up g 13 (upd (g 13) ((5 * (nd - 1)) + rq1) r177)) 16 (upd (g 16) ((5 * (nd - 1)) + rq1) (vp_nar .boolean 0))) 17 (upd (g 17) ((5 * (nd - 1)) + rq1) (vp_nar .boolean 0)))) H := hP
                        have hD : va_D A (moW h mm kA v (va_up (va_up (va_up g 13 (upd (g 13) ((5 * (nd - 1)) + rq1) r177)) 16 (upd (g 16) ((5 * (nd - 1)) + rq1) (vp_nar .boolean 0))) 17 (upd (g 17) ((5 * (nd - 1)) + rq1) (vp_nar .boolean 0)))) := hD
                        refine lv_aload_n hx hb xd_Mo_newRequire_319 rfl (lv_at hl 2 rfl) ?_
                        refine va_get (D := D) (ci := 4) (v := .ref (mm 12)) (C := xR_Mo) (T := xT_Mo) (N := 31) hx hb hT xi_Mo hown hK.1 hP 0 rfl rfl 17 (by decide) (hT _ xq_12) (fun _ h9 => h9) rfl xd_Mo_newRequire_320 ?_
                        refine lv_iload hx hb xd_Mo_newRequire_323 (lv_at hl 6 rfl) ?_
                        refine lv_dup2_11 hx hb xd_Mo_newRequire_325 rfl rfl ?_
                        refine xn_iald (i := nd - 1) hx hb hK.1 hP 13 0 rfl rfl (by omega) (by decide) xd_Mo_newRequire_326 ?_
                        refine xn_top (x := (g 12 (nd - 1))) (y := nI rq1) erq1 ?_
                        refine lv_iconst (v := 1) hx hb xd_Mo_newRequire_327 (by decide) ?_
                        refine lv_iadd hx hb xd_Mo_newRequire_328 ?_
                        refine xn_top (y := nI (rq1 + 1)) (nI_add rq1 1) ?_
                        refine xn_iast (i := nd - 1) hx hb hK.1 hP hD hS 13 0 rfl rfl (by omega) (by decide) xd_Mo_newRequire_329 (fun H locs hP hD hS => ?_)
                        have hP : va_P D xcl (moW h mm kA v (va_up (va_up (va_up (va_up g 12 (upd (g 12) (nd - 1) (nI (rq1 + 1)))) 13 (upd (g 13) ((5 * (nd - 1)) + rq1) r177)) 16 (upd (g 16) ((5 * (nd - 1)) + rq1) (vp_nar .boolean 0))) 17 (upd (g 17) ((5 * (nd - 1)) + rq1) (vp_nar .boolean 0)))) H := hP
                        have hD : va_D A (moW h mm kA v (va_up (va_up (va_up (va_up g 12 (upd (g 12) (nd - 1) (nI (rq1 + 1)))) 13 (upd (g 13) ((5 * (nd - 1)) + rq1) r177)) 16 (upd (g 16) ((5 * (nd - 1)) + rq1) (vp_nar .boolean 0))) 17 (upd (g 17) ((5 * (nd - 1)) + rq1) (vp_nar .boolean 0)))) := hD
                        refine lv_iconst (v := 2) hx hb xd_Mo_newRequire_330 (by decide) ?_
                        exact W.iret (v := 2) hx hb hr (fun t ht hW => ⟨⟨2, (v, (va_up (va_up (va_up (va_up g 12 (upd (g 12) (nd - 1) (nI (rq1 + 1)))) 13 (upd (g 13) ((5 * (nd - 1)) + rq1) r177)) 16 (upd (g 16) ((5 * (nd - 1)) + rq1) (vp_nar .boolean 0))) 17 (upd (g 17) ((5 * (nd - 1)) + rq1) (vp_nar .boolean 0)))), rfl, ⟨MI_g (g := va_up g 12 (upd (g 12) (nd - 1) (nI (rq1 + 1)))) rfl rfl rfl rfl rfl rfl rfl rfl (MI_rq (by omega) hMI), rfl, Or.inr (Or.inr (Or.inr rfl))⟩, by rw [ht]; exact hP, hD⟩, hS.F ht⟩) hS.2.2 xd_Mo_newRequire_331
                      · refine lv_bipush (v := (-2)) hx hb xd_Mo_newRequire_261 (by decide) ?_
                        exact W.iret (v := (-2)) hx hb hr (fun t ht hW => ⟨⟨(-2), (v, g), rfl, ⟨hMI, rfl, Or.inr (Or.inl rfl)⟩, by rw [ht]; exact hP, hD⟩, hS.F ht⟩) hS.2.2 xd_Mo_newRequire_263
                  · refine lv_iconst (v := (-1)) hx hb xd_Mo_newRequire_241 (by decide) ?_
                    exact W.iret (v := (-1)) hx hb hr (fun t ht hW => ⟨⟨(-1), (v, g), rfl, ⟨hMI, rfl, Or.inl rfl⟩, by rw [ht]; exact hP, hD⟩, hS.F ht⟩) hS.2.2 xd_Mo_newRequire_242
                · refine lv_iload hx hb xd_Mo_newRequire_206 (lv_at hl 1 rfl) ?_
                  refine lv_if_ne (tgt := 223) hx hb xd_Mo_newRequire_208 (by decide) (fun hc221 => ?_) (fun hc221 => ?_)
                  · refine lv_iconst (v := 1) hx hb xd_Mo_newRequire_223 (by decide) ?_
                    refine lv_goto (tgt := 228) hx hb xd_Mo_newRequire_224 (by decide) ?_
                    refine lv_istore hx hb xd_Mo_newRequire_228 hl (Nat.le_of_ble_eq_true rfl) rfl (fun ls hl => ?_)
                    have hl : lv_has ls 8 [(6, .int 1), (7, .int (nI i)), (0, .ref h), (2, .int 0), (3, .int 0), (4, .int r177), (5, .int (nI (nd - 1)))] := hl
                    refine lv_iinc (k := 1) (x := (nI i)) (v := (nI (i + 1))) hx hb xd_Mo_newRequire_230 hl rfl (xb_inc i 1) (Nat.le_of_ble_eq_true rfl) rfl (fun ls hl => ?_)
                    have hl : lv_has ls 8 [(7, .int (nI (i + 1))), (6, .int 1), (0, .ref h), (2, .int 0), (3, .int 0), (4, .int r177), (5, .int (nI (nd - 1)))] := hl
                    refine lv_goto (tgt := 184) hx hb xd_Mo_newRequire_233 (by decide) ?_
                    exact ih208 (i + 1, 1) _ _ _ (show 5 * (nd - 1) + rq1 - (i + 1) < 5 * (nd - 1) + rq1 - i by omega) (lv_sub hl [0, 1, 2, 3, 4, 5, 6] rfl) hP hD hS ⟨(show 5 * (nd - 1) ≤ (i + 1) from by first | assumption | omega), (show (i + 1) ≤ 5 * (nd - 1) + rq1 from by first | assumption | omega)⟩
                  · refine lv_aload_n hx hb xd_Mo_newRequire_211 rfl (lv_at hl 2 rfl) ?_
                    refine va_get (D := D) (ci := 4) (v := .ref (mm 13)) (C := xR_Mo) (T := xT_Mo) (N := 31) hx hb hT xi_Mo hown hK.1 hP 0 rfl rfl 18 (by decide) (hT _ xq_13) (fun _ h9 => h9) rfl xd_Mo_newRequire_212 ?_
                    refine lv_iload hx hb xd_Mo_newRequire_215 (lv_at hl 0 rfl) ?_
                    refine xn_iald (i := i) hx hb hK.1 hP 14 0 rfl rfl (by omega) (by decide) xd_Mo_newRequire_217 ?_
                    refine lv_iload hx hb xd_Mo_newRequire_218 (lv_at hl 5 rfl) ?_
                    refine lv_icmp_ne (tgt := 227) hx hb xd_Mo_newRequire_220 (by decide) (fun hc222 => ?_) (fun hc222 => ?_)
                    · refine lv_iconst (v := 0) hx hb xd_Mo_newRequire_227 (by decide) ?_
                      refine lv_istore hx hb xd_Mo_newRequire_228 hl (Nat.le_of_ble_eq_true rfl) rfl (fun ls hl => ?_)
                      have hl : lv_has ls 8 [(6, .int 0), (7, .int (nI i)), (0, .ref h), (2, .int 0), (3, .int 0), (4, .int r177), (5, .int (nI (nd - 1)))] := hl
                      refine lv_iinc (k := 1) (x := (nI i)) (v := (nI (i + 1))) hx hb xd_Mo_newRequire_230 hl rfl (xb_inc i 1) (Nat.le_of_ble_eq_true rfl) rfl (fun ls hl => ?_)
                      have hl : lv_has ls 8 [(7, .int (nI (i + 1))), (6, .int 0), (0, .ref h), (2, .int 0), (3, .int 0), (4, .int r177), (5, .int (nI (nd - 1)))] := hl
                      refine lv_goto (tgt := 184) hx hb xd_Mo_newRequire_233 (by decide) ?_
                      exact ih208 (i + 1, 0) _ _ _ (show 5 * (nd - 1) + rq1 - (i + 1) < 5 * (nd - 1) + rq1 - i by omega) (lv_sub hl [0, 1, 2, 3, 4, 5, 6] rfl) hP hD hS ⟨(show 5 * (nd - 1) ≤ (i + 1) from by first | assumption | omega), (show (i + 1) ≤ 5 * (nd - 1) + rq1 from by first | assumption | omega)⟩
                    · refine lv_iconst (v := 1) hx hb xd_Mo_newRequire_223 (by decide) ?_
                      refine lv_goto (tgt := 228) hx hb xd_Mo_newRequire_224 (by decide) ?_
                      refine lv_istore hx hb xd_Mo_newRequire_228 hl (Nat.le_of_ble_eq_true rfl) rfl (fun ls hl => ?_)
                      have hl : lv_has ls 8 [(6, .int 1), (7, .int (nI i)), (0, .ref h), (2, .int 0), (3, .int 0), (4, .int r177), (5, .int (nI (nd - 1)))] := hl
                      refine lv_iinc (k := 1) (x := (nI i)) (v := (nI (i + 1))) hx hb xd_Mo_newRequire_230 hl rfl (xb_inc i 1) (Nat.le_of_ble_eq_true rfl) rfl (fun ls hl => ?_)
                      have hl : lv_has ls 8 [(7, .int (nI (i + 1))), (6, .int 1), (0, .ref h), (2, .int 0), (3, .int 0), (4, .int r177), (5, .int (nI (nd - 1)))] := hl
                      refine lv_goto (tgt := 184) hx hb xd_Mo_newRequire_233 (by decide) ?_
                      exact ih208 (i + 1, 1) _ _ _ (show 5 * (nd - 1) + rq1 - (i + 1) < 5 * (nd - 1) + rq1 - i by omega) (lv_sub hl [0, 1, 2, 3, 4, 5, 6] rfl) hP hD hS ⟨(show 5 * (nd - 1) ≤ (i + 1) from by first | assumption | omega), (show (i + 1) ≤ 5 * (nd - 1) + rq1 from by first | assumption | omega)⟩
          · refine lv_iconst (v := (-1)) hx hb xd_Mo_newRequire_144 (by decide) ?_
            exact W.iret (v := (-1)) hx hb hr (fun t ht hW => ⟨⟨(-1), (v, g), rfl, ⟨hMI, rfl, Or.inl rfl⟩, by rw [ht]; exact hP, hD⟩, hS.F ht⟩) hS.2.2 xd_Mo_newRequire_145
      · refine lv_aload_n hx hb xd_Mo_newRequire_70 rfl (lv_at hl 2 rfl) ?_
        refine lv_iload_n hx hb xd_Mo_newRequire_71 rfl (lv_at hl 0 rfl) ?_
        refine lv_bipush (v := 115) hx hb xd_Mo_newRequire_72 (by decide) ?_
        refine lv_bipush (v := 116) hx hb xd_Mo_newRequire_74 (by decide) ?_
        refine lv_bipush (v := 97) hx hb xd_Mo_newRequire_76 (by decide) ?_
        refine lv_bipush (v := 116) hx hb xd_Mo_newRequire_78 (by decide) ?_
        refine lv_bipush (v := 105) hx hb xd_Mo_newRequire_80 (by decide) ?_
        have hFc := va_free (wc := (moW h mm kA v g)) hD hS hA [0, 1, 2, 3, 4, 5, 6, 7, 8, 9, 10, 11, 12, 13, 14, 15, 16, 17, 18, 19, 20, 21, 22, 23, 24, 25] rfl
        refine va_calli (va_runS (As := [.int 115, .int 116, .int 97, .int 116, .int 105]) (rest := [.int 1, .ref h]) ⟨hx, hb, hml, hown, hT⟩ (xc_Mo_code l D kA H.size h mm v g 115 116 97 116 105) (cwS 5 hT (wT_S0 xq_17 xq_18 xq_5 xq_16) rfl rfl rfl (by decide +kernel) ⟨Nat.le_of_ble_eq_true rfl, Nat.le_of_ble_eq_true rfl⟩) (x_preS hK hP hD) rfl rfl hl.1 rfl (lv_room (Nat.le_of_ble_eq_true rfl)) xd_Mo_newRequire_82 ⟨Nat.le_of_ble_eq_true rfl, Nat.le_of_ble_eq_true rfl⟩) hS (fun q _ h => hFc q h) hFc (fun r223 u224 t H1 locs ht hvm hp225 hB hz1 hk1 hS => ?_)
        obtain ⟨hP1, hD1⟩ := hB
        rw [ht] at hP1
        have hD1 := hD1.weaken (fun _ _ _ h => hFc _ h)
        generalize H1 = H at hP1 hS ⊢
        have hP := hP1
        have hD := hD1
        have hP : va_P D xcl (moW h mm kA v g) H := hP
        have hD : va_D A (moW h mm kA v g) := hD
        refine lv_bipush (v := 99) hx hb xd_Mo_newRequire_85 (by decide) ?_
        refine lv_iconst (v := 0) hx hb xd_Mo_newRequire_87 (by decide) ?_
        refine lv_iconst (v := 0) hx hb xd_Mo_newRequire_88 (by decide) ?_
        refine lv_iconst (v := 0) hx hb xd_Mo_newRequire_89 (by decide) ?_
        refine lv_iconst (v := 0) hx hb xd_Mo_newRequire_90 (by decide) ?_
        have hFc := va_free (wc := (moW h mm kA v g)) hD hS hA [0, 1, 2, 3, 4, 5, 6, 7, 8, 9, 10, 11, 12, 13, 14, 15, 16, 17, 18, 19, 20, 21, 22, 23, 24, 25] rfl
        refine va_calli (va_runS (As := [.int 99, .int 0, .int 0, .int 0, .int 0]) (rest := [.int r223, .int 1, .ref h]) ⟨hx, hb, hml, hown, hT⟩ (xc_Mo_code l D kA H.size h mm v g 99 0 0 0 0) (cwS 5 hT (wT_S0 xq_17 xq_18 xq_5 xq_16) rfl rfl rfl (by decide +kernel) ⟨Nat.le_of_ble_eq_true rfl, Nat.le_of_ble_eq_true rfl⟩) (x_preS hK hP hD) rfl rfl hl.1 rfl (lv_room (Nat.le_of_ble_eq_true rfl)) xd_Mo_newRequire_91 ⟨Nat.le_of_ble_eq_true rfl, Nat.le_of_ble_eq_true rfl⟩) hS (fun q _ h => hFc q h) hFc (fun r226 u227 t H1 locs ht hvm hp228 hB hz1 hk1 hS => ?_)
        obtain ⟨hP1, hD1⟩ := hB
        rw [ht] at hP1
        have hD1 := hD1.weaken (fun _ _ _ h => hFc _ h)
        generalize H1 = H at hP1 hS ⊢
        have hP := hP1
        have hD := hD1
        have hP : va_P D xcl (moW h mm kA v g) H := hP
        have hD : va_D A (moW h mm kA v g) := hD
        have hFc := va_free (wc := (moW h mm kA v g)) hD hS hA [0, 1, 2, 3, 4, 5, 6, 7, 8, 9, 10, 11, 12, 13, 14, 15, 16, 17, 18, 19, 20, 21, 22, 23, 24, 25] rfl
        refine va_calli (va_runV (As := [.int 1, .int r223, .int r226]) (rest := []) ⟨hx, hb, hml, hown, hT⟩ (xc_Mo_says l D kA H.size h mm v g 1 b1 e1 r223 r226 (by first | assumption | omega) (by first | assumption | omega) (by first | assumption | omega) (by first | assumption | omega) (by first | assumption | omega) (by first | assumption | omega)) (cwV 3 hT (wT_V xq_20 xq_21 xq_22 xq_5 xq_19) rfl rfl rfl (by decide +kernel) ⟨Nat.le_of_ble_eq_true rfl, Nat.le_of_ble_eq_true rfl⟩) (x_preV hK hP hD 0 rfl rfl) rfl rfl hl.1 rfl (lv_room (Nat.le_of_ble_eq_true rfl)) xd_Mo_newRequire_94 ⟨Nat.le_of_ble_eq_true rfl, Nat.le_of_ble_eq_true rfl⟩) hS (fun q _ h => hFc q h) hFc (fun r229 u230 t H1 locs ht hvm hp231 hB hz1 hk1 hS => ?_)
        obtain ⟨hP1, hD1⟩ := hB
        rw [ht] at hP1
        have hD1 := hD1.weaken (fun _ _ _ h => hFc _ h)
        generalize H1 = H at hP1 hS ⊢
        have hP := hP1
        have hD := hD1
        have hP : va_P D xcl (moW h mm kA v g) H := hP
        have hD : va_D A (moW h mm kA v g) := hD
        rcases hp231 with rfl | rfl
        · refine xz_eq (a := 0) (tgt := 104) hx hb xd_Mo_newRequire_97 (by decide) (by omega) (fun _ => ?_) (fun hc232 => absurd hc232 (by omega))
          refine lv_iconst (v := 0) hx hb xd_Mo_newRequire_104 (by decide) ?_
          refine lv_istore_n hx hb xd_Mo_newRequire_105 rfl hl (Nat.le_of_ble_eq_true rfl) rfl (fun ls hl => ?_)
          have hl : lv_has ls 8 [(3, .int 0), (1, .int 1), (2, .int 0), (0, .ref h)] := hl
          refine lv_iload_n hx hb xd_Mo_newRequire_106 rfl (lv_at hl 0 rfl) ?_
          refine xz_eq (a := 0) (tgt := 116) hx hb xd_Mo_newRequire_107 (by decide) (by omega) (fun _ => ?_) (fun hc233 => absurd hc233 (by omega))
          refine lv_iload_n hx hb xd_Mo_newRequire_116 rfl (lv_at hl 1 rfl) ?_
          refine lv_istore_n hx hb xd_Mo_newRequire_117 rfl hl (Nat.le_of_ble_eq_true rfl) rfl (fun ls hl => ?_)
          have hl : lv_has ls 8 [(1, .int 1), (3, .int 0), (2, .int 0), (0, .ref h)] := hl
          refine lv_aload_n hx hb xd_Mo_newRequire_118 rfl (lv_at hl 3 rfl) ?_
          refine va_get (D := D) (ci := 4) (v := .int (v 3)) (C := xR_Mo) (T := xT_Mo) (N := 31) hx hb hT xi_Mo hown hK.1 hP 0 rfl rfl 4 (by decide) (hT _ xq_0) (fun _ h9 => h9) rfl xd_Mo_newRequire_119 ?_
          refine xn_top (x := (v 3)) (y := nI wn) hwn ?_
          refine lv_iload_n hx hb xd_Mo_newRequire_122 rfl (lv_at hl 0 rfl) ?_
          refine lv_iconst (v := 1) hx hb xd_Mo_newRequire_123 (by decide) ?_
          refine lv_iadd hx hb xd_Mo_newRequire_124 ?_
          refine xn_top (y := nI (2)) (nI_add 1 1) ?_
          refine xn_ne (a := wn) (b := 2) (tgt := 136) hx hb xd_Mo_newRequire_125 (by decide) (by omega) (by omega) (fun hc234 => ?_) (fun hc234 => ?_)
          · refine lv_iconst (v := 0) hx hb xd_Mo_newRequire_136 (by decide) ?_
            refine lv_istore hx hb xd_Mo_newRequire_137 hl (Nat.le_of_ble_eq_true rfl) rfl (fun ls hl => ?_)
            have hl : lv_has ls 8 [(4, .int 0), (1, .int 1), (3, .int 0), (2, .int 0), (0, .ref h)] := hl
            refine lv_iload hx hb xd_Mo_newRequire_139 (lv_at hl 0 rfl) ?_
            refine xz_ne (a := 0) (tgt := 146) hx hb xd_Mo_newRequire_141 (by decide) (by omega) (fun hc235 => absurd hc235 (by omega)) (fun _ => ?_)
            refine lv_iconst (v := (-1)) hx hb xd_Mo_newRequire_144 (by decide) ?_
            exact W.iret (v := (-1)) hx hb hr (fun t ht hW => ⟨⟨(-1), (v, g), rfl, ⟨hMI, rfl, Or.inl rfl⟩, by rw [ht]; exact hP, hD⟩, hS.F ht⟩) hS.2.2 xd_Mo_newRequire_145
          · refine lv_aload_n hx hb xd_Mo_newRequire_128 rfl (lv_at hl 3 rfl) ?_
            refine lv_iload_n hx hb xd_Mo_newRequire_129 rfl (lv_at hl 0 rfl) ?_
            have hFc := va_free (wc := (moW h mm kA v g)) hD hS hA [0, 1, 2, 3, 4, 5, 6, 7, 8, 9, 10, 11, 12, 13, 14, 15, 16, 17, 18, 19, 20, 21, 22, 23, 24, 25] rfl
            refine va_calli (va_runV (As := [.int 1]) (rest := []) ⟨hx, hb, hml, hown, hT⟩ (xc_Mo_nameOf l D kA H.size h mm v g 1 b1 e1 (by first | assumption | omega) (by first | assumption | omega) (by first | assumption | omega) (by first | assumption | omega) (by first | assumption | omega)) (cwV 1 hT (wT_V xq_2 xq_3 xq_4 xq_5 xq_1) rfl rfl rfl (by decide +kernel) ⟨Nat.le_of_ble_eq_true rfl, Nat.le_of_ble_eq_true rfl⟩) (x_preV hK hP hD 0 rfl rfl) rfl rfl hl.1 rfl (lv_room (Nat.le_of_ble_eq_true rfl)) xd_Mo_newRequire_130 ⟨Nat.le_of_ble_eq_true rfl, Nat.le_of_ble_eq_true rfl⟩) hS (fun q _ h => hFc q h) hFc (fun r236 u237 t H1 locs ht hvm hp238 hB hz1 hk1 hS => ?_)
            obtain ⟨hP1, hD1⟩ := hB
            rw [ht] at hP1
            have hD1 := hD1.weaken (fun _ _ _ h => hFc _ h)
            generalize H1 = H at hP1 hS ⊢
            have hP := hP1
            have hD := hD1
            have hP : va_P D xcl (moW h mm kA v g) H := hP
            have hD : va_D A (moW h mm kA v g) := hD
            refine lv_goto (tgt := 137) hx hb xd_Mo_newRequire_133 (by decide) ?_
            refine lv_istore hx hb xd_Mo_newRequire_137 hl (Nat.le_of_ble_eq_true rfl) rfl (fun ls hl => ?_)
            have hl : lv_has ls 8 [(4, .int r236), (1, .int 1), (3, .int 0), (2, .int 0), (0, .ref h)] := hl
            refine lv_iload hx hb xd_Mo_newRequire_139 (lv_at hl 0 rfl) ?_
            refine lv_if_ne (tgt := 146) hx hb xd_Mo_newRequire_141 (by decide) (fun hc239 => ?_) (fun hc239 => ?_)
            · rcases Nat.eq_zero_or_pos nd with hz | hz
              · have hnd0 : v 4 = nI 0 := by rw [hnd, hz]
                refine lv_aload_n hx hb xd_Mo_newRequire_146 rfl (lv_at hl 4 rfl) ?_
                refine va_get (D := D) (ci := 4) (v := .int (v 4)) (C := xR_Mo) (T := xT_Mo) (N := 31) hx hb hT xi_Mo hown hK.1 hP 0 rfl rfl 7 (by decide) (hT _ xq_6) (fun _ h9 => h9) rfl xd_Mo_newRequire_147 ?_
                refine xn_top (x := (v 4)) (y := nI 0) hnd0 ?_
                refine lv_iconst (v := 1) hx hb xd_Mo_newRequire_150 (by decide) ?_
                refine lv_isub hx hb xd_Mo_newRequire_151 ?_
                refine lv_istore hx hb xd_Mo_newRequire_152 hl (Nat.le_of_ble_eq_true rfl) rfl (fun ls hl => ?_)
                have hl : lv_has ls 8 [(5, .int ((nI 0) - 1)), (4, .int r236), (1, .int 1), (3, .int 0), (2, .int 0), (0, .ref h)] := hl
                refine lv_iload hx hb xd_Mo_newRequire_154 (lv_at hl 0 rfl) ?_
                refine lv_if_lt (tgt := 175) hx hb xd_Mo_newRequire_156 (by decide) (fun _ => ?_) (fun hc240 => absurd hc240 (by decide))
                refine lv_iconst (v := 0) hx hb xd_Mo_newRequire_175 (by decide) ?_
                refine lv_istore hx hb xd_Mo_newRequire_176 hl (Nat.le_of_ble_eq_true rfl) rfl (fun ls hl => ?_)
                have hl : lv_has ls 8 [(6, .int 0), (5, .int ((nI 0) - 1)), (4, .int r236), (1, .int 1), (3, .int 0), (2, .int 0), (0, .ref h)] := hl
                refine lv_iconst (v := 5) hx hb xd_Mo_newRequire_178 (by decide) ?_
                refine lv_iload hx hb xd_Mo_newRequire_179 (lv_at hl 1 rfl) ?_
                refine lv_imul hx hb xd_Mo_newRequire_181 ?_
                refine lv_istore hx hb xd_Mo_newRequire_182 hl (Nat.le_of_ble_eq_true rfl) rfl (fun ls hl => ?_)
                have hl : lv_has ls 8 [(7, .int (5 * ((nI 0) - 1))), (6, .int 0), (5, .int ((nI 0) - 1)), (4, .int r236), (1, .int 1), (3, .int 0), (2, .int 0), (0, .ref h)] := hl
                refine lv_iload hx hb xd_Mo_newRequire_184 (lv_at hl 2 rfl) ?_
                refine lv_if_lt (tgt := 236) hx hb xd_Mo_newRequire_186 (by decide) (fun _ => ?_) (fun hc241 => absurd hc241 (by decide))
                refine lv_iload hx hb xd_Mo_newRequire_236 (lv_at hl 1 rfl) ?_
                refine xz_eq (a := 0) (tgt := 243) hx hb xd_Mo_newRequire_238 (by decide) (by omega) (fun _ => ?_) (fun hc242 => absurd hc242 (by omega))
                refine lv_aload_n hx hb xd_Mo_newRequire_243 rfl (lv_at hl 7 rfl) ?_
                have hFc := va_free (wc := (moW h mm kA v g)) hD hS hA [0, 1, 2, 3, 4, 5, 6, 7, 8, 9, 10, 11, 12, 13, 14, 15, 16, 17, 18, 19, 20, 21, 22, 23, 24, 25] rfl
                refine va_calli (va_runV (As := []) (rest := []) ⟨hx, hb, hml, hown, hT⟩ (xc_Mo_isShut l D kA H.size h mm v g nd (by first | assumption | omega) (by first | assumption | omega)) (cwV 0 hT (wT_V xq_8 xq_9 xq_10 xq_5 xq_7) rfl rfl rfl (by decide +kernel) ⟨Nat.le_of_ble_eq_true rfl, Nat.le_of_ble_eq_true rfl⟩) (x_preV hK hP hD 0 rfl rfl) rfl rfl hl.1 rfl (lv_room (Nat.le_of_ble_eq_true rfl)) xd_Mo_newRequire_244 ⟨Nat.le_of_ble_eq_true rfl, Nat.le_of_ble_eq_true rfl⟩) hS (fun q _ h => hFc q h) hFc (fun r243 u244 t H1 locs ht hvm hp245 hB hz1 hk1 hS => ?_)
                obtain ⟨hP1, hD1⟩ := hB
                rw [ht] at hP1
                have hD1 := hD1.weaken (fun _ _ _ h => hFc _ h)
                generalize H1 = H at hP1 hS ⊢
                have hP := hP1
                have hD := hD1
                have hP : va_P D xcl (moW h mm kA v g) H := hP
                have hD : va_D A (moW h mm kA v g) := hD
                rcases hp245 with ⟨rfl, z246⟩ | ⟨rfl, z247, z248⟩
                · refine xz_ne (a := 1) (tgt := 261) hx hb xd_Mo_newRequire_247 (by decide) (by omega) (fun _ => ?_) (fun hc249 => absurd hc249 (by omega))
                  refine lv_bipush (v := (-2)) hx hb xd_Mo_newRequire_261 (by decide) ?_
                  exact W.iret (v := (-2)) hx hb hr (fun t ht hW => ⟨⟨(-2), (v, g), rfl, ⟨hMI, rfl, Or.inr (Or.inl rfl)⟩, by rw [ht]; exact hP, hD⟩, hS.F ht⟩) hS.2.2 xd_Mo_newRequire_263
                · exact absurd hz z247
              · refine lv_aload_n hx hb xd_Mo_newRequire_146 rfl (lv_at hl 4 rfl) ?_
                refine va_get (D := D) (ci := 4) (v := .int (v 4)) (C := xR_Mo) (T := xT_Mo) (N := 31) hx hb hT xi_Mo hown hK.1 hP 0 rfl rfl 7 (by decide) (hT _ xq_6) (fun _ h9 => h9) rfl xd_Mo_newRequire_147 ?_
                refine xn_top (x := (v 4)) (y := nI nd) hnd ?_
                refine lv_iconst (v := 1) hx hb xd_Mo_newRequire_150 (by decide) ?_
                refine lv_isub hx hb xd_Mo_newRequire_151 ?_
                refine xn_top (y := nI (nd - 1)) (pk_sub (a := nd) (b := 1) (by omega)) ?_
                refine lv_istore hx hb xd_Mo_newRequire_152 hl (Nat.le_of_ble_eq_true rfl) rfl (fun ls hl => ?_)
                have hl : lv_has ls 8 [(5, .int (nI (nd - 1))), (4, .int r236), (1, .int 1), (3, .int 0), (2, .int 0), (0, .ref h)] := hl
                refine lv_iload hx hb xd_Mo_newRequire_154 (lv_at hl 0 rfl) ?_
                refine xz_lt (a := nd - 1) (tgt := 175) hx hb xd_Mo_newRequire_156 (by decide) (by omega) ?_
                obtain ⟨rq1, hrq1, erq1⟩ := hrq (nd - 1) (by omega)
                refine lv_aload_n hx hb xd_Mo_newRequire_159 rfl (lv_at hl 5 rfl) ?_
                refine va_get (D := D) (ci := 4) (v := .ref (mm 4)) (C := xR_Mo) (T := xT_Mo) (N := 31) hx hb hT xi_Mo hown hK.1 hP 0 rfl rfl 9 (by decide) (hT _ xq_11) (fun _ h9 => h9) rfl xd_Mo_newRequire_160 ?_
                refine lv_iload hx hb xd_Mo_newRequire_163 (lv_at hl 0 rfl) ?_
                refine xn_iald (i := nd - 1) hx hb hK.1 hP 5 0 rfl rfl (by omega) (by decide) xd_Mo_newRequire_165 ?_
                refine lv_iload hx hb xd_Mo_newRequire_166 (lv_at hl 1 rfl) ?_
                refine lv_icmp_ne (tgt := 175) hx hb xd_Mo_newRequire_168 (by decide) (fun hc251 => ?_) (fun hc251 => ?_)
                · refine lv_iconst (v := 0) hx hb xd_Mo_newRequire_175 (by decide) ?_
                  refine lv_istore hx hb xd_Mo_newRequire_176 hl (Nat.le_of_ble_eq_true rfl) rfl (fun ls hl => ?_)
                  have hl : lv_has ls 8 [(6, .int 0), (5, .int (nI (nd - 1))), (4, .int r236), (1, .int 1), (3, .int 0), (2, .int 0), (0, .ref h)] := hl
                  refine lv_iconst (v := 5) hx hb xd_Mo_newRequire_178 (by decide) ?_
                  refine lv_iload hx hb xd_Mo_newRequire_179 (lv_at hl 1 rfl) ?_
                  refine lv_imul hx hb xd_Mo_newRequire_181 ?_
                  refine xn_top (y := nI (5 * (nd - 1))) (pk_mul 5 (nd - 1)) ?_
                  refine lv_istore hx hb xd_Mo_newRequire_182 hl (Nat.le_of_ble_eq_true rfl) rfl (fun ls hl => ?_)
                  have hl : lv_has ls 8 [(7, .int (nI (5 * (nd - 1)))), (6, .int 0), (5, .int (nI (nd - 1))), (4, .int r236), (1, .int 1), (3, .int 0), (2, .int 0), (0, .ref h)] := hl
                  refine xlab (σ := Nat × Int32) (ml := 8) 184 (fun (i, tw) => [(7, .int (nI i)), (6, .int tw), (0, .ref h), (2, .int 0), (3, .int 0), (4, .int r236), (5, .int (nI (nd - 1)))]) (fun (i, tw) => []) (fun (i, tw) => moW h mm kA v g) (fun (i, tw) => (5 * (nd - 1) ≤ i) ∧ (i ≤ 5 * (nd - 1) + rq1)) (fun (i, tw) => 5 * (nd - 1) + rq1 - i) ?_ (5 * (nd - 1), 0) _ _ _ (lv_sub hl [0, 1, 7, 6, 5, 3, 2] rfl) hP hD hS ⟨(show 5 * (nd - 1) ≤ (5 * (nd - 1)) from by first | assumption | omega), (show (5 * (nd - 1)) ≤ 5 * (nd - 1) + rq1 from by first | assumption | omega)⟩
                  intro n9 ih252 a9 ls H locs hμ hl hP hD hS hI
                  subst hμ
                  obtain ⟨i, tw⟩ := a9
                  obtain ⟨hi1, hi2⟩ := hI
                  have hi1 : 5 * (nd - 1) ≤ i := hi1
                  have hi2 : i ≤ 5 * (nd - 1) + rq1 := hi2
                  have hl : lv_has ls 8 [(7, .int (nI i)), (6, .int tw), (0, .ref h), (2, .int 0), (3, .int 0), (4, .int r236), (5, .int (nI (nd - 1)))] := hl
                  have hP : va_P D xcl (moW h mm kA v g) H := hP
                  have hD : va_D A (moW h mm kA v g) := hD
                  refine lv_iload hx hb xd_Mo_newRequire_184 (lv_at hl 6 rfl) ?_
                  refine xz_lt (a := nd - 1) (tgt := 236) hx hb xd_Mo_newRequire_186 (by decide) (by omega) ?_
                  refine lv_iload hx hb xd_Mo_newRequire_189 (lv_at hl 0 rfl) ?_
                  refine lv_iconst (v := 5) hx hb xd_Mo_newRequire_191 (by decide) ?_
                  refine lv_iload hx hb xd_Mo_newRequire_192 (lv_at hl 6 rfl) ?_
                  refine lv_imul hx hb xd_Mo_newRequire_194 ?_
                  refine xn_top (y := nI (5 * (nd - 1))) (pk_mul 5 (nd - 1)) ?_
                  refine lv_aload_n hx hb xd_Mo_newRequire_195 rfl (lv_at hl 2 rfl) ?_
                  refine va_get (D := D) (ci := 4) (v := .ref (mm 12)) (C := xR_Mo) (T := xT_Mo) (N := 31) hx hb hT xi_Mo hown hK.1 hP 0 rfl rfl 17 (by decide) (hT _ xq_12) (fun _ h9 => h9) rfl xd_Mo_newRequire_196 ?_
                  refine lv_iload hx hb xd_Mo_newRequire_199 (lv_at hl 6 rfl) ?_
                  refine xn_iald (i := nd - 1) hx hb hK.1 hP 13 0 rfl rfl (by omega) (by decide) xd_Mo_newRequire_201 ?_
                  refine xn_top (x := (g 12 (nd - 1))) (y := nI rq1) erq1 ?_
                  refine lv_iadd hx hb xd_Mo_newRequire_202 ?_
                  refine xn_top (y := nI ((5 * (nd - 1)) + rq1)) (nI_add (5 * (nd - 1)) rq1) ?_
                  refine xn_ge (a := i) (b := (5 * (nd - 1)) + rq1) (tgt := 236) hx hb xd_Mo_newRequire_203 (by decide) (by omega) (by omega) (fun hc254 => ?_) (fun hc254 => ?_)
                  · refine lv_iload hx hb xd_Mo_newRequire_236 (lv_at hl 1 rfl) ?_
                    refine lv_if_eq (tgt := 243) hx hb xd_Mo_newRequire_238 (by decide) (fun hc255 => ?_) (fun hc255 => ?_)
                    · refine lv_aload_n hx hb xd_Mo_newRequire_243 rfl (lv_at hl 2 rfl) ?_
                      have hFc := va_free (wc := (moW h mm kA v g)) hD hS hA [0, 1, 2, 3, 4, 5, 6, 7, 8, 9, 10, 11, 12, 13, 14, 15, 16, 17, 18, 19, 20, 21, 22, 23, 24, 25] rfl
                      refine va_calli (va_runV (As := []) (rest := []) ⟨hx, hb, hml, hown, hT⟩ (xc_Mo_isShut l D kA H.size h mm v g nd (by first | assumption | omega) (by first | assumption | omega)) (cwV 0 hT (wT_V xq_8 xq_9 xq_10 xq_5 xq_7) rfl rfl rfl (by decide +kernel) ⟨Nat.le_of_ble_eq_true rfl, Nat.le_of_ble_eq_true rfl⟩) (x_preV hK hP hD 0 rfl rfl) rfl rfl hl.1 rfl (lv_room (Nat.le_of_ble_eq_true rfl)) xd_Mo_newRequire_244 ⟨Nat.le_of_ble_eq_true rfl, Nat.le_of_ble_eq_true rfl⟩) hS (fun q _ h => hFc q h) hFc (fun r256 u257 t H1 locs ht hvm hp258 hB hz1 hk1 hS => ?_)
                      obtain ⟨hP1, hD1⟩ := hB
                      rw [ht] at hP1
                      have hD1 := hD1.weaken (fun _ _ _ h => hFc _ h)
                      generalize H1 = H at hP1 hS ⊢
                      have hP := hP1
                      have hD := hD1
                      have hP : va_P D xcl (moW h mm kA v g) H := hP
                      have hD : va_D A (moW h mm kA v g) := hD
                      rcases hp258 with ⟨rfl, z259⟩ | ⟨rfl, z260, z261⟩
                      · refine xz_ne (a := 1) (tgt := 261) hx hb xd_Mo_newRequire_247 (by decide) (by omega) (fun _ => ?_) (fun hc262 => absurd hc262 (by omega))
                        refine lv_bipush (v := (-2)) hx hb xd_Mo_newRequire_261 (by decide) ?_
                        exact W.iret (v := (-2)) hx hb hr (fun t ht hW => ⟨⟨(-2), (v, g), rfl, ⟨hMI, rfl, Or.inr (Or.inl rfl)⟩, by rw [ht]; exact hP, hD⟩, hS.F ht⟩) hS.2.2 xd_Mo_newRequire_263
                      · refine xz_ne (a := 0) (tgt := 261) hx hb xd_Mo_newRequire_247 (by decide) (by omega) (fun hc263 => absurd hc263 (by omega)) (fun _ => ?_)
                        refine lv_aload_n hx hb xd_Mo_newRequire_250 rfl (lv_at hl 2 rfl) ?_
                        refine va_get (D := D) (ci := 4) (v := .ref (mm 12)) (C := xR_Mo) (T := xT_Mo) (N := 31) hx hb hT xi_Mo hown hK.1 hP 0 rfl rfl 17 (by decide) (hT _ xq_12) (fun _ h9 => h9) rfl xd_Mo_newRequire_251 ?_
                        refine lv_iload hx hb xd_Mo_newRequire_254 (lv_at hl 6 rfl) ?_
                        refine xn_iald (i := nd - 1) hx hb hK.1 hP 13 0 rfl rfl (by omega) (by decide) xd_Mo_newRequire_256 ?_
                        refine xn_top (x := (g 12 (nd - 1))) (y := nI rq1) erq1 ?_
                        refine lv_iconst (v := 5) hx hb xd_Mo_newRequire_257 (by decide) ?_
                        refine xn_ne (a := rq1) (b := 5) (tgt := 264) hx hb xd_Mo_newRequire_258 (by decide) (by omega) (by omega) (fun hc264 => ?_) (fun hc264 => ?_)
                        · refine lv_aload_n hx hb xd_Mo_newRequire_264 rfl (lv_at hl 2 rfl) ?_
                          refine va_get (D := D) (ci := 4) (v := .ref (mm 13)) (C := xR_Mo) (T := xT_Mo) (N := 31) hx hb hT xi_Mo hown hK.1 hP 0 rfl rfl 18 (by decide) (hT _ xq_13) (fun _ h9 => h9) rfl xd_Mo_newRequire_265 ?_
                          refine lv_iconst (v := 5) hx hb xd_Mo_newRequire_268 (by decide) ?_
                          refine lv_iload hx hb xd_Mo_newRequire_269 (lv_at hl 6 rfl) ?_
                          refine lv_imul hx hb xd_Mo_newRequire_271 ?_
                          refine xn_top (y := nI (5 * (nd - 1))) (pk_mul 5 (nd - 1)) ?_
                          refine lv_aload_n hx hb xd_Mo_newRequire_272 rfl (lv_at hl 2 rfl) ?_
                          refine va_get (D := D) (ci := 4) (v := .ref (mm 12)) (C := xR_Mo) (T := xT_Mo) (N := 31) hx hb hT xi_Mo hown hK.1 hP 0 rfl rfl 17 (by decide) (hT _ xq_12) (fun _ h9 => h9) rfl xd_Mo_newRequire_273 ?_
                          refine lv_iload hx hb xd_Mo_newRequire_276 (lv_at hl 6 rfl) ?_
                          refine xn_iald (i := nd - 1) hx hb hK.1 hP 13 0 rfl rfl (by omega) (by decide) xd_Mo_newRequire_278 ?_
                          refine xn_top (x := (g 12 (nd - 1))) (y := nI rq1) erq1 ?_
                          refine lv_iadd hx hb xd_Mo_newRequire_279 ?_
                          refine xn_top (y := nI ((5 * (nd - 1)) + rq1)) (nI_add (5 * (nd - 1)) rq1) ?_
                          refine lv_iload hx hb xd_Mo_newRequire_280 (lv_at hl 5 rfl) ?_
                          refine xn_iast (i := (5 * (nd - 1)) + rq1) hx hb hK.1 hP hD hS 14 0 rfl rfl (by omega) (by decide) xd_Mo_newRequire_282 (fun H locs hP hD hS => ?_)
                          have hP : va_P D xcl (moW h mm kA v (va_up g 13 (upd (g 13) ((5 * (nd - 1)) + rq1) r236))) H := hP
                          have hD : va_D A (moW h mm kA v (va_up g 13 (upd (g 13) ((5 * (nd - 1)) + rq1) r236))) := hD
                          refine lv_aload_n hx hb xd_Mo_newRequire_283 rfl (lv_at hl 2 rfl) ?_
                          refine va_get (D := D) (ci := 4) (v := .ref (mm 16)) (C := xR_Mo) (T := xT_Mo) (N := 31) hx hb hT xi_Mo hown hK.1 hP 0 rfl rfl 21 (by decide) (hT _ xq_14) (fun _ h9 => h9) rfl xd_Mo_newRequire_284 ?_
                          refine lv_iconst (v := 5) hx hb xd_Mo_newRequire_287 (by decide) ?_
                          refine lv_iload hx hb xd_Mo_newRequire_288 (lv_at hl 6 rfl) ?_
                          refine lv_imul hx hb xd_Mo_newRequire_290 ?_
                          refine xn_top (y := nI (5 * (nd - 1))) (pk_mul 5 (nd - 1)) ?_
                          refine lv_aload_n hx hb xd_Mo_newRequire_291 rfl (lv_at hl 2 rfl) ?_
                          refine va_get (D := D) (ci := 4) (v := .ref (mm 12)) (C := xR_Mo) (T := xT_Mo) (N := 31) hx hb hT xi_Mo hown hK.1 hP 0 rfl rfl 17 (by decide) (hT _ xq_12) (fun _ h9 => h9) rfl xd_Mo_newRequire_292 ?_
                          refine lv_iload hx hb xd_Mo_newRequire_295 (lv_at hl 6 rfl) ?_
                          refine xn_iald (i := nd - 1) hx hb hK.1 hP 13 0 rfl rfl (by omega) (by decide) xd_Mo_newRequire_297 ?_
                          refine xn_top (x := (g 12 (nd - 1))) (y := nI rq1) erq1 ?_
                          refine lv_iadd hx hb xd_Mo_newRequire_298 ?_
                          refine xn_top (y := nI ((5 * (nd - 1)) + rq1)) (nI_add (5 * (nd - 1)) rq1) ?_
                          refine lv_iload_n hx hb xd_Mo_newRequire_299 rfl (lv_at hl 3 rfl) ?_
                          refine xn_zast (i := (5 * (nd - 1)) + rq1) hx hb hK.1 hP hD hS 17 2 rfl rfl (by omega) (by decide) xd_Mo_newRequire_300 (fun H locs hP hD hS => ?_)
                          have hP : va_P D xcl (moW h mm kA v (va_up (va_up g 13 (upd (g 13) ((5 * (nd - 1)) + rq1) r236)) 16 (upd (g 16) ((5 * (nd - 1)) + rq1) (vp_nar .boolean 0)))) H := hP
                          have hD : va_D A (moW h mm kA v (va_up (va_up g 13 (upd (g 13) ((5 * (nd - 1)) + rq1) r236)) 16 (upd (g 16) ((5 * (nd - 1)) + rq1) (vp_nar .boolean 0)))) := hD
                          refine lv_aload_n hx hb xd_Mo_newRequire_301 rfl (lv_at hl 2 rfl) ?_
                          refine va_get (D := D) (ci := 4) (v := .ref (mm 17)) (C := xR_Mo) (T := xT_Mo) (N := 31) hx hb hT xi_Mo hown hK.1 hP 0 rfl rfl 22 (by decide) (hT _ xq_15) (fun _ h9 => h9) rfl xd_Mo_newRequire_302 ?_
                          refine lv_iconst (v := 5) hx hb xd_Mo_newRequire_305 (by decide) ?_
                          refine lv_iload hx hb xd_Mo_newRequire_306 (lv_at hl 6 rfl) ?_
                          refine lv_imul hx hb xd_Mo_newRequire_308 ?_
                          refine xn_top (y := nI (5 * (nd - 1))) (pk_mul 5 (nd - 1)) ?_
                          refine lv_aload_n hx hb xd_Mo_newRequire_309 rfl (lv_at hl 2 rfl) ?_
                          refine va_get (D := D) (ci := 4) (v := .ref (mm 12)) (C := xR_Mo) (T := xT_Mo) (N := 31) hx hb hT xi_Mo hown hK.1 hP 0 rfl rfl 17 (by decide) (hT _ xq_12) (fun _ h9 => h9) rfl xd_Mo_newRequire_310 ?_
                          refine lv_iload hx hb xd_Mo_newRequire_313 (lv_at hl 6 rfl) ?_
                          refine xn_iald (i := nd - 1) hx hb hK.1 hP 13 0 rfl rfl (by omega) (by decide) xd_Mo_newRequire_315 ?_
                          refine xn_top (x := (g 12 (nd - 1))) (y := nI rq1) erq1 ?_
                          refine lv_iadd hx hb xd_Mo_newRequire_316 ?_
                          refine xn_top (y := nI ((5 * (nd - 1)) + rq1)) (nI_add (5 * (nd - 1)) rq1) ?_
                          refine lv_iload_n hx hb xd_Mo_newRequire_317 rfl (lv_at hl 4 rfl) ?_
                          refine xn_zast (i := (5 * (nd - 1)) + rq1) hx hb hK.1 hP hD hS 18 2 rfl rfl (by omega) (by decide) xd_Mo_newRequire_318 (fun H locs hP hD hS => ?_)
                          have hP : va_P D xcl (moW h mm kA v (va_up (va_up (va_up g 13 (upd (g 13) ((5 * (nd - 1)) + rq1) r236)) 16 (upd (g 16) ((5 * (nd - 1)) + rq1) (vp_nar .boolean 0))) 17 (upd (g 17) ((5 * (nd - 1)) + rq1) (vp_nar .boolean 0)))) H := hP
                          have hD : va_D A (moW h mm kA v (va_up (va_up (va_up g 13 (upd (g 13) ((5 * (nd - 1)) + rq1) r236)) 16 (upd (g 16) ((5 * (nd - 1)) + rq1) (vp_nar .boolean 0))) 17 (upd (g 17) ((5 * (nd - 1)) + rq1) (vp_nar .boolean 0)))) := hD
                          refine lv_aload_n hx hb xd_Mo_newRequire_319 rfl (lv_at hl 2 rfl) ?_
                          refine va_get (D := D) (ci := 4) (v := .ref (mm 12)) (C := xR_Mo) (T := xT_Mo) (N := 31) hx hb hT xi_Mo hown hK.1 hP 0 rfl rfl 17 (by decide) (hT _ xq_12) (fun _ h9 => h9) rfl xd_Mo_newRequire_320 ?_
                          refine lv_iload hx hb xd_Mo_newRequire_323 (lv_at hl 6 rfl) ?_
                          refine lv_dup2_11 hx hb xd_Mo_newRequire_325 rfl rfl ?_
                          refine xn_iald (i := nd - 1) hx hb hK.1 hP 13 0 rfl rfl (by omega) (by decide) xd_Mo_newRequire_326 ?_
                          refine xn_top (x := (g 12 (nd - 1))) (y := nI rq1) erq1 ?_
                          refine lv_iconst (v := 1) hx hb xd_Mo_newRequire_327 (by decide) ?_
                          refine lv_iadd hx hb xd_Mo_newRequire_328 ?_
                          refine xn_top (y := nI (rq1 + 1)) (nI_add rq1 1) ?_
                          refine xn_iast (i := nd - 1) hx hb hK.1 hP hD hS 13 0 rfl rfl (by omega) (by decide) xd_Mo_newRequire_329 (fun H locs hP hD hS => ?_)
                          have hP : va_P D xcl (moW h mm kA v (va_up (va_up (va_up (va_up g 12 (upd (g 12) (nd - 1) (nI (rq1 + 1)))) 13 (upd (g 13) ((5 * (nd - 1)) + rq1) r236)) 16 (upd (g 16) ((5 * (nd - 1)) + rq1) (vp_nar .boolean 0))) 17 (upd (g 17) ((5 * (nd - 1)) + rq1) (vp_nar .boolean 0)))) H := hP
                          have hD : va_D A (moW h mm kA v (va_up (va_up (va_up (va_up g 12 (upd (g 12) (nd - 1) (nI (rq1 + 1)))) 13 (upd (g 13) ((5 * (nd - 1)) + rq1) r236)) 16 (upd (g 16) ((5 * (nd - 1)) + rq1) (vp_nar .boolean 0))) 17 (upd (g 17) ((5 * (nd - 1)) + rq1) (vp_nar .boolean 0)))) := hD
                          refine lv_iconst (v := 2) hx hb xd_Mo_newRequire_330 (by decide) ?_
                          exact W.iret (v := 2) hx hb hr (fun t ht hW => ⟨⟨2, (v, (va_up (va_up (va_up (va_up g 12 (upd (g 12) (nd - 1) (nI (rq1 + 1)))) 13 (upd (g 13) ((5 * (nd - 1)) + rq1) r236)) 16 (upd (g 16) ((5 * (nd - 1)) + rq1) (vp_nar .boolean 0))) 17 (upd (g 17) ((5 * (nd - 1)) + rq1) (vp_nar .boolean 0)))), rfl, ⟨MI_g (g := va_up g 12 (upd (g 12) (nd - 1) (nI (rq1 + 1)))) rfl rfl rfl rfl rfl rfl rfl rfl (MI_rq (by omega) hMI), rfl, Or.inr (Or.inr (Or.inr rfl))⟩, by rw [ht]; exact hP, hD⟩, hS.F ht⟩) hS.2.2 xd_Mo_newRequire_331
                        · refine lv_bipush (v := (-2)) hx hb xd_Mo_newRequire_261 (by decide) ?_
                          exact W.iret (v := (-2)) hx hb hr (fun t ht hW => ⟨⟨(-2), (v, g), rfl, ⟨hMI, rfl, Or.inr (Or.inl rfl)⟩, by rw [ht]; exact hP, hD⟩, hS.F ht⟩) hS.2.2 xd_Mo_newRequire_263
                    · refine lv_iconst (v := (-1)) hx hb xd_Mo_newRequire_241 (by decide) ?_
                      exact W.iret (v := (-1)) hx hb hr (fun t ht hW => ⟨⟨(-1), (v, g), rfl, ⟨hMI, rfl, Or.inl rfl⟩, by rw [ht]; exact hP, hD⟩, hS.F ht⟩) hS.2.2 xd_Mo_newRequire_242
                  · refine lv_iload hx hb xd_Mo_newRequire_206 (lv_at hl 1 rfl) ?_
                    refine lv_if_ne (tgt := 223) hx hb xd_Mo_newRequire_208 (by decide) (fun hc265 => ?_) (fun hc265 => ?_)
                    · refine lv_iconst (v := 1) hx hb xd_Mo_newRequire_223 (by decide) ?_
                      refine lv_goto (tgt := 228) hx hb xd_Mo_newRequire_224 (by decide) ?_
                      refine lv_istore hx hb xd_Mo_newRequire_228 hl (Nat.le_of_ble_eq_true rfl) rfl (fun ls hl => ?_)
                      have hl : lv_has ls 8 [(6, .int 1), (7, .int (nI i)), (0, .ref h), (2, .int 0), (3, .int 0), (4, .int r236), (5, .int (nI (nd - 1)))] := hl
                      refine lv_iinc (k := 1) (x := (nI i)) (v := (nI (i + 1))) hx hb xd_Mo_newRequire_230 hl rfl (xb_inc i 1) (Nat.le_of_ble_eq_true rfl) rfl (fun ls hl => ?_)
                      have hl : lv_has ls 8 [(7, .int (nI (i + 1))), (6, .int 1), (0, .ref h), (2, .int 0), (3, .int 0), (4, .int r236), (5, .int (nI (nd - 1)))] := hl
                      refine lv_goto (tgt := 184) hx hb xd_Mo_newRequire_233 (by decide) ?_
                      exact ih252 (i + 1, 1) _ _ _ (show 5 * (nd - 1) + rq1 - (i + 1) < 5 * (nd - 1) + rq1 - i by omega) (lv_sub hl [0, 1, 2, 3, 4, 5, 6] rfl) hP hD hS ⟨(show 5 * (nd - 1) ≤ (i + 1) from by first | assumption | omega), (show (i + 1) ≤ 5 * (nd - 1) + rq1 from by first | assumption | omega)⟩
                    · refine lv_aload_n hx hb xd_Mo_newRequire_211 rfl (lv_at hl 2 rfl) ?_
                      refine va_get (D := D) (ci := 4) (v := .ref (mm 13)) (C := xR_Mo) (T := xT_Mo) (N := 31) hx hb hT xi_Mo hown hK.1 hP 0 rfl rfl 18 (by decide) (hT _ xq_13) (fun _ h9 => h9) rfl xd_Mo_newRequire_212 ?_
                      refine lv_iload hx hb xd_Mo_newRequire_215 (lv_at hl 0 rfl) ?_
                      refine xn_iald (i := i) hx hb hK.1 hP 14 0 rfl rfl (by omega) (by decide) xd_Mo_newRequire_217 ?_
                      refine lv_iload hx hb xd_Mo_newRequire_218 (lv_at hl 5 rfl) ?_
                      refine lv_icmp_ne (tgt := 227) hx hb xd_Mo_newRequire_220 (by decide) (fun hc266 => ?_) (fun hc266 => ?_)
                      · refine lv_iconst (v := 0) hx hb xd_Mo_newRequire_227 (by decide) ?_
                        refine lv_istore hx hb xd_Mo_newRequire_228 hl (Nat.le_of_ble_eq_true rfl) rfl (fun ls hl => ?_)
                        have hl : lv_has ls 8 [(6, .int 0), (7, .int (nI i)), (0, .ref h), (2, .int 0), (3, .int 0), (4, .int r236), (5, .int (nI (nd - 1)))] := hl
                        refine lv_iinc (k := 1) (x := (nI i)) (v := (nI (i + 1))) hx hb xd_Mo_newRequire_230 hl rfl (xb_inc i 1) (Nat.le_of_ble_eq_true rfl) rfl (fun ls hl => ?_)
                        have hl : lv_has ls 8 [(7, .int (nI (i + 1))), (6, .int 0), (0, .ref h), (2, .int 0), (3, .int 0), (4, .int r236), (5, .int (nI (nd - 1)))] := hl
                        refine lv_goto (tgt := 184) hx hb xd_Mo_newRequire_233 (by decide) ?_
                        exact ih252 (i + 1, 0) _ _ _ (show 5 * (nd - 1) + rq1 - (i + 1) < 5 * (nd - 1) + rq1 - i by omega) (lv_sub hl [0, 1, 2, 3, 4, 5, 6] rfl) hP hD hS ⟨(show 5 * (nd - 1) ≤ (i + 1) from by first | assumption | omega), (show (i + 1) ≤ 5 * (nd - 1) + rq1 from by first | assumption | omega)⟩
                      · refine lv_iconst (v := 1) hx hb xd_Mo_newRequire_223 (by decide) ?_
                        refine lv_goto (tgt := 228) hx hb xd_Mo_newRequire_224 (by decide) ?_
                        refine lv_istore hx hb xd_Mo_newRequire_228 hl (Nat.le_of_ble_eq_true rfl) rfl (fun ls hl => ?_)
                        have hl : lv_has ls 8 [(6, .int 1), (7, .int (nI i)), (0, .ref h), (2, .int 0), (3, .int 0), (4, .int r236), (5, .int (nI (nd - 1)))] := hl
                        refine lv_iinc (k := 1) (x := (nI i)) (v := (nI (i + 1))) hx hb xd_Mo_newRequire_230 hl rfl (xb_inc i 1) (Nat.le_of_ble_eq_true rfl) rfl (fun ls hl => ?_)
                        have hl : lv_has ls 8 [(7, .int (nI (i + 1))), (6, .int 1), (0, .ref h), (2, .int 0), (3, .int 0), (4, .int r236), (5, .int (nI (nd - 1)))] := hl
                        refine lv_goto (tgt := 184) hx hb xd_Mo_newRequire_233 (by decide) ?_
                        exact ih252 (i + 1, 1) _ _ _ (show 5 * (nd - 1) + rq1 - (i + 1) < 5 * (nd - 1) + rq1 - i by omega) (lv_sub hl [0, 1, 2, 3, 4, 5, 6] rfl) hP hD hS ⟨(show 5 * (nd - 1) ≤ (i + 1) from by first | assumption | omega), (show (i + 1) ≤ 5 * (nd - 1) + rq1 from by first | assumption | omega)⟩
                · refine lv_iconst (v := 1) hx hb xd_Mo_newRequire_171 (by decide) ?_
                  refine lv_goto (tgt := 176) hx hb xd_Mo_newRequire_172 (by decide) ?_
                  refine lv_istore hx hb xd_Mo_newRequire_176 hl (Nat.le_of_ble_eq_true rfl) rfl (fun ls hl => ?_)
                  have hl : lv_has ls 8 [(6, .int 1), (5, .int (nI (nd - 1))), (4, .int r236), (1, .int 1), (3, .int 0), (2, .int 0), (0, .ref h)] := hl
                  refine lv_iconst (v := 5) hx hb xd_Mo_newRequire_178 (by decide) ?_
                  refine lv_iload hx hb xd_Mo_newRequire_179 (lv_at hl 1 rfl) ?_
                  refine lv_imul hx hb xd_Mo_newRequire_181 ?_
                  refine xn_top (y := nI (5 * (nd - 1))) (pk_mul 5 (nd - 1)) ?_
                  refine lv_istore hx hb xd_Mo_newRequire_182 hl (Nat.le_of_ble_eq_true rfl) rfl (fun ls hl => ?_)
                  have hl : lv_has ls 8 [(7, .int (nI (5 * (nd - 1)))), (6, .int 1), (5, .int (nI (nd - 1))), (4, .int r236), (1, .int 1), (3, .int 0), (2, .int 0), (0, .ref h)] := hl
                  refine xlab (σ := Nat × Int32) (ml := 8) 184 (fun (i, tw) => [(7, .int (nI i)), (6, .int tw), (0, .ref h), (2, .int 0), (3, .int 0), (4, .int r236), (5, .int (nI (nd - 1)))]) (fun (i, tw) => []) (fun (i, tw) => moW h mm kA v g) (fun (i, tw) => (5 * (nd - 1) ≤ i) ∧ (i ≤ 5 * (nd - 1) + rq1)) (fun (i, tw) => 5 * (nd - 1) + rq1 - i) ?_ (5 * (nd - 1), 1) _ _ _ (lv_sub hl [0, 1, 7, 6, 5, 3, 2] rfl) hP hD hS ⟨(show 5 * (nd - 1) ≤ (5 * (nd - 1)) from by first | assumption | omega), (show (5 * (nd - 1)) ≤ 5 * (nd - 1) + rq1 from by first | assumption | omega)⟩
                  intro n9 ih267 a9 ls H locs hμ hl hP hD hS hI
                  subst hμ
                  obtain ⟨i, tw⟩ := a9
                  obtain ⟨hi1, hi2⟩ := hI
                  have hi1 : 5 * (nd - 1) ≤ i := hi1
                  have hi2 : i ≤ 5 * (nd - 1) + rq1 := hi2
                  have hl : lv_has ls 8 [(7, .int (nI i)), (6, .int tw), (0, .ref h), (2, .int 0), (3, .int 0), (4, .int r236), (5, .int (nI (nd - 1)))] := hl
                  have hP : va_P D xcl (moW h mm kA v g) H := hP
                  have hD : va_D A (moW h mm kA v g) := hD
                  refine lv_iload hx hb xd_Mo_newRequire_184 (lv_at hl 6 rfl) ?_
                  refine xz_lt (a := nd - 1) (tgt := 236) hx hb xd_Mo_newRequire_186 (by decide) (by omega) ?_
                  refine lv_iload hx hb xd_Mo_newRequire_189 (lv_at hl 0 rfl) ?_
                  refine lv_iconst (v := 5) hx hb xd_Mo_newRequire_191 (by decide) ?_
                  refine lv_iload hx hb xd_Mo_newRequire_192 (lv_at hl 6 rfl) ?_
                  refine lv_imul hx hb xd_Mo_newRequire_194 ?_
                  refine xn_top (y := nI (5 * (nd - 1))) (pk_mul 5 (nd - 1)) ?_
                  refine lv_aload_n hx hb xd_Mo_newRequire_195 rfl (lv_at hl 2 rfl) ?_
                  refine va_get (D := D) (ci := 4) (v := .ref (mm 12)) (C := xR_Mo) (T := xT_Mo) (N := 31) hx hb hT xi_Mo hown hK.1 hP 0 rfl rfl 17 (by decide) (hT _ xq_12) (fun _ h9 => h9) rfl xd_Mo_newRequire_196 ?_
                  refine lv_iload hx hb xd_Mo_newRequire_199 (lv_at hl 6 rfl) ?_
                  refine xn_iald (i := nd - 1) hx hb hK.1 hP 13 0 rfl rfl (by omega) (by decide) xd_Mo_newRequire_201 ?_
                  refine xn_top (x := (g 12 (nd - 1))) (y := nI rq1) erq1 ?_
                  refine lv_iadd hx hb xd_Mo_newRequire_202 ?_
                  refine xn_top (y := nI ((5 * (nd - 1)) + rq1)) (nI_add (5 * (nd - 1)) rq1) ?_
                  refine xn_ge (a := i) (b := (5 * (nd - 1)) + rq1) (tgt := 236) hx hb xd_Mo_newRequire_203 (by decide) (by omega) (by omega) (fun hc269 => ?_) (fun hc269 => ?_)
                  · refine lv_iload hx hb xd_Mo_newRequire_236 (lv_at hl 1 rfl) ?_
                    refine lv_if_eq (tgt := 243) hx hb xd_Mo_newRequire_238 (by decide) (fun hc270 => ?_) (fun hc270 => ?_)
                    · refine lv_aload_n hx hb xd_Mo_newRequire_243 rfl (lv_at hl 2 rfl) ?_
                      have hFc := va_free (wc := (moW h mm kA v g)) hD hS hA [0, 1, 2, 3, 4, 5, 6, 7, 8, 9, 10, 11, 12, 13, 14, 15, 16, 17, 18, 19, 20, 21, 22, 23, 24, 25] rfl
                      refine va_calli (va_runV (As := []) (rest := []) ⟨hx, hb, hml, hown, hT⟩ (xc_Mo_isShut l D kA H.size h mm v g nd (by first | assumption | omega) (by first | assumption | omega)) (cwV 0 hT (wT_V xq_8 xq_9 xq_10 xq_5 xq_7) rfl rfl rfl (by decide +kernel) ⟨Nat.le_of_ble_eq_true rfl, Nat.le_of_ble_eq_true rfl⟩) (x_preV hK hP hD 0 rfl rfl) rfl rfl hl.1 rfl (lv_room (Nat.le_of_ble_eq_true rfl)) xd_Mo_newRequire_244 ⟨Nat.le_of_ble_eq_true rfl, Nat.le_of_ble_eq_true rfl⟩) hS (fun q _ h => hFc q h) hFc (fun r271 u272 t H1 locs ht hvm hp273 hB hz1 hk1 hS => ?_)
                      obtain ⟨hP1, hD1⟩ := hB
                      rw [ht] at hP1
                      have hD1 := hD1.weaken (fun _ _ _ h => hFc _ h)
                      generalize H1 = H at hP1 hS ⊢
                      have hP := hP1
                      have hD := hD1
                      have hP : va_P D xcl (moW h mm kA v g) H := hP
                      have hD : va_D A (moW h mm kA v g) := hD
                      rcases hp273 with ⟨rfl, z274⟩ | ⟨rfl, z275, z276⟩
                      · refine xz_ne (a := 1) (tgt := 261) hx hb xd_Mo_newRequire_247 (by decide) (by omega) (fun _ => ?_) (fun hc277 => absurd hc277 (by omega))
                        refine lv_bipush (v := (-2)) hx hb xd_Mo_newRequire_261 (by decide) ?_
                        exact W.iret (v := (-2)) hx hb hr (fun t ht hW => ⟨⟨(-2), (v, g), rfl, ⟨hMI, rfl, Or.inr (Or.inl rfl)⟩, by rw [ht]; exact hP, hD⟩, hS.F ht⟩) hS.2.2 xd_Mo_newRequire_263
                      · refine xz_ne (a := 0) (tgt := 261) hx hb xd_Mo_newRequire_247 (by decide) (by omega) (fun hc278 => absurd hc278 (by omega)) (fun _ => ?_)
                        refine lv_aload_n hx hb xd_Mo_newRequire_250 rfl (lv_at hl 2 rfl) ?_
                        refine va_get (D := D) (ci := 4) (v := .ref (mm 12)) (C := xR_Mo) (T := xT_Mo) (N := 31) hx hb hT xi_Mo hown hK.1 hP 0 rfl rfl 17 (by decide) (hT _ xq_12) (fun _ h9 => h9) rfl xd_Mo_newRequire_251 ?_
                        refine lv_iload hx hb xd_Mo_newRequire_254 (lv_at hl 6 rfl) ?_
                        refine xn_iald (i := nd - 1) hx hb hK.1 hP 13 0 rfl rfl (by omega) (by decide) xd_Mo_newRequire_256 ?_
                        refine xn_top (x := (g 12 (nd - 1))) (y := nI rq1) erq1 ?_
                        refine lv_iconst (v := 5) hx hb xd_Mo_newRequire_257 (by decide) ?_
                        refine xn_ne (a := rq1) (b := 5) (tgt := 264) hx hb xd_Mo_newRequire_258 (by decide) (by omega) (by omega) (fun hc279 => ?_) (fun hc279 => ?_)
                        · refine lv_aload_n hx hb xd_Mo_newRequire_264 rfl (lv_at hl 2 rfl) ?_
                          refine va_get (D := D) (ci := 4) (v := .ref (mm 13)) (C := xR_Mo) (T := xT_Mo) (N := 31) hx hb hT xi_Mo hown hK.1 hP 0 rfl rfl 18 (by decide) (hT _ xq_13) (fun _ h9 => h9) rfl xd_Mo_newRequire_265 ?_
                          refine lv_iconst (v := 5) hx hb xd_Mo_newRequire_268 (by decide) ?_
                          refine lv_iload hx hb xd_Mo_newRequire_269 (lv_at hl 6 rfl) ?_
                          refine lv_imul hx hb xd_Mo_newRequire_271 ?_
                          refine xn_top (y := nI (5 * (nd - 1))) (pk_mul 5 (nd - 1)) ?_
                          refine lv_aload_n hx hb xd_Mo_newRequire_272 rfl (lv_at hl 2 rfl) ?_
                          refine va_get (D := D) (ci := 4) (v := .ref (mm 12)) (C := xR_Mo) (T := xT_Mo) (N := 31) hx hb hT xi_Mo hown hK.1 hP 0 rfl rfl 17 (by decide) (hT _ xq_12) (fun _ h9 => h9) rfl xd_Mo_newRequire_273 ?_
                          refine lv_iload hx hb xd_Mo_newRequire_276 (lv_at hl 6 rfl) ?_
                          refine xn_iald (i := nd - 1) hx hb hK.1 hP 13 0 rfl rfl (by omega) (by decide) xd_Mo_newRequire_278 ?_
                          refine xn_top (x := (g 12 (nd - 1))) (y := nI rq1) erq1 ?_
                          refine lv_iadd hx hb xd_Mo_newRequire_279 ?_
                          refine xn_top (y := nI ((5 * (nd - 1)) + rq1)) (nI_add (5 * (nd - 1)) rq1) ?_
                          refine lv_iload hx hb xd_Mo_newRequire_280 (lv_at hl 5 rfl) ?_
                          refine xn_iast (i := (5 * (nd - 1)) + rq1) hx hb hK.1 hP hD hS 14 0 rfl rfl (by omega) (by decide) xd_Mo_newRequire_282 (fun H locs hP hD hS => ?_)
                          have hP : va_P D xcl (moW h mm kA v (va_up g 13 (upd (g 13) ((5 * (nd - 1)) + rq1) r236))) H := hP
                          have hD : va_D A (moW h mm kA v (va_up g 13 (upd (g 13) ((5 * (nd - 1)) + rq1) r236))) := hD
                          refine lv_aload_n hx hb xd_Mo_newRequire_283 rfl (lv_at hl 2 rfl) ?_
                          refine va_get (D := D) (ci := 4) (v := .ref (mm 16)) (C := xR_Mo) (T := xT_Mo) (N := 31) hx hb hT xi_Mo hown hK.1 hP 0 rfl rfl 21 (by decide) (hT _ xq_14) (fun _ h9 => h9) rfl xd_Mo_newRequire_284 ?_
                          refine lv_iconst (v := 5) hx hb xd_Mo_newRequire_287 (by decide) ?_
                          refine lv_iload hx hb xd_Mo_newRequire_288 (lv_at hl 6 rfl) ?_
                          refine lv_imul hx hb xd_Mo_newRequire_290 ?_
                          refine xn_top (y := nI (5 * (nd - 1))) (pk_mul 5 (nd - 1)) ?_
                          refine lv_aload_n hx hb xd_Mo_newRequire_291 rfl (lv_at hl 2 rfl) ?_
                          refine va_get (D := D) (ci := 4) (v := .ref (mm 12)) (C := xR_Mo) (T := xT_Mo) (N := 31) hx hb hT xi_Mo hown hK.1 hP 0 rfl rfl 17 (by decide) (hT _ xq_12) (fun _ h9 => h9) rfl xd_Mo_newRequire_292 ?_
                          refine lv_iload hx hb xd_Mo_newRequire_295 (lv_at hl 6 rfl) ?_
                          refine xn_iald (i := nd - 1) hx hb hK.1 hP 13 0 rfl rfl (by omega) (by decide) xd_Mo_newRequire_297 ?_
                          refine xn_top (x := (g 12 (nd - 1))) (y := nI rq1) erq1 ?_
                          refine lv_iadd hx hb xd_Mo_newRequire_298 ?_
                          refine xn_top (y := nI ((5 * (nd - 1)) + rq1)) (nI_add (5 * (nd - 1)) rq1) ?_
                          refine lv_iload_n hx hb xd_Mo_newRequire_299 rfl (lv_at hl 3 rfl) ?_
                          refine xn_zast (i := (5 * (nd - 1)) + rq1) hx hb hK.1 hP hD hS 17 2 rfl rfl (by omega) (by decide) xd_Mo_newRequire_300 (fun H locs hP hD hS => ?_)
                          have hP : va_P D xcl (moW h mm kA v (va_up (va_up g 13 (upd (g 13) ((5 * (nd - 1)) + rq1) r236)) 16 (upd (g 16) ((5 * (nd - 1)) + rq1) (vp_nar .boolean 0)))) H := hP
                          have hD : va_D A (moW h mm kA v (va_up (va_up g 13 (upd (g 13) ((5 * (nd - 1)) + rq1) r236)) 16 (upd (g 16) ((5 * (nd - 1)) + rq1) (vp_nar .boolean 0)))) := hD
                          refine lv_aload_n hx hb xd_Mo_newRequire_301 rfl (lv_at hl 2 rfl) ?_
                          refine va_get (D := D) (ci := 4) (v := .ref (mm 17)) (C := xR_Mo) (T := xT_Mo) (N := 31) hx hb hT xi_Mo hown hK.1 hP 0 rfl rfl 22 (by decide) (hT _ xq_15) (fun _ h9 => h9) rfl xd_Mo_newRequire_302 ?_
                          refine lv_iconst (v := 5) hx hb xd_Mo_newRequire_305 (by decide) ?_
                          refine lv_iload hx hb xd_Mo_newRequire_306 (lv_at hl 6 rfl) ?_
                          refine lv_imul hx hb xd_Mo_newRequire_308 ?_
                          refine xn_top (y := nI (5 * (nd - 1))) (pk_mul 5 (nd - 1)) ?_
                          refine lv_aload_n hx hb xd_Mo_newRequire_309 rfl (lv_at hl 2 rfl) ?_
                          refine va_get (D := D) (ci := 4) (v := .ref (mm 12)) (C := xR_Mo) (T := xT_Mo) (N := 31) hx hb hT xi_Mo hown hK.1 hP 0 rfl rfl 17 (by decide) (hT _ xq_12) (fun _ h9 => h9) rfl xd_Mo_newRequire_310 ?_
                          refine lv_iload hx hb xd_Mo_newRequire_313 (lv_at hl 6 rfl) ?_
                          refine xn_iald (i := nd - 1) hx hb hK.1 hP 13 0 rfl rfl (by omega) (by decide) xd_Mo_newRequire_315 ?_
                          refine xn_top (x := (g 12 (nd - 1))) (y := nI rq1) erq1 ?_
                          refine lv_iadd hx hb xd_Mo_newRequire_316 ?_
                          refine xn_top (y := nI ((5 * (nd - 1)) + rq1)) (nI_add (5 * (nd - 1)) rq1) ?_
                          refine lv_iload_n hx hb xd_Mo_newRequire_317 rfl (lv_at hl 4 rfl) ?_
                          refine xn_zast (i := (5 * (nd - 1)) + rq1) hx hb hK.1 hP hD hS 18 2 rfl rfl (by omega) (by decide) xd_Mo_newRequire_318 (fun H locs hP hD hS => ?_)
                          have hP : va_P D xcl (moW h mm kA v (va_up (va_up (va_up g 13 (upd (g 13) ((5 * (nd - 1)) + rq1) r236)) 16 (upd (g 16) ((5 * (nd - 1)) + rq1) (vp_nar .boolean 0))) 17 (upd (g 17) ((5 * (nd - 1)) + rq1) (vp_nar .boolean 0)))) H := hP
                          have hD : va_D A (moW h mm kA v (va_up (va_up (va_up g 13 (upd (g 13) ((5 * (nd - 1)) + rq1) r236)) 16 (upd (g 16) ((5 * (nd - 1)) + rq1) (vp_nar .boolean 0))) 17 (upd (g 17) ((5 * (nd - 1)) + rq1) (vp_nar .boolean 0)))) := hD
                          refine lv_aload_n hx hb xd_Mo_newRequire_319 rfl (lv_at hl 2 rfl) ?_
                          refine va_get (D := D) (ci := 4) (v := .ref (mm 12)) (C := xR_Mo) (T := xT_Mo) (N := 31) hx hb hT xi_Mo hown hK.1 hP 0 rfl rfl 17 (by decide) (hT _ xq_12) (fun _ h9 => h9) rfl xd_Mo_newRequire_320 ?_
                          refine lv_iload hx hb xd_Mo_newRequire_323 (lv_at hl 6 rfl) ?_
                          refine lv_dup2_11 hx hb xd_Mo_newRequire_325 rfl rfl ?_
                          refine xn_iald (i := nd - 1) hx hb hK.1 hP 13 0 rfl rfl (by omega) (by decide) xd_Mo_newRequire_326 ?_
                          refine xn_top (x := (g 12 (nd - 1))) (y := nI rq1) erq1 ?_
                          refine lv_iconst (v := 1) hx hb xd_Mo_newRequire_327 (by decide) ?_
                          refine lv_iadd hx hb xd_Mo_newRequire_328 ?_
                          refine xn_top (y := nI (rq1 + 1)) (nI_add rq1 1) ?_
                          refine xn_iast (i := nd - 1) hx hb hK.1 hP hD hS 13 0 rfl rfl (by omega) (by decide) xd_Mo_newRequire_329 (fun H locs hP hD hS => ?_)
                          have hP : va_P D xcl (moW h mm kA v (va_up (va_up (va_up (va_up g 12 (upd (g 12) (nd - 1) (nI (rq1 + 1)))) 13 (upd (g 13) ((5 * (nd - 1)) + rq1) r236)) 16 (upd (g 16) ((5 * (nd - 1)) + rq1) (vp_nar .boolean 0))) 17 (upd (g 17) ((5 * (nd - 1)) + rq1) (vp_nar .boolean 0)))) H := hP
                          have hD : va_D A (moW h mm kA v (va_up (va_up (va_up (va_up g 12 (upd (g 12) (nd - 1) (nI (rq1 + 1)))) 13 (upd (g 13) ((5 * (nd - 1)) + rq1) r236)) 16 (upd (g 16) ((5 * (nd - 1)) + rq1) (vp_nar .boolean 0))) 17 (upd (g 17) ((5 * (nd - 1)) + rq1) (vp_nar .boolean 0)))) := hD
                          refine lv_iconst (v := 2) hx hb xd_Mo_newRequire_330 (by decide) ?_
                          exact W.iret (v := 2) hx hb hr (fun t ht hW => ⟨⟨2, (v, (va_up (va_up (va_up (va_up g 12 (upd (g 12) (nd - 1) (nI (rq1 + 1)))) 13 (upd (g 13) ((5 * (nd - 1)) + rq1) r236)) 16 (upd (g 16) ((5 * (nd - 1)) + rq1) (vp_nar .boolean 0))) 17 (upd (g 17) ((5 * (nd - 1)) + rq1) (vp_nar .boolean 0)))), rfl, ⟨MI_g (g := va_up g 12 (upd (g 12) (nd - 1) (nI (rq1 + 1)))) rfl rfl rfl rfl rfl rfl rfl rfl (MI_rq (by omega) hMI), rfl, Or.inr (Or.inr (Or.inr rfl))⟩, by rw [ht]; exact hP, hD⟩, hS.F ht⟩) hS.2.2 xd_Mo_newRequire_331
                        · refine lv_bipush (v := (-2)) hx hb xd_Mo_newRequire_261 (by decide) ?_
                          exact W.iret (v := (-2)) hx hb hr (fun t ht hW => ⟨⟨(-2), (v, g), rfl, ⟨hMI, rfl, Or.inr (Or.inl rfl)⟩, by rw [ht]; exact hP, hD⟩, hS.F ht⟩) hS.2.2 xd_Mo_newRequire_263
                    · refine lv_iconst (v := (-1)) hx hb xd_Mo_newRequire_241 (by decide) ?_
                      exact W.iret (v := (-1)) hx hb hr (fun t ht hW => ⟨⟨(-1), (v, g), rfl, ⟨hMI, rfl, Or.inl rfl⟩, by rw [ht]; exact hP, hD⟩, hS.F ht⟩) hS.2.2 xd_Mo_newRequire_242
                  · refine lv_iload hx hb xd_Mo_newRequire_206 (lv_at hl 1 rfl) ?_
                    refine lv_if_ne (tgt := 223) hx hb xd_Mo_newRequire_208 (by decide) (fun hc280 => ?_) (fun hc280 => ?_)
                    · refine lv_iconst (v := 1) hx hb xd_Mo_newRequire_223 (by decide) ?_
                      refine lv_goto (tgt := 228) hx hb xd_Mo_newRequire_224 (by decide) ?_
                      refine lv_istore hx hb xd_Mo_newRequire_228 hl (Nat.le_of_ble_eq_true rfl) rfl (fun ls hl => ?_)
                      have hl : lv_has ls 8 [(6, .int 1), (7, .int (nI i)), (0, .ref h), (2, .int 0), (3, .int 0), (4, .int r236), (5, .int (nI (nd - 1)))] := hl
                      refine lv_iinc (k := 1) (x := (nI i)) (v := (nI (i + 1))) hx hb xd_Mo_newRequire_230 hl rfl (xb_inc i 1) (Nat.le_of_ble_eq_true rfl) rfl (fun ls hl => ?_)
                      have hl : lv_has ls 8 [(7, .int (nI (i + 1))), (6, .int 1), (0, .ref h), (2, .int 0), (3, .int 0), (4, .int r236), (5, .int (nI (nd - 1)))] := hl
                      refine lv_goto (tgt := 184) hx hb xd_Mo_newRequire_233 (by decide) ?_
                      exact ih267 (i + 1, 1) _ _ _ (show 5 * (nd - 1) + rq1 - (i + 1) < 5 * (nd - 1) + rq1 - i by omega) (lv_sub hl [0, 1, 2, 3, 4, 5, 6] rfl) hP hD hS ⟨(show 5 * (nd - 1) ≤ (i + 1) from by first | assumption | omega), (show (i + 1) ≤ 5 * (nd - 1) + rq1 from by first | assumption | omega)⟩
                    · refine lv_aload_n hx hb xd_Mo_newRequire_211 rfl (lv_at hl 2 rfl) ?_
                      refine va_get (D := D) (ci := 4) (v := .ref (mm 13)) (C := xR_Mo) (T := xT_Mo) (N := 31) hx hb hT xi_Mo hown hK.1 hP 0 rfl rfl 18 (by decide) (hT _ xq_13) (fun _ h9 => h9) rfl xd_Mo_newRequire_212 ?_
                      refine lv_iload hx hb xd_Mo_newRequire_215 (lv_at hl 0 rfl) ?_
                      refine xn_iald (i := i) hx hb hK.1 hP 14 0 rfl rfl (by omega) (by decide) xd_Mo_newRequire_217 ?_
                      refine lv_iload hx hb xd_Mo_newRequire_218 (lv_at hl 5 rfl) ?_
                      refine lv_icmp_ne (tgt := 227) hx hb xd_Mo_newRequire_220 (by decide) (fun hc281 => ?_) (fun hc281 => ?_)
                      · refine lv_iconst (v := 0) hx hb xd_Mo_newRequire_227 (by decide) ?_
                        refine lv_istore hx hb xd_Mo_newRequire_228 hl (Nat.le_of_ble_eq_true rfl) rfl (fun ls hl => ?_)
                        have hl : lv_has ls 8 [(6, .int 0), (7, .int (nI i)), (0, .ref h), (2, .int 0), (3, .int 0), (4, .int r236), (5, .int (nI (nd - 1)))] := hl
                        refine lv_iinc (k := 1) (x := (nI i)) (v := (nI (i + 1))) hx hb xd_Mo_newRequire_230 hl rfl (xb_inc i 1) (Nat.le_of_ble_eq_true rfl) rfl (fun ls hl => ?_)
                        have hl : lv_has ls 8 [(7, .int (nI (i + 1))), (6, .int 0), (0, .ref h), (2, .int 0), (3, .int 0), (4, .int r236), (5, .int (nI (nd - 1)))] := hl
                        refine lv_goto (tgt := 184) hx hb xd_Mo_newRequire_233 (by decide) ?_
                        exact ih267 (i + 1, 0) _ _ _ (show 5 * (nd - 1) + rq1 - (i + 1) < 5 * (nd - 1) + rq1 - i by omega) (lv_sub hl [0, 1, 2, 3, 4, 5, 6] rfl) hP hD hS ⟨(show 5 * (nd - 1) ≤ (i + 1) from by first | assumption | omega), (show (i + 1) ≤ 5 * (nd - 1) + rq1 from by first | assumption | omega)⟩
                      · refine lv_iconst (v := 1) hx hb xd_Mo_newRequire_223 (by decide) ?_
                        refine lv_goto (tgt := 228) hx hb xd_Mo_newRequire_224 (by decide) ?_
                        refine lv_istore hx hb xd_Mo_newRequire_228 hl (Nat.le_of_ble_eq_true rfl) rfl (fun ls hl => ?_)
                        have hl : lv_has ls 8 [(6, .int 1), (7, .int (nI i)), (0, .ref h), (2, .int 0), (3, .int 0), (4, .int r236), (5, .int (nI (nd - 1)))] := hl
                        refine lv_iinc (k := 1) (x := (nI i)) (v := (nI (i + 1))) hx hb xd_Mo_newRequire_230 hl rfl (xb_inc i 1) (Nat.le_of_ble_eq_true rfl) rfl (fun ls hl => ?_)
                        have hl : lv_has ls 8 [(7, .int (nI (i + 1))), (6, .int 1), (0, .ref h), (2, .int 0), (3, .int 0), (4, .int r236), (5, .int (nI (nd - 1)))] := hl
                        refine lv_goto (tgt := 184) hx hb xd_Mo_newRequire_233 (by decide) ?_
                        exact ih267 (i + 1, 1) _ _ _ (show 5 * (nd - 1) + rq1 - (i + 1) < 5 * (nd - 1) + rq1 - i by omega) (lv_sub hl [0, 1, 2, 3, 4, 5, 6] rfl) hP hD hS ⟨(show 5 * (nd - 1) ≤ (i + 1) from by first | assumption | omega), (show (i + 1) ≤ 5 * (nd - 1) + rq1 from by first | assumption | omega)⟩
            · refine lv_iconst (v := (-1)) hx hb xd_Mo_newRequire_144 (by decide) ?_
              exact W.iret (v := (-1)) hx hb hr (fun t ht hW => ⟨⟨(-1), (v, g), rfl, ⟨hMI, rfl, Or.inl rfl⟩, by rw [ht]; exact hP, hD⟩, hS.F ht⟩) hS.2.2 xd_Mo_newRequire_145
        · refine xz_eq (a := 1) (tgt := 104) hx hb xd_Mo_newRequire_97 (by decide) (by omega) (fun hc282 => absurd hc282 (by omega)) (fun _ => ?_)
          refine lv_iconst (v := 1) hx hb xd_Mo_newRequire_100 (by decide) ?_
          refine lv_goto (tgt := 105) hx hb xd_Mo_newRequire_101 (by decide) ?_
          refine lv_istore_n hx hb xd_Mo_newRequire_105 rfl hl (Nat.le_of_ble_eq_true rfl) rfl (fun ls hl => ?_)
          have hl : lv_has ls 8 [(3, .int 1), (1, .int 1), (2, .int 0), (0, .ref h)] := hl
          refine lv_iload_n hx hb xd_Mo_newRequire_106 rfl (lv_at hl 0 rfl) ?_
          refine xz_eq (a := 1) (tgt := 116) hx hb xd_Mo_newRequire_107 (by decide) (by omega) (fun hc283 => absurd hc283 (by omega)) (fun _ => ?_)
          refine lv_iload_n hx hb xd_Mo_newRequire_110 rfl (lv_at hl 1 rfl) ?_
          refine lv_iconst (v := 1) hx hb xd_Mo_newRequire_111 (by decide) ?_
          refine lv_iadd hx hb xd_Mo_newRequire_112 ?_
          refine xn_top (y := nI (2)) (nI_add 1 1) ?_
          refine lv_goto (tgt := 117) hx hb xd_Mo_newRequire_113 (by decide) ?_
          refine lv_istore_n hx hb xd_Mo_newRequire_117 rfl hl (Nat.le_of_ble_eq_true rfl) rfl (fun ls hl => ?_)
          have hl : lv_has ls 8 [(1, .int (nI 2)), (3, .int 1), (2, .int 0), (0, .ref h)] := hl
          refine lv_aload_n hx hb xd_Mo_newRequire_118 rfl (lv_at hl 3 rfl) ?_
          refine va_get (D := D) (ci := 4) (v := .int (v 3)) (C := xR_Mo) (T := xT_Mo) (N := 31) hx hb hT xi_Mo hown hK.1 hP 0 rfl rfl 4 (by decide) (hT _ xq_0) (fun _ h9 => h9) rfl xd_Mo_newRequire_119 ?_
          refine xn_top (x := (v 3)) (y := nI wn) hwn ?_
          refine lv_iload_n hx hb xd_Mo_newRequire_122 rfl (lv_at hl 0 rfl) ?_
          refine lv_iconst (v := 1) hx hb xd_Mo_newRequire_123 (by decide) ?_
          refine lv_iadd hx hb xd_Mo_newRequire_124 ?_
          refine xn_top (y := nI (3)) (nI_add 2 1) ?_
          refine xn_ne (a := wn) (b := 3) (tgt := 136) hx hb xd_Mo_newRequire_125 (by decide) (by omega) (by omega) (fun hc284 => ?_) (fun hc284 => ?_)
          · refine lv_iconst (v := 0) hx hb xd_Mo_newRequire_136 (by decide) ?_
            refine lv_istore hx hb xd_Mo_newRequire_137 hl (Nat.le_of_ble_eq_true rfl) rfl (fun ls hl => ?_)
            have hl : lv_has ls 8 [(4, .int 0), (1, .int (nI 2)), (3, .int 1), (2, .int 0), (0, .ref h)] := hl
            refine lv_iload hx hb xd_Mo_newRequire_139 (lv_at hl 0 rfl) ?_
            refine xz_ne (a := 0) (tgt := 146) hx hb xd_Mo_newRequire_141 (by decide) (by omega) (fun hc285 => absurd hc285 (by omega)) (fun _ => ?_)
            refine lv_iconst (v := (-1)) hx hb xd_Mo_newRequire_144 (by decide) ?_
            exact W.iret (v := (-1)) hx hb hr (fun t ht hW => ⟨⟨(-1), (v, g), rfl, ⟨hMI, rfl, Or.inl rfl⟩, by rw [ht]; exact hP, hD⟩, hS.F ht⟩) hS.2.2 xd_Mo_newRequire_145
          · obtain ⟨b2, e2, hbe2, he2, eb2, ee2⟩ := hws 2 (by omega)
            refine lv_aload_n hx hb xd_Mo_newRequire_128 rfl (lv_at hl 3 rfl) ?_
            refine lv_iload_n hx hb xd_Mo_newRequire_129 rfl (lv_at hl 0 rfl) ?_
            have hFc := va_free (wc := (moW h mm kA v g)) hD hS hA [0, 1, 2, 3, 4, 5, 6, 7, 8, 9, 10, 11, 12, 13, 14, 15, 16, 17, 18, 19, 20, 21, 22, 23, 24, 25] rfl
            refine va_calli (va_runV (As := [.int (nI 2)]) (rest := []) ⟨hx, hb, hml, hown, hT⟩ (xc_Mo_nameOf l D kA H.size h mm v g 2 b2 e2 (by first | assumption | omega) (by first | assumption | omega) (by first | assumption | omega) (by first | assumption | omega) (by first | assumption | omega)) (cwV 1 hT (wT_V xq_2 xq_3 xq_4 xq_5 xq_1) rfl rfl rfl (by decide +kernel) ⟨Nat.le_of_ble_eq_true rfl, Nat.le_of_ble_eq_true rfl⟩) (x_preV hK hP hD 0 rfl rfl) rfl rfl hl.1 rfl (lv_room (Nat.le_of_ble_eq_true rfl)) xd_Mo_newRequire_130 ⟨Nat.le_of_ble_eq_true rfl, Nat.le_of_ble_eq_true rfl⟩) hS (fun q _ h => hFc q h) hFc (fun r286 u287 t H1 locs ht hvm hp288 hB hz1 hk1 hS => ?_)
            obtain ⟨hP1, hD1⟩ := hB
            rw [ht] at hP1
            have hD1 := hD1.weaken (fun _ _ _ h => hFc _ h)
            generalize H1 = H at hP1 hS ⊢
            have hP := hP1
            have hD := hD1
            have hP : va_P D xcl (moW h mm kA v g) H := hP
            have hD : va_D A (moW h mm kA v g) := hD
            refine lv_goto (tgt := 137) hx hb xd_Mo_newRequire_133 (by decide) ?_
            refine lv_istore hx hb xd_Mo_newRequire_137 hl (Nat.le_of_ble_eq_true rfl) rfl (fun ls hl => ?_)
            have hl : lv_has ls 8 [(4, .int r286), (1, .int (nI 2)), (3, .int 1), (2, .int 0), (0, .ref h)] := hl
            refine lv_iload hx hb xd_Mo_newRequire_139 (lv_at hl 0 rfl) ?_
            refine lv_if_ne (tgt := 146) hx hb xd_Mo_newRequire_141 (by decide) (fun hc289 => ?_) (fun hc289 => ?_)
            · rcases Nat.eq_zero_or_pos nd with hz | hz
              · have hnd0 : v 4 = nI 0 := by rw [hnd, hz]
                refine lv_aload_n hx hb xd_Mo_newRequire_146 rfl (lv_at hl 4 rfl) ?_
                refine va_get (D := D) (ci := 4) (v := .int (v 4)) (C := xR_Mo) (T := xT_Mo) (N := 31) hx hb hT xi_Mo hown hK.1 hP 0 rfl rfl 7 (by decide) (hT _ xq_6) (fun _ h9 => h9) rfl xd_Mo_newRequire_147 ?_
                refine xn_top (x := (v 4)) (y := nI 0) hnd0 ?_
                refine lv_iconst (v := 1) hx hb xd_Mo_newRequire_150 (by decide) ?_
                refine lv_isub hx hb xd_Mo_newRequire_151 ?_
                refine lv_istore hx hb xd_Mo_newRequire_152 hl (Nat.le_of_ble_eq_true rfl) rfl (fun ls hl => ?_)
                have hl : lv_has ls 8 [(5, .int ((nI 0) - 1)), (4, .int r286), (1, .int (nI 2)), (3, .int 1), (2, .int 0), (0, .ref h)] := hl
                refine lv_iload hx hb xd_Mo_newRequire_154 (lv_at hl 0 rfl) ?_
                refine lv_if_lt (tgt := 175) hx hb xd_Mo_newRequire_156 (by decide) (fun _ => ?_) (fun hc290 => absurd hc290 (by decide))
                refine lv_iconst (v := 0) hx hb xd_Mo_newRequire_175 (by decide) ?_
                refine lv_istore hx hb xd_Mo_newRequire_176 hl (Nat.le_of_ble_eq_true rfl) rfl (fun ls hl => ?_)
                have hl : lv_has ls 8 [(6, .int 0), (5, .int ((nI 0) - 1)), (4, .int r286), (1, .int (nI 2)), (3, .int 1), (2, .int 0), (0, .ref h)] := hl
                refine lv_iconst (v := 5) hx hb xd_Mo_newRequire_178 (by decide) ?_
                refine lv_iload hx hb xd_Mo_newRequire_179 (lv_at hl 1 rfl) ?_
                refine lv_imul hx hb xd_Mo_newRequire_181 ?_
                refine lv_istore hx hb xd_Mo_newRequire_182 hl (Nat.le_of_ble_eq_true rfl) rfl (fun ls hl => ?_)
                have hl : lv_has ls 8 [(7, .int (5 * ((nI 0) - 1))), (6, .int 0), (5, .int ((nI 0) - 1)), (4, .int r286), (1, .int (nI 2)), (3, .int 1), (2, .int 0), (0, .ref h)] := hl
                refine lv_iload hx hb xd_Mo_newRequire_184 (lv_at hl 2 rfl) ?_
                refine lv_if_lt (tgt := 236) hx hb xd_Mo_newRequire_186 (by decide) (fun _ => ?_) (fun hc291 => absurd hc291 (by decide))
                refine lv_iload hx hb xd_Mo_newRequire_236 (lv_at hl 1 rfl) ?_
                refine xz_eq (a := 0) (tgt := 243) hx hb xd_Mo_newRequire_238 (by decide) (by omega) (fun _ => ?_) (fun hc292 => absurd hc292 (by omega))
                refine lv_aload_n hx hb xd_Mo_newRequire_243 rfl (lv_at hl 7 rfl) ?_
                have hFc := va_free (wc := (moW h mm kA v g)) hD hS hA [0, 1, 2, 3, 4, 5, 6, 7, 8, 9, 10, 11, 12, 13, 14, 15, 16, 17, 18, 19, 20, 21, 22, 23, 24, 25] rfl
                refine va_calli (va_runV (As := []) (rest := []) ⟨hx, hb, hml, hown, hT⟩ (xc_Mo_isShut l D kA H.size h mm v g nd (by first | assumption | omega) (by first | assumption | omega)) (cwV 0 hT (wT_V xq_8 xq_9 xq_10 xq_5 xq_7) rfl rfl rfl (by decide +kernel) ⟨Nat.le_of_ble_eq_true rfl, Nat.le_of_ble_eq_true rfl⟩) (x_preV hK hP hD 0 rfl rfl) rfl rfl hl.1 rfl (lv_room (Nat.le_of_ble_eq_true rfl)) xd_Mo_newRequire_244 ⟨Nat.le_of_ble_eq_true rfl, Nat.le_of_ble_eq_true rfl⟩) hS (fun q _ h => hFc q h) hFc (fun r293 u294 t H1 locs ht hvm hp295 hB hz1 hk1 hS => ?_)
                obtain ⟨hP1, hD1⟩ := hB
                rw [ht] at hP1
                have hD1 := hD1.weaken (fun _ _ _ h => hFc _ h)
                generalize H1 = H at hP1 hS ⊢
                have hP := hP1
                have hD := hD1
                have hP : va_P D xcl (moW h mm kA v g) H := hP
                have hD : va_D A (moW h mm kA v g) := hD
                rcases hp295 with ⟨rfl, z296⟩ | ⟨rfl, z297, z298⟩
                · refine xz_ne (a := 1) (tgt := 261) hx hb xd_Mo_newRequire_247 (by decide) (by omega) (fun _ => ?_) (fun hc299 => absurd hc299 (by omega))
                  refine lv_bipush (v := (-2)) hx hb xd_Mo_newRequire_261 (by decide) ?_
                  exact W.iret (v := (-2)) hx hb hr (fun t ht hW => ⟨⟨(-2), (v, g), rfl, ⟨hMI, rfl, Or.inr (Or.inl rfl)⟩, by rw [ht]; exact hP, hD⟩, hS.F ht⟩) hS.2.2 xd_Mo_newRequire_263
                · exact absurd hz z297
              · refine lv_aload_n hx hb xd_Mo_newRequire_146 rfl (lv_at hl 4 rfl) ?_
                refine va_get (D := D) (ci := 4) (v := .int (v 4)) (C := xR_Mo) (T := xT_Mo) (N := 31) hx hb hT xi_Mo hown hK.1 hP 0 rfl rfl 7 (by decide) (hT _ xq_6) (fun _ h9 => h9) rfl xd_Mo_newRequire_147 ?_
                refine xn_top (x := (v 4)) (y := nI nd) hnd ?_
                refine lv_iconst (v := 1) hx hb xd_Mo_newRequire_150 (by decide) ?_
                refine lv_isub hx hb xd_Mo_newRequire_151 ?_
                refine xn_top (y := nI (nd - 1)) (pk_sub (a := nd) (b := 1) (by omega)) ?_
                refine lv_istore hx hb xd_Mo_newRequire_152 hl (Nat.le_of_ble_eq_true rfl) rfl (fun ls hl => ?_)
                have hl : lv_has ls 8 [(5, .int (nI (nd - 1))), (4, .int r286), (1, .int (nI 2)), (3, .int 1), (2, .int 0), (0, .ref h)] := hl
                refine lv_iload hx hb xd_Mo_newRequire_154 (lv_at hl 0 rfl) ?_
                refine xz_lt (a := nd - 1) (tgt := 175) hx hb xd_Mo_newRequire_156 (by decide) (by omega) ?_
                obtain ⟨rq1, hrq1, erq1⟩ := hrq (nd - 1) (by omega)
                refine lv_aload_n hx hb xd_Mo_newRequire_159 rfl (lv_at hl 5 rfl) ?_
                refine va_get (D := D) (ci := 4) (v := .ref (mm 4)) (C := xR_Mo) (T := xT_Mo) (N := 31) hx hb hT xi_Mo hown hK.1 hP 0 rfl rfl 9 (by decide) (hT _ xq_11) (fun _ h9 => h9) rfl xd_Mo_newRequire_160 ?_
                refine lv_iload hx hb xd_Mo_newRequire_163 (lv_at hl 0 rfl) ?_
                refine xn_iald (i := nd - 1) hx hb hK.1 hP 5 0 rfl rfl (by omega) (by decide) xd_Mo_newRequire_165 ?_
                refine lv_iload hx hb xd_Mo_newRequire_166 (lv_at hl 1 rfl) ?_
                refine lv_icmp_ne (tgt := 175) hx hb xd_Mo_newRequire_168 (by decide) (fun hc301 => ?_) (fun hc301 => ?_)
                · refine lv_iconst (v := 0) hx hb xd_Mo_newRequire_175 (by decide) ?_
                  refine lv_istore hx hb xd_Mo_newRequire_176 hl (Nat.le_of_ble_eq_true rfl) rfl (fun ls hl => ?_)
                  have hl : lv_has ls 8 [(6, .int 0), (5, .int (nI (nd - 1))), (4, .int r286), (1, .int (nI 2)), (3, .int 1), (2, .int 0), (0, .ref h)] := hl
                  refine lv_iconst (v := 5) hx hb xd_Mo_newRequire_178 (by decide) ?_
                  refine lv_iload hx hb xd_Mo_newRequire_179 (lv_at hl 1 rfl) ?_
                  refine lv_imul hx hb xd_Mo_newRequire_181 ?_
                  refine xn_top (y := nI (5 * (nd - 1))) (pk_mul 5 (nd - 1)) ?_
                  refine lv_istore hx hb xd_Mo_newRequire_182 hl (Nat.le_of_ble_eq_true rfl) rfl (fun ls hl => ?_)
                  have hl : lv_has ls 8 [(7, .int (nI (5 * (nd - 1)))), (6, .int 0), (5, .int (nI (nd - 1))), (4, .int r286), (1, .int (nI 2)), (3, .int 1), (2, .int 0), (0, .ref h)] := hl
                  refine xlab (σ := Nat × Int32) (ml := 8) 184 (fun (i, tw) => [(7, .int (nI i)), (6, .int tw), (0, .ref h), (2, .int 0), (3, .int 1), (4, .int r286), (5, .int (nI (nd - 1)))]) (fun (i, tw) => []) (fun (i, tw) => moW h mm kA v g) (fun (i, tw) => (5 * (nd - 1) ≤ i) ∧ (i ≤ 5 * (nd - 1) + rq1)) (fun (i, tw) => 5 * (nd - 1) + rq1 - i) ?_ (5 * (nd - 1), 0) _ _ _ (lv_sub hl [0, 1, 7, 6, 5, 3, 2] rfl) hP hD hS ⟨(show 5 * (nd - 1) ≤ (5 * (nd - 1)) from by first | assumption | omega), (show (5 * (nd - 1)) ≤ 5 * (nd - 1) + rq1 from by first | assumption | omega)⟩
                  intro n9 ih302 a9 ls H locs hμ hl hP hD hS hI
                  subst hμ
                  obtain ⟨i, tw⟩ := a9
                  obtain ⟨hi1, hi2⟩ := hI
                  have hi1 : 5 * (nd - 1) ≤ i := hi1
                  have hi2 : i ≤ 5 * (nd - 1) + rq1 := hi2
                  have hl : lv_has ls 8 [(7, .int (nI i)), (6, .int tw), (0, .ref h), (2, .int 0), (3, .int 1), (4, .int r286), (5, .int (nI (nd - 1)))] := hl
                  have hP : va_P D xcl (moW h mm kA v g) H := hP
                  have hD : va_D A (moW h mm kA v g) := hD
                  refine lv_iload hx hb xd_Mo_newRequire_184 (lv_at hl 6 rfl) ?_
                  refine xz_lt (a := nd - 1) (tgt := 236) hx hb xd_Mo_newRequire_186 (by decide) (by omega) ?_
                  refine lv_iload hx hb xd_Mo_newRequire_189 (lv_at hl 0 rfl) ?_
                  refine lv_iconst (v := 5) hx hb xd_Mo_newRequire_191 (by decide) ?_
                  refine lv_iload hx hb xd_Mo_newRequire_192 (lv_at hl 6 rfl) ?_
                  refine lv_imul hx hb xd_Mo_newRequire_194 ?_
                  refine xn_top (y := nI (5 * (nd - 1))) (pk_mul 5 (nd - 1)) ?_
                  refine lv_aload_n hx hb xd_Mo_newRequire_195 rfl (lv_at hl 2 rfl) ?_
                  refine va_get (D := D) (ci := 4) (v := .ref (mm 12)) (C := xR_Mo) (T := xT_Mo) (N := 31) hx hb hT xi_Mo hown hK.1 hP 0 rfl rfl 17 (by decide) (hT _ xq_12) (fun _ h9 => h9) rfl xd_Mo_newRequire_196 ?_
                  refine lv_iload hx hb xd_Mo_newRequire_199 (lv_at hl 6 rfl) ?_
                  refine xn_iald (i := nd - 1) hx hb hK.1 hP 13 0 rfl rfl (by omega) (by decide) xd_Mo_newRequire_201 ?_
                  refine xn_top (x := (g 12 (nd - 1))) (y := nI rq1) erq1 ?_
                  refine lv_iadd hx hb xd_Mo_newRequire_202 ?_
                  refine xn_top (y := nI ((5 * (nd - 1)) + rq1)) (nI_add (5 * (nd - 1)) rq1) ?_
                  refine xn_ge (a := i) (b := (5 * (nd - 1)) + rq1) (tgt := 236) hx hb xd_Mo_newRequire_203 (by decide) (by omega) (by omega) (fun hc304 => ?_) (fun hc304 => ?_)
                  · refine lv_iload hx hb xd_Mo_newRequire_236 (lv_at hl 1 rfl) ?_
                    refine lv_if_eq (tgt := 243) hx hb xd_Mo_newRequire_238 (by decide) (fun hc305 => ?_) (fun hc305 => ?_)
                    · refine lv_aload_n hx hb xd_Mo_newRequire_243 rfl (lv_at hl 2 rfl) ?_
                      have hFc := va_free (wc := (moW h mm kA v g)) hD hS hA [0, 1, 2, 3, 4, 5, 6, 7, 8, 9, 10, 11, 12, 13, 14, 15, 16, 17, 18, 19, 20, 21, 22, 23, 24, 25] rfl
                      refine va_calli (va_runV (As := []) (rest := []) ⟨hx, hb, hml, hown, hT⟩ (xc_Mo_isShut l D kA H.size h mm v g nd (by first | assumption | omega) (by first | assumption | omega)) (cwV 0 hT (wT_V xq_8 xq_9 xq_10 xq_5 xq_7) rfl rfl rfl (by decide +kernel) ⟨Nat.le_of_ble_eq_true rfl, Nat.le_of_ble_eq_true rfl⟩) (x_preV hK hP hD 0 rfl rfl) rfl rfl hl.1 rfl (lv_room (Nat.le_of_ble_eq_true rfl)) xd_Mo_newRequire_244 ⟨Nat.le_of_ble_eq_true rfl, Nat.le_of_ble_eq_true rfl⟩) hS (fun q _ h => hFc q h) hFc (fun r306 u307 t H1 locs ht hvm hp308 hB hz1 hk1 hS => ?_)
                      obtain ⟨hP1, hD1⟩ := hB
                      rw [ht] at hP1
                      have hD1 := hD1.weaken (fun _ _ _ h => hFc _ h)
                      generalize H1 = H at hP1 hS ⊢
                      have hP := hP1
                      have hD := hD1
                      have hP : va_P D xcl (moW h mm kA v g) H := hP
                      have hD : va_D A (moW h mm kA v g) := hD
                      rcases hp308 with ⟨rfl, z309⟩ | ⟨rfl, z310, z311⟩
                      · refine xz_ne (a := 1) (tgt := 261) hx hb xd_Mo_newRequire_247 (by decide) (by omega) (fun _ => ?_) (fun hc312 => absurd hc312 (by omega))
                        refine lv_bipush (v := (-2)) hx hb xd_Mo_newRequire_261 (by decide) ?_
                        exact W.iret (v := (-2)) hx hb hr (fun t ht hW => ⟨⟨(-2), (v, g), rfl, ⟨hMI, rfl, Or.inr (Or.inl rfl)⟩, by rw [ht]; exact hP, hD⟩, hS.F ht⟩) hS.2.2 xd_Mo_newRequire_263
                      · refine xz_ne (a := 0) (tgt := 261) hx hb xd_Mo_newRequire_247 (by decide) (by omega) (fun hc313 => absurd hc313 (by omega)) (fun _ => ?_)
                        refine lv_aload_n hx hb xd_Mo_newRequire_250 rfl (lv_at hl 2 rfl) ?_
                        refine va_get (D := D) (ci := 4) (v := .ref (mm 12)) (C := xR_Mo) (T := xT_Mo) (N := 31) hx hb hT xi_Mo hown hK.1 hP 0 rfl rfl 17 (by decide) (hT _ xq_12) (fun _ h9 => h9) rfl xd_Mo_newRequire_251 ?_
                        refine lv_iload hx hb xd_Mo_newRequire_254 (lv_at hl 6 rfl) ?_
                        refine xn_iald (i := nd - 1) hx hb hK.1 hP 13 0 rfl rfl (by omega) (by decide) xd_Mo_newRequire_256 ?_
                        refine xn_top (x := (g 12 (nd - 1))) (y := nI rq1) erq1 ?_
                        refine lv_iconst (v := 5) hx hb xd_Mo_newRequire_257 (by decide) ?_
                        refine xn_ne (a := rq1) (b := 5) (tgt := 264) hx hb xd_Mo_newRequire_258 (by decide) (by omega) (by omega) (fun hc314 => ?_) (fun hc314 => ?_)
                        · refine lv_aload_n hx hb xd_Mo_newRequire_264 rfl (lv_at hl 2 rfl) ?_
                          refine va_get (D := D) (ci := 4) (v := .ref (mm 13)) (C := xR_Mo) (T := xT_Mo) (N := 31) hx hb hT xi_Mo hown hK.1 hP 0 rfl rfl 18 (by decide) (hT _ xq_13) (fun _ h9 => h9) rfl xd_Mo_newRequire_265 ?_
                          refine lv_iconst (v := 5) hx hb xd_Mo_newRequire_268 (by decide) ?_
                          refine lv_iload hx hb xd_Mo_newRequire_269 (lv_at hl 6 rfl) ?_
                          refine lv_imul hx hb xd_Mo_newRequire_271 ?_
                          refine xn_top (y := nI (5 * (nd - 1))) (pk_mul 5 (nd - 1)) ?_
                          refine lv_aload_n hx hb xd_Mo_newRequire_272 rfl (lv_at hl 2 rfl) ?_
                          refine va_get (D := D) (ci := 4) (v := .ref (mm 12)) (C := xR_Mo) (T := xT_Mo) (N := 31) hx hb hT xi_Mo hown hK.1 hP 0 rfl rfl 17 (by decide) (hT _ xq_12) (fun _ h9 => h9) rfl xd_Mo_newRequire_273 ?_
                          refine lv_iload hx hb xd_Mo_newRequire_276 (lv_at hl 6 rfl) ?_
                          refine xn_iald (i := nd - 1) hx hb hK.1 hP 13 0 rfl rfl (by omega) (by decide) xd_Mo_newRequire_278 ?_
                          refine xn_top (x := (g 12 (nd - 1))) (y := nI rq1) erq1 ?_
                          refine lv_iadd hx hb xd_Mo_newRequire_279 ?_
                          refine xn_top (y := nI ((5 * (nd - 1)) + rq1)) (nI_add (5 * (nd - 1)) rq1) ?_
                          refine lv_iload hx hb xd_Mo_newRequire_280 (lv_at hl 5 rfl) ?_
                          refine xn_iast (i := (5 * (nd - 1)) + rq1) hx hb hK.1 hP hD hS 14 0 rfl rfl (by omega) (by decide) xd_Mo_newRequire_282 (fun H locs hP hD hS => ?_)
                          have hP : va_P D xcl (moW h mm kA v (va_up g 13 (upd (g 13) ((5 * (nd - 1)) + rq1) r286))) H := hP
                          have hD : va_D A (moW h mm kA v (va_up g 13 (upd (g 13) ((5 * (nd - 1)) + rq1) r286))) := hD
                          refine lv_aload_n hx hb xd_Mo_newRequire_283 rfl (lv_at hl 2 rfl) ?_
                          refine va_get (D := D) (ci := 4) (v := .ref (mm 16)) (C := xR_Mo) (T := xT_Mo) (N := 31) hx hb hT xi_Mo hown hK.1 hP 0 rfl rfl 21 (by decide) (hT _ xq_14) (fun _ h9 => h9) rfl xd_Mo_newRequire_284 ?_
                          refine lv_iconst (v := 5) hx hb xd_Mo_newRequire_287 (by decide) ?_
                          refine lv_iload hx hb xd_Mo_newRequire_288 (lv_at hl 6 rfl) ?_
                          refine lv_imul hx hb xd_Mo_newRequire_290 ?_
                          refine xn_top (y := nI (5 * (nd - 1))) (pk_mul 5 (nd - 1)) ?_
                          refine lv_aload_n hx hb xd_Mo_newRequire_291 rfl (lv_at hl 2 rfl) ?_
                          refine va_get (D := D) (ci := 4) (v := .ref (mm 12)) (C := xR_Mo) (T := xT_Mo) (N := 31) hx hb hT xi_Mo hown hK.1 hP 0 rfl rfl 17 (by decide) (hT _ xq_12) (fun _ h9 => h9) rfl xd_Mo_newRequire_292 ?_
                          refine lv_iload hx hb xd_Mo_newRequire_295 (lv_at hl 6 rfl) ?_
                          refine xn_iald (i := nd - 1) hx hb hK.1 hP 13 0 rfl rfl (by omega) (by decide) xd_Mo_newRequire_297 ?_
                          refine xn_top (x := (g 12 (nd - 1))) (y := nI rq1) erq1 ?_
                          refine lv_iadd hx hb xd_Mo_newRequire_298 ?_
                          refine xn_top (y := nI ((5 * (nd - 1)) + rq1)) (nI_add (5 * (nd - 1)) rq1) ?_
                          refine lv_iload_n hx hb xd_Mo_newRequire_299 rfl (lv_at hl 3 rfl) ?_
                          refine xn_zast (i := (5 * (nd - 1)) + rq1) hx hb hK.1 hP hD hS 17 2 rfl rfl (by omega) (by decide) xd_Mo_newRequire_300 (fun H locs hP hD hS => ?_)
                          have hP : va_P D xcl (moW h mm kA v (va_up (va_up g 13 (upd (g 13) ((5 * (nd - 1)) + rq1) r286)) 16 (upd (g 16) ((5 * (nd - 1)) + rq1) (vp_nar .boolean 0)))) H := hP
                          have hD : va_D A (moW h mm kA v (va_up (va_up g 13 (upd (g 13) ((5 * (nd - 1)) + rq1) r286)) 16 (upd (g 16) ((5 * (nd - 1)) + rq1) (vp_nar .boolean 0)))) := hD
                          refine lv_aload_n hx hb xd_Mo_newRequire_301 rfl (lv_at hl 2 rfl) ?_
                          refine va_get (D := D) (ci := 4) (v := .ref (mm 17)) (C := xR_Mo) (T := xT_Mo) (N := 31) hx hb hT xi_Mo hown hK.1 hP 0 rfl rfl 22 (by decide) (hT _ xq_15) (fun _ h9 => h9) rfl xd_Mo_newRequire_302 ?_
                          refine lv_iconst (v := 5) hx hb xd_Mo_newRequire_305 (by decide) ?_
                          refine lv_iload hx hb xd_Mo_newRequire_306 (lv_at hl 6 rfl) ?_
                          refine lv_imul hx hb xd_Mo_newRequire_308 ?_
                          refine xn_top (y := nI (5 * (nd - 1))) (pk_mul 5 (nd - 1)) ?_
                          refine lv_aload_n hx hb xd_Mo_newRequire_309 rfl (lv_at hl 2 rfl) ?_
                          refine va_get (D := D) (ci := 4) (v := .ref (mm 12)) (C := xR_Mo) (T := xT_Mo) (N := 31) hx hb hT xi_Mo hown hK.1 hP 0 rfl rfl 17 (by decide) (hT _ xq_12) (fun _ h9 => h9) rfl xd_Mo_newRequire_310 ?_
                          refine lv_iload hx hb xd_Mo_newRequire_313 (lv_at hl 6 rfl) ?_
                          refine xn_iald (i := nd - 1) hx hb hK.1 hP 13 0 rfl rfl (by omega) (by decide) xd_Mo_newRequire_315 ?_
                          refine xn_top (x := (g 12 (nd - 1))) (y := nI rq1) erq1 ?_
                          refine lv_iadd hx hb xd_Mo_newRequire_316 ?_
                          refine xn_top (y := nI ((5 * (nd - 1)) + rq1)) (nI_add (5 * (nd - 1)) rq1) ?_
                          refine lv_iload_n hx hb xd_Mo_newRequire_317 rfl (lv_at hl 4 rfl) ?_
                          refine xn_zast (i := (5 * (nd - 1)) + rq1) hx hb hK.1 hP hD hS 18 2 rfl rfl (by omega) (by decide) xd_Mo_newRequire_318 (fun H locs hP hD hS => ?_)
                          have hP : va_P D xcl (moW h mm kA v (va_up (va_up (va_up g 13 (upd (g 13) ((5 * (nd - 1)) + rq1) r286)) 16 (upd (g 16) ((5 * (nd - 1)) + rq1) (vp_nar .boolean 0))) 17 (upd (g 17) ((5 * (nd - 1)) + rq1) (vp_nar .boolean 1)))) H := hP
                          have hD : va_D A (moW h mm kA v (va_up (va_up (va_up g 13 (upd (g 13) ((5 * (nd - 1)) + rq1) r286)) 16 (upd (g 16) ((5 * (nd - 1)) + rq1) (vp_nar .boolean 0))) 17 (upd (g 17) ((5 * (nd - 1)) + rq1) (vp_nar .boolean 1)))) := hD
                          refine lv_aload_n hx hb xd_Mo_newRequire_319 rfl (lv_at hl 2 rfl) ?_
                          refine va_get (D := D) (ci := 4) (v := .ref (mm 12)) (C := xR_Mo) (T := xT_Mo) (N := 31) hx hb hT xi_Mo hown hK.1 hP 0 rfl rfl 17 (by decide) (hT _ xq_12) (fun _ h9 => h9) rfl xd_Mo_newRequire_320 ?_
                          refine lv_iload hx hb xd_Mo_newRequire_323 (lv_at hl 6 rfl) ?_
                          refine lv_dup2_11 hx hb xd_Mo_newRequire_325 rfl rfl ?_
                          refine xn_iald (i := nd - 1) hx hb hK.1 hP 13 0 rfl rfl (by omega) (by decide) xd_Mo_newRequire_326 ?_
                          refine xn_top (x := (g 12 (nd - 1))) (y := nI rq1) erq1 ?_
                          refine lv_iconst (v := 1) hx hb xd_Mo_newRequire_327 (by decide) ?_
                          refine lv_iadd hx hb xd_Mo_newRequire_328 ?_
                          refine xn_top (y := nI (rq1 + 1)) (nI_add rq1 1) ?_
                          refine xn_iast (i := nd - 1) hx hb hK.1 hP hD hS 13 0 rfl rfl (by omega) (by decide) xd_Mo_newRequire_329 (fun H locs hP hD hS => ?_)
                          have hP : va_P D xcl (moW h mm kA v (va_up (va_up (va_up (va_up g 12 (upd (g 12) (nd - 1) (nI (rq1 + 1)))) 13 (upd (g 13) ((5 * (nd - 1)) + rq1) r286)) 16 (upd (g 16) ((5 * (nd - 1)) + rq1) (vp_nar .boolean 0))) 17 (upd (g 17) ((5 * (nd - 1)) + rq1) (vp_nar .boolean 1)))) H := hP
                          have hD : va_D A (moW h mm kA v (va_up (va_up (va_up (va_up g 12 (upd (g 12) (nd - 1) (nI (rq1 + 1)))) 13 (upd (g 13) ((5 * (nd - 1)) + rq1) r286)) 16 (upd (g 16) ((5 * (nd - 1)) + rq1) (vp_nar .boolean 0))) 17 (upd (g 17) ((5 * (nd - 1)) + rq1) (vp_nar .boolean 1)))) := hD
                          refine lv_iconst (v := 2) hx hb xd_Mo_newRequire_330 (by decide) ?_
                          exact W.iret (v := 2) hx hb hr (fun t ht hW => ⟨⟨2, (v, (va_up (va_up (va_up (va_up g 12 (upd (g 12) (nd - 1) (nI (rq1 + 1)))) 13 (upd (g 13) ((5 * (nd - 1)) + rq1) r286)) 16 (upd (g 16) ((5 * (nd - 1)) + rq1) (vp_nar .boolean 0))) 17 (upd (g 17) ((5 * (nd - 1)) + rq1) (vp_nar .boolean 1)))), rfl, ⟨MI_g (g := va_up g 12 (upd (g 12) (nd - 1) (nI (rq1 + 1)))) rfl rfl rfl rfl rfl rfl rfl rfl (MI_rq (by omega) hMI), rfl, Or.inr (Or.inr (Or.inr rfl))⟩, by rw [ht]; exact hP, hD⟩, hS.F ht⟩) hS.2.2 xd_Mo_newRequire_331
                        · refine lv_bipush (v := (-2)) hx hb xd_Mo_newRequire_261 (by decide) ?_
                          exact W.iret (v := (-2)) hx hb hr (fun t ht hW => ⟨⟨(-2), (v, g), rfl, ⟨hMI, rfl, Or.inr (Or.inl rfl)⟩, by rw [ht]; exact hP, hD⟩, hS.F ht⟩) hS.2.2 xd_Mo_newRequire_263
                    · refine lv_iconst (v := (-1)) hx hb xd_Mo_newRequire_241 (by decide) ?_
                      exact W.iret (v := (-1)) hx hb hr (fun t ht hW => ⟨⟨(-1), (v, g), rfl, ⟨hMI, rfl, Or.inl rfl⟩, by rw [ht]; exact hP, hD⟩, hS.F ht⟩) hS.2.2 xd_Mo_newRequire_242
                  · refine lv_iload hx hb xd_Mo_newRequire_206 (lv_at hl 1 rfl) ?_
                    refine lv_if_ne (tgt := 223) hx hb xd_Mo_newRequire_208 (by decide) (fun hc315 => ?_) (fun hc315 => ?_)
                    · refine lv_iconst (v := 1) hx hb xd_Mo_newRequire_223 (by decide) ?_
                      refine lv_goto (tgt := 228) hx hb xd_Mo_newRequire_224 (by decide) ?_
                      refine lv_istore hx hb xd_Mo_newRequire_228 hl (Nat.le_of_ble_eq_true rfl) rfl (fun ls hl => ?_)
                      have hl : lv_has ls 8 [(6, .int 1), (7, .int (nI i)), (0, .ref h), (2, .int 0), (3, .int 1), (4, .int r286), (5, .int (nI (nd - 1)))] := hl
                      refine lv_iinc (k := 1) (x := (nI i)) (v := (nI (i + 1))) hx hb xd_Mo_newRequire_230 hl rfl (xb_inc i 1) (Nat.le_of_ble_eq_true rfl) rfl (fun ls hl => ?_)
                      have hl : lv_has ls 8 [(7, .int (nI (i + 1))), (6, .int 1), (0, .ref h), (2, .int 0), (3, .int 1), (4, .int r286), (5, .int (nI (nd - 1)))] := hl
                      refine lv_goto (tgt := 184) hx hb xd_Mo_newRequire_233 (by decide) ?_
                      exact ih302 (i + 1, 1) _ _ _ (show 5 * (nd - 1) + rq1 - (i + 1) < 5 * (nd - 1) + rq1 - i by omega) (lv_sub hl [0, 1, 2, 3, 4, 5, 6] rfl) hP hD hS ⟨(show 5 * (nd - 1) ≤ (i + 1) from by first | assumption | omega), (show (i + 1) ≤ 5 * (nd - 1) + rq1 from by first | assumption | omega)⟩
                    · refine lv_aload_n hx hb xd_Mo_newRequire_211 rfl (lv_at hl 2 rfl) ?_
                      refine va_get (D := D) (ci := 4) (v := .ref (mm 13)) (C := xR_Mo) (T := xT_Mo) (N := 31) hx hb hT xi_Mo hown hK.1 hP 0 rfl rfl 18 (by decide) (hT _ xq_13) (fun _ h9 => h9) rfl xd_Mo_newRequire_212 ?_
                      refine lv_iload hx hb xd_Mo_newRequire_215 (lv_at hl 0 rfl) ?_
                      refine xn_iald (i := i) hx hb hK.1 hP 14 0 rfl rfl (by omega) (by decide) xd_Mo_newRequire_217 ?_
                      refine lv_iload hx hb xd_Mo_newRequire_218 (lv_at hl 5 rfl) ?_
                      refine lv_icmp_ne (tgt := 227) hx hb xd_Mo_newRequire_220 (by decide) (fun hc316 => ?_) (fun hc316 => ?_)
                      · refine lv_iconst (v := 0) hx hb xd_Mo_newRequire_227 (by decide) ?_
                        refine lv_istore hx hb xd_Mo_newRequire_228 hl (Nat.le_of_ble_eq_true rfl) rfl (fun ls hl => ?_)
                        have hl : lv_has ls 8 [(6, .int 0), (7, .int (nI i)), (0, .ref h), (2, .int 0), (3, .int 1), (4, .int r286), (5, .int (nI (nd - 1)))] := hl
                        refine lv_iinc (k := 1) (x := (nI i)) (v := (nI (i + 1))) hx hb xd_Mo_newRequire_230 hl rfl (xb_inc i 1) (Nat.le_of_ble_eq_true rfl) rfl (fun ls hl => ?_)
                        have hl : lv_has ls 8 [(7, .int (nI (i + 1))), (6, .int 0), (0, .ref h), (2, .int 0), (3, .int 1), (4, .int r286), (5, .int (nI (nd - 1)))] := hl
                        refine lv_goto (tgt := 184) hx hb xd_Mo_newRequire_233 (by decide) ?_
                        exact ih302 (i + 1, 0) _ _ _ (show 5 * (nd - 1) + rq1 - (i + 1) < 5 * (nd - 1) + rq1 - i by omega) (lv_sub hl [0, 1, 2, 3, 4, 5, 6] rfl) hP hD hS ⟨(show 5 * (nd - 1) ≤ (i + 1) from by first | assumption | omega), (show (i + 1) ≤ 5 * (nd - 1) + rq1 from by first | assumption | omega)⟩
                      · refine lv_iconst (v := 1) hx hb xd_Mo_newRequire_223 (by decide) ?_
                        refine lv_goto (tgt := 228) hx hb xd_Mo_newRequire_224 (by decide) ?_
                        refine lv_istore hx hb xd_Mo_newRequire_228 hl (Nat.le_of_ble_eq_true rfl) rfl (fun ls hl => ?_)
                        have hl : lv_has ls 8 [(6, .int 1), (7, .int (nI i)), (0, .ref h), (2, .int 0), (3, .int 1), (4, .int r286), (5, .int (nI (nd - 1)))] := hl
                        refine lv_iinc (k := 1) (x := (nI i)) (v := (nI (i + 1))) hx hb xd_Mo_newRequire_230 hl rfl (xb_inc i 1) (Nat.le_of_ble_eq_true rfl) rfl (fun ls hl => ?_)
                        have hl : lv_has ls 8 [(7, .int (nI (i + 1))), (6, .int 1), (0, .ref h), (2, .int 0), (3, .int 1), (4, .int r286), (5, .int (nI (nd - 1)))] := hl
                        refine lv_goto (tgt := 184) hx hb xd_Mo_newRequire_233 (by decide) ?_
                        exact ih302 (i + 1, 1) _ _ _ (show 5 * (nd - 1) + rq1 - (i + 1) < 5 * (nd - 1) + rq1 - i by omega) (lv_sub hl [0, 1, 2, 3, 4, 5, 6] rfl) hP hD hS ⟨(show 5 * (nd - 1) ≤ (i + 1) from by first | assumption | omega), (show (i + 1) ≤ 5 * (nd - 1) + rq1 from by first | assumption | omega)⟩
                · refine lv_iconst (v := 1) hx hb xd_Mo_newRequire_171 (by decide) ?_
                  refine lv_goto (tgt := 176) hx hb xd_Mo_newRequire_172 (by decide) ?_
                  refine lv_istore hx hb xd_Mo_newRequire_176 hl (Nat.le_of_ble_eq_true rfl) rfl (fun ls hl => ?_)
                  have hl : lv_has ls 8 [(6, .int 1), (5, .int (nI (nd - 1))), (4, .int r286), (1, .int (nI 2)), (3, .int 1), (2, .int 0), (0, .ref h)] := hl
                  refine lv_iconst (v := 5) hx hb xd_Mo_newRequire_178 (by decide) ?_
                  refine lv_iload hx hb xd_Mo_newRequire_179 (lv_at hl 1 rfl) ?_
                  refine lv_imul hx hb xd_Mo_newRequire_181 ?_
                  refine xn_top (y := nI (5 * (nd - 1))) (pk_mul 5 (nd - 1)) ?_
                  refine lv_istore hx hb xd_Mo_newRequire_182 hl (Nat.le_of_ble_eq_true rfl) rfl (fun ls hl => ?_)
                  have hl : lv_has ls 8 [(7, .int (nI (5 * (nd - 1)))), (6, .int 1), (5, .int (nI (nd - 1))), (4, .int r286), (1, .int (nI 2)), (3, .int 1), (2, .int 0), (0, .ref h)] := hl
                  refine xlab (σ := Nat × Int32) (ml := 8) 184 (fun (i, tw) => [(7, .int (nI i)), (6, .int tw), (0, .ref h), (2, .int 0), (3, .int 1), (4, .int r286), (5, .int (nI (nd - 1)))]) (fun (i, tw) => []) (fun (i, tw) => moW h mm kA v g) (fun (i, tw) => (5 * (nd - 1) ≤ i) ∧ (i ≤ 5 * (nd - 1) + rq1)) (fun (i, tw) => 5 * (nd - 1) + rq1 - i) ?_ (5 * (nd - 1), 1) _ _ _ (lv_sub hl [0, 1, 7, 6, 5, 3, 2] rfl) hP hD hS ⟨(show 5 * (nd - 1) ≤ (5 * (nd - 1)) from by first | assumption | omega), (show (5 * (nd - 1)) ≤ 5 * (nd - 1) + rq1 from by first | assumption | omega)⟩
                  intro n9 ih317 a9 ls H locs hμ hl hP hD hS hI
                  subst hμ
                  obtain ⟨i, tw⟩ := a9
                  obtain ⟨hi1, hi2⟩ := hI
                  have hi1 : 5 * (nd - 1) ≤ i := hi1
                  have hi2 : i ≤ 5 * (nd - 1) + rq1 := hi2
                  have hl : lv_has ls 8 [(7, .int (nI i)), (6, .int tw), (0, .ref h), (2, .int 0), (3, .int 1), (4, .int r286), (5, .int (nI (nd - 1)))] := hl
                  have hP : va_P D xcl (moW h mm kA v g) H := hP
                  have hD : va_D A (moW h mm kA v g) := hD
                  refine lv_iload hx hb xd_Mo_newRequire_184 (lv_at hl 6 rfl) ?_
                  refine xz_lt (a := nd - 1) (tgt := 236) hx hb xd_Mo_newRequire_186 (by decide) (by omega) ?_
                  refine lv_iload hx hb xd_Mo_newRequire_189 (lv_at hl 0 rfl) ?_
                  refine lv_iconst (v := 5) hx hb xd_Mo_newRequire_191 (by decide) ?_
                  refine lv_iload hx hb xd_Mo_newRequire_192 (lv_at hl 6 rfl) ?_
                  refine lv_imul hx hb xd_Mo_newRequire_194 ?_
                  refine xn_top (y := nI (5 * (nd - 1))) (pk_mul 5 (nd - 1)) ?_
                  refine lv_aload_n hx hb xd_Mo_newRequire_195 rfl (lv_at hl 2 rfl) ?_
                  refine va_get (D := D) (ci := 4) (v := .ref (mm 12)) (C := xR_Mo) (T := xT_Mo) (N := 31) hx hb hT xi_Mo hown hK.1 hP 0 rfl rfl 17 (by decide) (hT _ xq_12) (fun _ h9 => h9) rfl xd_Mo_newRequire_196 ?_
                  refine lv_iload hx hb xd_Mo_newRequire_199 (lv_at hl 6 rfl) ?_
                  refine xn_iald (i := nd - 1) hx hb hK.1 hP 13 0 rfl rfl (by omega) (by decide) xd_Mo_newRequire_201 ?_
                  refine xn_top (x := (g 12 (nd - 1))) (y := nI rq1) erq1 ?_
                  refine lv_iadd hx hb xd_Mo_newRequire_202 ?_
                  refine xn_top (y := nI ((5 * (nd - 1)) + rq1)) (nI_add (5 * (nd - 1)) rq1) ?_
                  refine xn_ge (a := i) (b := (5 * (nd - 1)) + rq1) (tgt := 236) hx hb xd_Mo_newRequire_203 (by decide) (by omega) (by omega) (fun hc319 => ?_) (fun hc319 => ?_)
                  · refine lv_iload hx hb xd_Mo_newRequire_236 (lv_at hl 1 rfl) ?_
                    refine lv_if_eq (tgt := 243) hx hb xd_Mo_newRequire_238 (by decide) (fun hc320 => ?_) (fun hc320 => ?_)
                    · refine lv_aload_n hx hb xd_Mo_newRequire_243 rfl (lv_at hl 2 rfl) ?_
                      have hFc := va_free (wc := (moW h mm kA v g)) hD hS hA [0, 1, 2, 3, 4, 5, 6, 7, 8, 9, 10, 11, 12, 13, 14, 15, 16, 17, 18, 19, 20, 21, 22, 23, 24, 25] rfl
                      refine va_calli (va_runV (As := []) (rest := []) ⟨hx, hb, hml, hown, hT⟩ (xc_Mo_isShut l D kA H.size h mm v g nd (by first | assumption | omega) (by first | assumption | omega)) (cwV 0 hT (wT_V xq_8 xq_9 xq_10 xq_5 xq_7) rfl rfl rfl (by decide +kernel) ⟨Nat.le_of_ble_eq_true rfl, Nat.le_of_ble_eq_true rfl⟩) (x_preV hK hP hD 0 rfl rfl) rfl rfl hl.1 rfl (lv_room (Nat.le_of_ble_eq_true rfl)) xd_Mo_newRequire_244 ⟨Nat.le_of_ble_eq_true rfl, Nat.le_of_ble_eq_true rfl⟩) hS (fun q _ h => hFc q h) hFc (fun r321 u322 t H1 locs ht hvm hp323 hB hz1 hk1 hS => ?_)
                      obtain ⟨hP1, hD1⟩ := hB
                      rw [ht] at hP1
                      have hD1 := hD1.weaken (fun _ _ _ h => hFc _ h)
                      generalize H1 = H at hP1 hS ⊢
                      have hP := hP1
                      have hD := hD1
                      have hP : va_P D xcl (moW h mm kA v g) H := hP
                      have hD : va_D A (moW h mm kA v g) := hD
                      rcases hp323 with ⟨rfl, z324⟩ | ⟨rfl, z325, z326⟩
                      · refine xz_ne (a := 1) (tgt := 261) hx hb xd_Mo_newRequire_247 (by decide) (by omega) (fun _ => ?_) (fun hc327 => absurd hc327 (by omega))
                        refine lv_bipush (v := (-2)) hx hb xd_Mo_newRequire_261 (by decide) ?_
                        exact W.iret (v := (-2)) hx hb hr (fun t ht hW => ⟨⟨(-2), (v, g), rfl, ⟨hMI, rfl, Or.inr (Or.inl rfl)⟩, by rw [ht]; exact hP, hD⟩, hS.F ht⟩) hS.2.2 xd_Mo_newRequire_263
                      · refine xz_ne (a := 0) (tgt := 261) hx hb xd_Mo_newRequire_247 (by decide) (by omega) (fun hc328 => absurd hc328 (by omega)) (fun _ => ?_)
                        refine lv_aload_n hx hb xd_Mo_newRequire_250 rfl (lv_at hl 2 rfl) ?_
                        refine va_get (D := D) (ci := 4) (v := .ref (mm 12)) (C := xR_Mo) (T := xT_Mo) (N := 31) hx hb hT xi_Mo hown hK.1 hP 0 rfl rfl 17 (by decide) (hT _ xq_12) (fun _ h9 => h9) rfl xd_Mo_newRequire_251 ?_
                        refine lv_iload hx hb xd_Mo_newRequire_254 (lv_at hl 6 rfl) ?_
                        refine xn_iald (i := nd - 1) hx hb hK.1 hP 13 0 rfl rfl (by omega) (by decide) xd_Mo_newRequire_256 ?_
                        refine xn_top (x := (g 12 (nd - 1))) (y := nI rq1) erq1 ?_
                        refine lv_iconst (v := 5) hx hb xd_Mo_newRequire_257 (by decide) ?_
                        refine xn_ne (a := rq1) (b := 5) (tgt := 264) hx hb xd_Mo_newRequire_258 (by decide) (by omega) (by omega) (fun hc329 => ?_) (fun hc329 => ?_)
                        · refine lv_aload_n hx hb xd_Mo_newRequire_264 rfl (lv_at hl 2 rfl) ?_
                          refine va_get (D := D) (ci := 4) (v := .ref (mm 13)) (C := xR_Mo) (T := xT_Mo) (N := 31) hx hb hT xi_Mo hown hK.1 hP 0 rfl rfl 18 (by decide) (hT _ xq_13) (fun _ h9 => h9) rfl xd_Mo_newRequire_265 ?_
                          refine lv_iconst (v := 5) hx hb xd_Mo_newRequire_268 (by decide) ?_
                          refine lv_iload hx hb xd_Mo_newRequire_269 (lv_at hl 6 rfl) ?_
                          refine lv_imul hx hb xd_Mo_newRequire_271 ?_
                          refine xn_top (y := nI (5 * (nd - 1))) (pk_mul 5 (nd - 1)) ?_
                          refine lv_aload_n hx hb xd_Mo_newRequire_272 rfl (lv_at hl 2 rfl) ?_
                          refine va_get (D := D) (ci := 4) (v := .ref (mm 12)) (C := xR_Mo) (T := xT_Mo) (N := 31) hx hb hT xi_Mo hown hK.1 hP 0 rfl rfl 17 (by decide) (hT _ xq_12) (fun _ h9 => h9) rfl xd_Mo_newRequire_273 ?_
                          refine lv_iload hx hb xd_Mo_newRequire_276 (lv_at hl 6 rfl) ?_
                          refine xn_iald (i := nd - 1) hx hb hK.1 hP 13 0 rfl rfl (by omega) (by decide) xd_Mo_newRequire_278 ?_
                          refine xn_top (x := (g 12 (nd - 1))) (y := nI rq1) erq1 ?_
                          refine lv_iadd hx hb xd_Mo_newRequire_279 ?_
                          refine xn_top (y := nI ((5 * (nd - 1)) + rq1)) (nI_add (5 * (nd - 1)) rq1) ?_
                          refine lv_iload hx hb xd_Mo_newRequire_280 (lv_at hl 5 rfl) ?_
                          refine xn_iast (i := (5 * (nd - 1)) + rq1) hx hb hK.1 hP hD hS 14 0 rfl rfl (by omega) (by decide) xd_Mo_newRequire_282 (fun H locs hP hD hS => ?_)
                          have hP : va_P D xcl (moW h mm kA v (va_up g 13 (upd (g 13) ((5 * (nd - 1)) + rq1) r286))) H := hP
                          have hD : va_D A (moW h mm kA v (va_up g 13 (upd (g 13) ((5 * (nd - 1)) + rq1) r286))) := hD
                          refine lv_aload_n hx hb xd_Mo_newRequire_283 rfl (lv_at hl 2 rfl) ?_
                          refine va_get (D := D) (ci := 4) (v := .ref (mm 16)) (C := xR_Mo) (T := xT_Mo) (N := 31) hx hb hT xi_Mo hown hK.1 hP 0 rfl rfl 21 (by decide) (hT _ xq_14) (fun _ h9 => h9) rfl xd_Mo_newRequire_284 ?_
                          refine lv_iconst (v := 5) hx hb xd_Mo_newRequire_287 (by decide) ?_
                          refine lv_iload hx hb xd_Mo_newRequire_288 (lv_at hl 6 rfl) ?_
                          refine lv_imul hx hb xd_Mo_newRequire_290 ?_
                          refine xn_top (y := nI (5 * (nd - 1))) (pk_mul 5 (nd - 1)) ?_
                          refine lv_aload_n hx hb xd_Mo_newRequire_291 rfl (lv_at hl 2 rfl) ?_
                          refine va_get (D := D) (ci := 4) (v := .ref (mm 12)) (C := xR_Mo) (T := xT_Mo) (N := 31) hx hb hT xi_Mo hown hK.1 hP 0 rfl rfl 17 (by decide) (hT _ xq_12) (fun _ h9 => h9) rfl xd_Mo_newRequire_292 ?_
                          refine lv_iload hx hb xd_Mo_newRequire_295 (lv_at hl 6 rfl) ?_
                          refine xn_iald (i := nd - 1) hx hb hK.1 hP 13 0 rfl rfl (by omega) (by decide) xd_Mo_newRequire_297 ?_
                          refine xn_top (x := (g 12 (nd - 1))) (y := nI rq1) erq1 ?_
                          refine lv_iadd hx hb xd_Mo_newRequire_298 ?_
                          refine xn_top (y := nI ((5 * (nd - 1)) + rq1)) (nI_add (5 * (nd - 1)) rq1) ?_
                          refine lv_iload_n hx hb xd_Mo_newRequire_299 rfl (lv_at hl 3 rfl) ?_
                          refine xn_zast (i := (5 * (nd - 1)) + rq1) hx hb hK.1 hP hD hS 17 2 rfl rfl (by omega) (by decide) xd_Mo_newRequire_300 (fun H locs hP hD hS => ?_)
                          have hP : va_P D xcl (moW h mm kA v (va_up (va_up g 13 (upd (g 13) ((5 * (nd - 1)) + rq1) r286)) 16 (upd (g 16) ((5 * (nd - 1)) + rq1) (vp_nar .boolean 0)))) H := hP
                          have hD : va_D A (moW h mm kA v (va_up (va_up g 13 (upd (g 13) ((5 * (nd - 1)) + rq1) r286)) 16 (upd (g 16) ((5 * (nd - 1)) + rq1) (vp_nar .boolean 0)))) := hD
                          refine lv_aload_n hx hb xd_Mo_newRequire_301 rfl (lv_at hl 2 rfl) ?_
                          refine va_get (D := D) (ci := 4) (v := .ref (mm 17)) (C := xR_Mo) (T := xT_Mo) (N := 31) hx hb hT xi_Mo hown hK.1 hP 0 rfl rfl 22 (by decide) (hT _ xq_15) (fun _ h9 => h9) rfl xd_Mo_newRequire_302 ?_
                          refine lv_iconst (v := 5) hx hb xd_Mo_newRequire_305 (by decide) ?_
                          refine lv_iload hx hb xd_Mo_newRequire_306 (lv_at hl 6 rfl) ?_
                          refine lv_imul hx hb xd_Mo_newRequire_308 ?_
                          refine xn_top (y := nI (5 * (nd - 1))) (pk_mul 5 (nd - 1)) ?_
                          refine lv_aload_n hx hb xd_Mo_newRequire_309 rfl (lv_at hl 2 rfl) ?_
                          refine va_get (D := D) (ci := 4) (v := .ref (mm 12)) (C := xR_Mo) (T := xT_Mo) (N := 31) hx hb hT xi_Mo hown hK.1 hP 0 rfl rfl 17 (by decide) (hT _ xq_12) (fun _ h9 => h9) rfl xd_Mo_newRequire_310 ?_
                          refine lv_iload hx hb xd_Mo_newRequire_313 (lv_at hl 6 rfl) ?_
                          refine xn_iald (i := nd - 1) hx hb hK.1 hP 13 0 rfl rfl (by omega) (by decide) xd_Mo_newRequire_315 ?_
                          refine xn_top (x := (g 12 (nd - 1))) (y := nI rq1) erq1 ?_
                          refine lv_iadd hx hb xd_Mo_newRequire_316 ?_
                          refine xn_top (y := nI ((5 * (nd - 1)) + rq1)) (nI_add (5 * (nd - 1)) rq1) ?_
                          refine lv_iload_n hx hb xd_Mo_newRequire_317 rfl (lv_at hl 4 rfl) ?_
                          refine xn_zast (i := (5 * (nd - 1)) + rq1) hx hb hK.1 hP hD hS 18 2 rfl rfl (by omega) (by decide) xd_Mo_newRequire_318 (fun H locs hP hD hS => ?_)
                          have hP : va_P D xcl (moW h mm kA v (va_up (va_up (va_up g 13 (upd (g 13) ((5 * (nd - 1)) + rq1) r286)) 16 (upd (g 16) ((5 * (nd - 1)) + rq1) (vp_nar .boolean 0))) 17 (upd (g 17) ((5 * (nd - 1)) + rq1) (vp_nar .boolean 1)))) H := hP
                          have hD : va_D A (moW h mm kA v (va_up (va_up (va_up g 13 (upd (g 13) ((5 * (nd - 1)) + rq1) r286)) 16 (upd (g 16) ((5 * (nd - 1)) + rq1) (vp_nar .boolean 0))) 17 (upd (g 17) ((5 * (nd - 1)) + rq1) (vp_nar .boolean 1)))) := hD
                          refine lv_aload_n hx hb xd_Mo_newRequire_319 rfl (lv_at hl 2 rfl) ?_
                          refine va_get (D := D) (ci := 4) (v := .ref (mm 12)) (C := xR_Mo) (T := xT_Mo) (N := 31) hx hb hT xi_Mo hown hK.1 hP 0 rfl rfl 17 (by decide) (hT _ xq_12) (fun _ h9 => h9) rfl xd_Mo_newRequire_320 ?_
                          refine lv_iload hx hb xd_Mo_newRequire_323 (lv_at hl 6 rfl) ?_
                          refine lv_dup2_11 hx hb xd_Mo_newRequire_325 rfl rfl ?_
                          refine xn_iald (i := nd - 1) hx hb hK.1 hP 13 0 rfl rfl (by omega) (by decide) xd_Mo_newRequire_326 ?_
                          refine xn_top (x := (g 12 (nd - 1))) (y := nI rq1) erq1 ?_
                          refine lv_iconst (v := 1) hx hb xd_Mo_newRequire_327 (by decide) ?_
                          refine lv_iadd hx hb xd_Mo_newRequire_328 ?_
                          refine xn_top (y := nI (rq1 + 1)) (nI_add rq1 1) ?_
                          refine xn_iast (i := nd - 1) hx hb hK.1 hP hD hS 13 0 rfl rfl (by omega) (by decide) xd_Mo_newRequire_329 (fun H locs hP hD hS => ?_)
                          have hP : va_P D xcl (moW h mm kA v (va_up (va_up (va_up (va_up g 12 (upd (g 12) (nd - 1) (nI (rq1 + 1)))) 13 (upd (g 13) ((5 * (nd - 1)) + rq1) r286)) 16 (upd (g 16) ((5 * (nd - 1)) + rq1) (vp_nar .boolean 0))) 17 (upd (g 17) ((5 * (nd - 1)) + rq1) (vp_nar .boolean 1)))) H := hP
                          have hD : va_D A (moW h mm kA v (va_up (va_up (va_up (va_up g 12 (upd (g 12) (nd - 1) (nI (rq1 + 1)))) 13 (upd (g 13) ((5 * (nd - 1)) + rq1) r286)) 16 (upd (g 16) ((5 * (nd - 1)) + rq1) (vp_nar .boolean 0))) 17 (upd (g 17) ((5 * (nd - 1)) + rq1) (vp_nar .boolean 1)))) := hD
                          refine lv_iconst (v := 2) hx hb xd_Mo_newRequire_330 (by decide) ?_
                          exact W.iret (v := 2) hx hb hr (fun t ht hW => ⟨⟨2, (v, (va_up (va_up (va_up (va_up g 12 (upd (g 12) (nd - 1) (nI (rq1 + 1)))) 13 (upd (g 13) ((5 * (nd - 1)) + rq1) r286)) 16 (upd (g 16) ((5 * (nd - 1)) + rq1) (vp_nar .boolean 0))) 17 (upd (g 17) ((5 * (nd - 1)) + rq1) (vp_nar .boolean 1)))), rfl, ⟨MI_g (g := va_up g 12 (upd (g 12) (nd - 1) (nI (rq1 + 1)))) rfl rfl rfl rfl rfl rfl rfl rfl (MI_rq (by omega) hMI), rfl, Or.inr (Or.inr (Or.inr rfl))⟩, by rw [ht]; exact hP, hD⟩, hS.F ht⟩) hS.2.2 xd_Mo_newRequire_331
                        · refine lv_bipush (v := (-2)) hx hb xd_Mo_newRequire_261 (by decide) ?_
                          exact W.iret (v := (-2)) hx hb hr (fun t ht hW => ⟨⟨(-2), (v, g), rfl, ⟨hMI, rfl, Or.inr (Or.inl rfl)⟩, by rw [ht]; exact hP, hD⟩, hS.F ht⟩) hS.2.2 xd_Mo_newRequire_263
                    · refine lv_iconst (v := (-1)) hx hb xd_Mo_newRequire_241 (by decide) ?_
                      exact W.iret (v := (-1)) hx hb hr (fun t ht hW => ⟨⟨(-1), (v, g), rfl, ⟨hMI, rfl, Or.inl rfl⟩, by rw [ht]; exact hP, hD⟩, hS.F ht⟩) hS.2.2 xd_Mo_newRequire_242
                  · refine lv_iload hx hb xd_Mo_newRequire_206 (lv_at hl 1 rfl) ?_
                    refine lv_if_ne (tgt := 223) hx hb xd_Mo_newRequire_208 (by decide) (fun hc330 => ?_) (fun hc330 => ?_)
                    · refine lv_iconst (v := 1) hx hb xd_Mo_newRequire_223 (by decide) ?_
                      refine lv_goto (tgt := 228) hx hb xd_Mo_newRequire_224 (by decide) ?_
                      refine lv_istore hx hb xd_Mo_newRequire_228 hl (Nat.le_of_ble_eq_true rfl) rfl (fun ls hl => ?_)
                      have hl : lv_has ls 8 [(6, .int 1), (7, .int (nI i)), (0, .ref h), (2, .int 0), (3, .int 1), (4, .int r286), (5, .int (nI (nd - 1)))] := hl
                      refine lv_iinc (k := 1) (x := (nI i)) (v := (nI (i + 1))) hx hb xd_Mo_newRequire_230 hl rfl (xb_inc i 1) (Nat.le_of_ble_eq_true rfl) rfl (fun ls hl => ?_)
                      have hl : lv_has ls 8 [(7, .int (nI (i + 1))), (6, .int 1), (0, .ref h), (2, .int 0), (3, .int 1), (4, .int r286), (5, .int (nI (nd - 1)))] := hl
                      refine lv_goto (tgt := 184) hx hb xd_Mo_newRequire_233 (by decide) ?_
                      exact ih317 (i + 1, 1) _ _ _ (show 5 * (nd - 1) + rq1 - (i + 1) < 5 * (nd - 1) + rq1 - i by omega) (lv_sub hl [0, 1, 2, 3, 4, 5, 6] rfl) hP hD hS ⟨(show 5 * (nd - 1) ≤ (i + 1) from by first | assumption | omega), (show (i + 1) ≤ 5 * (nd - 1) + rq1 from by first | assumption | omega)⟩
                    · refine lv_aload_n hx hb xd_Mo_newRequire_211 rfl (lv_at hl 2 rfl) ?_
                      refine va_get (D := D) (ci := 4) (v := .ref (mm 13)) (C := xR_Mo) (T := xT_Mo) (N := 31) hx hb hT xi_Mo hown hK.1 hP 0 rfl rfl 18 (by decide) (hT _ xq_13) (fun _ h9 => h9) rfl xd_Mo_newRequire_212 ?_
                      refine lv_iload hx hb xd_Mo_newRequire_215 (lv_at hl 0 rfl) ?_
                      refine xn_iald (i := i) hx hb hK.1 hP 14 0 rfl rfl (by omega) (by decide) xd_Mo_newRequire_217 ?_
                      refine lv_iload hx hb xd_Mo_newRequire_218 (lv_at hl 5 rfl) ?_
                      refine lv_icmp_ne (tgt := 227) hx hb xd_Mo_newRequire_220 (by decide) (fun hc331 => ?_) (fun hc331 => ?_)
                      · refine lv_iconst (v := 0) hx hb xd_Mo_newRequire_227 (by decide) ?_
                        refine lv_istore hx hb xd_Mo_newRequire_228 hl (Nat.le_of_ble_eq_true rfl) rfl (fun ls hl => ?_)
                        have hl : lv_has ls 8 [(6, .int 0), (7, .int (nI i)), (0, .ref h), (2, .int 0), (3, .int 1), (4, .int r286), (5, .int (nI (nd - 1)))] := hl
                        refine lv_iinc (k := 1) (x := (nI i)) (v := (nI (i + 1))) hx hb xd_Mo_newRequire_230 hl rfl (xb_inc i 1) (Nat.le_of_ble_eq_true rfl) rfl (fun ls hl => ?_)
                        have hl : lv_has ls 8 [(7, .int (nI (i + 1))), (6, .int 0), (0, .ref h), (2, .int 0), (3, .int 1), (4, .int r286), (5, .int (nI (nd - 1)))] := hl
                        refine lv_goto (tgt := 184) hx hb xd_Mo_newRequire_233 (by decide) ?_
                        exact ih317 (i + 1, 0) _ _ _ (show 5 * (nd - 1) + rq1 - (i + 1) < 5 * (nd - 1) + rq1 - i by omega) (lv_sub hl [0, 1, 2, 3, 4, 5, 6] rfl) hP hD hS ⟨(show 5 * (nd - 1) ≤ (i + 1) from by first | assumption | omega), (show (i + 1) ≤ 5 * (nd - 1) + rq1 from by first | assumption | omega)⟩
                      · refine lv_iconst (v := 1) hx hb xd_Mo_newRequire_223 (by decide) ?_
                        refine lv_goto (tgt := 228) hx hb xd_Mo_newRequire_224 (by decide) ?_
                        refine lv_istore hx hb xd_Mo_newRequire_228 hl (Nat.le_of_ble_eq_true rfl) rfl (fun ls hl => ?_)
                        have hl : lv_has ls 8 [(6, .int 1), (7, .int (nI i)), (0, .ref h), (2, .int 0), (3, .int 1), (4, .int r286), (5, .int (nI (nd - 1)))] := hl
                        refine lv_iinc (k := 1) (x := (nI i)) (v := (nI (i + 1))) hx hb xd_Mo_newRequire_230 hl rfl (xb_inc i 1) (Nat.le_of_ble_eq_true rfl) rfl (fun ls hl => ?_)
                        have hl : lv_has ls 8 [(7, .int (nI (i + 1))), (6, .int 1), (0, .ref h), (2, .int 0), (3, .int 1), (4, .int r286), (5, .int (nI (nd - 1)))] := hl
                        refine lv_goto (tgt := 184) hx hb xd_Mo_newRequire_233 (by decide) ?_
                        exact ih317 (i + 1, 1) _ _ _ (show 5 * (nd - 1) + rq1 - (i + 1) < 5 * (nd - 1) + rq1 - i by omega) (lv_sub hl [0, 1, 2, 3, 4, 5, 6] rfl) hP hD hS ⟨(show 5 * (nd - 1) ≤ (i + 1) from by first | assumption | omega), (show (i + 1) ≤ 5 * (nd - 1) + rq1 from by first | assumption | omega)⟩
            · refine lv_iconst (v := (-1)) hx hb xd_Mo_newRequire_144 (by decide) ?_
              exact W.iret (v := (-1)) hx hb hr (fun t ht hW => ⟨⟨(-1), (v, g), rfl, ⟨hMI, rfl, Or.inl rfl⟩, by rw [ht]; exact hP, hD⟩, hS.F ht⟩) hS.2.2 xd_Mo_newRequire_145
    · refine xz_eq (a := 1) (tgt := 48) hx hb xd_Mo_newRequire_41 (by decide) (by omega) (fun hc332 => absurd hc332 (by omega)) (fun _ => ?_)
      refine lv_iconst (v := 1) hx hb xd_Mo_newRequire_44 (by decide) ?_
      refine lv_goto (tgt := 49) hx hb xd_Mo_newRequire_45 (by decide) ?_
      refine lv_istore_n hx hb xd_Mo_newRequire_49 rfl hl (Nat.le_of_ble_eq_true rfl) rfl (fun ls hl => ?_)
      have hl : lv_has ls 8 [(2, .int 1), (1, .int 1), (0, .ref h)] := hl
      refine lv_iload_n hx hb xd_Mo_newRequire_50 rfl (lv_at hl 0 rfl) ?_
      refine xz_eq (a := 1) (tgt := 58) hx hb xd_Mo_newRequire_51 (by decide) (by omega) (fun hc333 => absurd hc333 (by omega)) (fun _ => ?_)
      refine lv_iconst (v := 2) hx hb xd_Mo_newRequire_54 (by decide) ?_
      refine lv_goto (tgt := 59) hx hb xd_Mo_newRequire_55 (by decide) ?_
      refine lv_istore_n hx hb xd_Mo_newRequire_59 rfl hl (Nat.le_of_ble_eq_true rfl) rfl (fun ls hl => ?_)
      have hl : lv_has ls 8 [(1, .int 2), (2, .int 1), (0, .ref h)] := hl
      refine lv_aload_n hx hb xd_Mo_newRequire_60 rfl (lv_at hl 2 rfl) ?_
      refine va_get (D := D) (ci := 4) (v := .int (v 3)) (C := xR_Mo) (T := xT_Mo) (N := 31) hx hb hT xi_Mo hown hK.1 hP 0 rfl rfl 4 (by decide) (hT _ xq_0) (fun _ h9 => h9) rfl xd_Mo_newRequire_61 ?_
      refine xn_top (x := (v 3)) (y := nI wn) hwn ?_
      refine lv_iload_n hx hb xd_Mo_newRequire_64 rfl (lv_at hl 0 rfl) ?_
      refine lv_iconst (v := 1) hx hb xd_Mo_newRequire_65 (by decide) ?_
      refine lv_iadd hx hb xd_Mo_newRequire_66 ?_
      refine xn_top (y := nI (3)) (nI_add 2 1) ?_
      refine xn_le (a := wn) (b := 3) (tgt := 104) hx hb xd_Mo_newRequire_67 (by decide) (by omega) (by omega) (fun hc334 => ?_) (fun hc334 => ?_)
      · refine lv_iconst (v := 0) hx hb xd_Mo_newRequire_104 (by decide) ?_
        refine lv_istore_n hx hb xd_Mo_newRequire_105 rfl hl (Nat.le_of_ble_eq_true rfl) rfl (fun ls hl => ?_)
        have hl : lv_has ls 8 [(3, .int 0), (1, .int 2), (2, .int 1), (0, .ref h)] := hl
        refine lv_iload_n hx hb xd_Mo_newRequire_106 rfl (lv_at hl 0 rfl) ?_
        refine xz_eq (a := 0) (tgt := 116) hx hb xd_Mo_newRequire_107 (by decide) (by omega) (fun _ => ?_) (fun hc335 => absurd hc335 (by omega))
        refine lv_iload_n hx hb xd_Mo_newRequire_116 rfl (lv_at hl 1 rfl) ?_
        refine lv_istore_n hx hb xd_Mo_newRequire_117 rfl hl (Nat.le_of_ble_eq_true rfl) rfl (fun ls hl => ?_)
        have hl : lv_has ls 8 [(1, .int 2), (3, .int 0), (2, .int 1), (0, .ref h)] := hl
        refine lv_aload_n hx hb xd_Mo_newRequire_118 rfl (lv_at hl 3 rfl) ?_
        refine va_get (D := D) (ci := 4) (v := .int (v 3)) (C := xR_Mo) (T := xT_Mo) (N := 31) hx hb hT xi_Mo hown hK.1 hP 0 rfl rfl 4 (by decide) (hT _ xq_0) (fun _ h9 => h9) rfl xd_Mo_newRequire_119 ?_
        refine xn_top (x := (v 3)) (y := nI wn) hwn ?_
        refine lv_iload_n hx hb xd_Mo_newRequire_122 rfl (lv_at hl 0 rfl) ?_
        refine lv_iconst (v := 1) hx hb xd_Mo_newRequire_123 (by decide) ?_
        refine lv_iadd hx hb xd_Mo_newRequire_124 ?_
        refine xn_top (y := nI (3)) (nI_add 2 1) ?_
        refine xn_ne (a := wn) (b := 3) (tgt := 136) hx hb xd_Mo_newRequire_125 (by decide) (by omega) (by omega) (fun hc336 => ?_) (fun hc336 => ?_)
        · refine lv_iconst (v := 0) hx hb xd_Mo_newRequire_136 (by decide) ?_
          refine lv_istore hx hb xd_Mo_newRequire_137 hl (Nat.le_of_ble_eq_true rfl) rfl (fun ls hl => ?_)
          have hl : lv_has ls 8 [(4, .int 0), (1, .int 2), (3, .int 0), (2, .int 1), (0, .ref h)] := hl
          refine lv_iload hx hb xd_Mo_newRequire_139 (lv_at hl 0 rfl) ?_
          refine xz_ne (a := 0) (tgt := 146) hx hb xd_Mo_newRequire_141 (by decide) (by omega) (fun hc337 => absurd hc337 (by omega)) (fun _ => ?_)
          refine lv_iconst (v := (-1)) hx hb xd_Mo_newRequire_144 (by decide) ?_
          exact W.iret (v := (-1)) hx hb hr (fun t ht hW => ⟨⟨(-1), (v, g), rfl, ⟨hMI, rfl, Or.inl rfl⟩, by rw [ht]; exact hP, hD⟩, hS.F ht⟩) hS.2.2 xd_Mo_newRequire_145
        · obtain ⟨b2, e2, hbe2, he2, eb2, ee2⟩ := hws 2 (by omega)
          refine lv_aload_n hx hb xd_Mo_newRequire_128 rfl (lv_at hl 3 rfl) ?_
          refine lv_iload_n hx hb xd_Mo_newRequire_129 rfl (lv_at hl 0 rfl) ?_
          have hFc := va_free (wc := (moW h mm kA v g)) hD hS hA [0, 1, 2, 3, 4, 5, 6, 7, 8, 9, 10, 11, 12, 13, 14, 15, 16, 17, 18, 19, 20, 21, 22, 23, 24, 25] rfl
          refine va_calli (va_runV (As := [.int 2]) (rest := []) ⟨hx, hb, hml, hown, hT⟩ (xc_Mo_nameOf l D kA H.size h mm v g 2 b2 e2 (by first | assumption | omega) (by first | assumption | omega) (by first | assumption | omega) (by first | assumption | omega) (by first | assumption | omega)) (cwV 1 hT (wT_V xq_2 xq_3 xq_4 xq_5 xq_1) rfl rfl rfl (by decide +kernel) ⟨Nat.le_of_ble_eq_true rfl, Nat.le_of_ble_eq_true rfl⟩) (x_preV hK hP hD 0 rfl rfl) rfl rfl hl.1 rfl (lv_room (Nat.le_of_ble_eq_true rfl)) xd_Mo_newRequire_130 ⟨Nat.le_of_ble_eq_true rfl, Nat.le_of_ble_eq_true rfl⟩) hS (fun q _ h => hFc q h) hFc (fun r338 u339 t H1 locs ht hvm hp340 hB hz1 hk1 hS => ?_)
          obtain ⟨hP1, hD1⟩ := hB
          rw [ht] at hP1
          have hD1 := hD1.weaken (fun _ _ _ h => hFc _ h)
          generalize H1 = H at hP1 hS ⊢
          have hP := hP1
          have hD := hD1
          have hP : va_P D xcl (moW h mm kA v g) H := hP
          have hD : va_D A (moW h mm kA v g) := hD
          refine lv_goto (tgt := 137) hx hb xd_Mo_newRequire_133 (by decide) ?_
          refine lv_istore hx hb xd_Mo_newRequire_137 hl (Nat.le_of_ble_eq_true rfl) rfl (fun ls hl => ?_)
          have hl : lv_has ls 8 [(4, .int r338), (1, .int 2), (3, .int 0), (2, .int 1), (0, .ref h)] := hl
          refine lv_iload hx hb xd_Mo_newRequire_139 (lv_at hl 0 rfl) ?_
          refine lv_if_ne (tgt := 146) hx hb xd_Mo_newRequire_141 (by decide) (fun hc341 => ?_) (fun hc341 => ?_)
          · rcases Nat.eq_zero_or_pos nd with hz | hz
            · have hnd0 : v 4 = nI 0 := by rw [hnd, hz]
              refine lv_aload_n hx hb xd_Mo_newRequire_146 rfl (lv_at hl 4 rfl) ?_
              refine va_get (D := D) (ci := 4) (v := .int (v 4)) (C := xR_Mo) (T := xT_Mo) (N := 31) hx hb hT xi_Mo hown hK.1 hP 0 rfl rfl 7 (by decide) (hT _ xq_6) (fun _ h9 => h9) rfl xd_Mo_newRequire_147 ?_
              refine xn_top (x := (v 4)) (y := nI 0) hnd0 ?_
              refine lv_iconst (v := 1) hx hb xd_Mo_newRequire_150 (by decide) ?_
              refine lv_isub hx hb xd_Mo_newRequire_151 ?_
              refine lv_istore hx hb xd_Mo_newRequire_152 hl (Nat.le_of_ble_eq_true rfl) rfl (fun ls hl => ?_)
              have hl : lv_has ls 8 [(5, .int ((nI 0) - 1)), (4, .int r338), (1, .int 2), (3, .int 0), (2, .int 1), (0, .ref h)] := hl
              refine lv_iload hx hb xd_Mo_newRequire_154 (lv_at hl 0 rfl) ?_
              refine lv_if_lt (tgt := 175) hx hb xd_Mo_newRequire_156 (by decide) (fun _ => ?_) (fun hc342 => absurd hc342 (by decide))
              refine lv_iconst (v := 0) hx hb xd_Mo_newRequire_175 (by decide) ?_
              refine lv_istore hx hb xd_Mo_newRequire_176 hl (Nat.le_of_ble_eq_true rfl) rfl (fun ls hl => ?_)
              have hl : lv_has ls 8 [(6, .int 0), (5, .int ((nI 0) - 1)), (4, .int r338), (1, .int 2), (3, .int 0), (2, .int 1), (0, .ref h)] := hl
              refine lv_iconst (v := 5) hx hb xd_Mo_newRequire_178 (by decide) ?_
              refine lv_iload hx hb xd_Mo_newRequire_179 (lv_at hl 1 rfl) ?_
              refine lv_imul hx hb xd_Mo_newRequire_181 ?_
              refine lv_istore hx hb xd_Mo_newRequire_182 hl (Nat.le_of_ble_eq_true rfl) rfl (fun ls hl => ?_)
              have hl : lv_has ls 8 [(7, .int (5 * ((nI 0) - 1))), (6, .int 0), (5, .int ((nI 0) - 1)), (4, .int r338), (1, .int 2), (3, .int 0), (2, .int 1), (0, .ref h)] := hl
              refine lv_iload hx hb xd_Mo_newRequire_184 (lv_at hl 2 rfl) ?_
              refine lv_if_lt (tgt := 236) hx hb xd_Mo_newRequire_186 (by decide) (fun _ => ?_) (fun hc343 => absurd hc343 (by decide))
              refine lv_iload hx hb xd_Mo_newRequire_236 (lv_at hl 1 rfl) ?_
              refine xz_eq (a := 0) (tgt := 243) hx hb xd_Mo_newRequire_238 (by decide) (by omega) (fun _ => ?_) (fun hc344 => absurd hc344 (by omega))
              refine lv_aload_n hx hb xd_Mo_newRequire_243 rfl (lv_at hl 7 rfl) ?_
              have hFc := va_free (wc := (moW h mm kA v g)) hD hS hA [0, 1, 2, 3, 4, 5, 6, 7, 8, 9, 10, 11, 12, 13, 14, 15, 16, 17, 18, 19, 20, 21, 22, 23, 24, 25] rfl
              refine va_calli (va_runV (As := []) (rest := []) ⟨hx, hb, hml, hown, hT⟩ (xc_Mo_isShut l D kA H.size h mm v g nd (by first | assumption | omega) (by first | assumption | omega)) (cwV 0 hT (wT_V xq_8 xq_9 xq_10 xq_5 xq_7) rfl rfl rfl (by decide +kernel) ⟨Nat.le_of_ble_eq_true rfl, Nat.le_of_ble_eq_true rfl⟩) (x_preV hK hP hD 0 rfl rfl) rfl rfl hl.1 rfl (lv_room (Nat.le_of_ble_eq_true rfl)) xd_Mo_newRequire_244 ⟨Nat.le_of_ble_eq_true rfl, Nat.le_of_ble_eq_true rfl⟩) hS (fun q _ h => hFc q h) hFc (fun r345 u346 t H1 locs ht hvm hp347 hB hz1 hk1 hS => ?_)
              obtain ⟨hP1, hD1⟩ := hB
              rw [ht] at hP1
              have hD1 := hD1.weaken (fun _ _ _ h => hFc _ h)
              generalize H1 = H at hP1 hS ⊢
              have hP := hP1
              have hD := hD1
              have hP : va_P D xcl (moW h mm kA v g) H := hP
              have hD : va_D A (moW h mm kA v g) := hD
              rcases hp347 with ⟨rfl, z348⟩ | ⟨rfl, z349, z350⟩
              · refine xz_ne (a := 1) (tgt := 261) hx hb xd_Mo_newRequire_247 (by decide) (by omega) (fun _ => ?_) (fun hc351 => absurd hc351 (by omega))
                refine lv_bipush (v := (-2)) hx hb xd_Mo_newRequire_261 (by decide) ?_
                exact W.iret (v := (-2)) hx hb hr (fun t ht hW => ⟨⟨(-2), (v, g), rfl, ⟨hMI, rfl, Or.inr (Or.inl rfl)⟩, by rw [ht]; exact hP, hD⟩, hS.F ht⟩) hS.2.2 xd_Mo_newRequire_263
              · exact absurd hz z349
            · refine lv_aload_n hx hb xd_Mo_newRequire_146 rfl (lv_at hl 4 rfl) ?_
              refine va_get (D := D) (ci := 4) (v := .int (v 4)) (C := xR_Mo) (T := xT_Mo) (N := 31) hx hb hT xi_Mo hown hK.1 hP 0 rfl rfl 7 (by decide) (hT _ xq_6) (fun _ h9 => h9) rfl xd_Mo_newRequire_147 ?_
              refine xn_top (x := (v 4)) (y := nI nd) hnd ?_
              refine lv_iconst (v := 1) hx hb xd_Mo_newRequire_150 (by decide) ?_
              refine lv_isub hx hb xd_Mo_newRequire_151 ?_
              refine xn_top (y := nI (nd - 1)) (pk_sub (a := nd) (b := 1) (by omega)) ?_
              refine lv_istore hx hb xd_Mo_newRequire_152 hl (Nat.le_of_ble_eq_true rfl) rfl (fun ls hl => ?_)
              have hl : lv_has ls 8 [(5, .int (nI (nd - 1))), (4, .int r338), (1, .int 2), (3, .int 0), (2, .int 1), (0, .ref h)] := hl
              refine lv_iload hx hb xd_Mo_newRequire_154 (lv_at hl 0 rfl) ?_
              refine xz_lt (a := nd - 1) (tgt := 175) hx hb xd_Mo_newRequire_156 (by decide) (by omega) ?_
              obtain ⟨rq1, hrq1, erq1⟩ := hrq (nd - 1) (by omega)
              refine lv_aload_n hx hb xd_Mo_newRequire_159 rfl (lv_at hl 5 rfl) ?_
              refine va_get (D := D) (ci := 4) (v := .ref (mm 4)) (C := xR_Mo) (T := xT_Mo) (N := 31) hx hb hT xi_Mo hown hK.1 hP 0 rfl rfl 9 (by decide) (hT _ xq_11) (fun _ h9 => h9) rfl xd_Mo_newRequire_160 ?_
              refine lv_iload hx hb xd_Mo_newRequire_163 (lv_at hl 0 rfl) ?_
              refine xn_iald (i := nd - 1) hx hb hK.1 hP 5 0 rfl rfl (by omega) (by decide) xd_Mo_newRequire_165 ?_
              refine lv_iload hx hb xd_Mo_newRequire_166 (lv_at hl 1 rfl) ?_
              refine lv_icmp_ne (tgt := 175) hx hb xd_Mo_newRequire_168 (by decide) (fun hc353 => ?_) (fun hc353 => ?_)
              · refine lv_iconst (v := 0) hx hb xd_Mo_newRequire_175 (by decide) ?_
                refine lv_istore hx hb xd_Mo_newRequire_176 hl (Nat.le_of_ble_eq_true rfl) rfl (fun ls hl => ?_)
                have hl : lv_has ls 8 [(6, .int 0), (5, .int (nI (nd - 1))), (4, .int r338), (1, .int 2), (3, .int 0), (2, .int 1), (0, .ref h)] := hl
                refine lv_iconst (v := 5) hx hb xd_Mo_newRequire_178 (by decide) ?_
                refine lv_iload hx hb xd_Mo_newRequire_179 (lv_at hl 1 rfl) ?_
                refine lv_imul hx hb xd_Mo_newRequire_181 ?_
                refine xn_top (y := nI (5 * (nd - 1))) (pk_mul 5 (nd - 1)) ?_
                refine lv_istore hx hb xd_Mo_newRequire_182 hl (Nat.le_of_ble_eq_true rfl) rfl (fun ls hl => ?_)
                have hl : lv_has ls 8 [(7, .int (nI (5 * (nd - 1)))), (6, .int 0), (5, .int (nI (nd - 1))), (4, .int r338), (1, .int 2), (3, .int 0), (2, .int 1), (0, .ref h)] := hl
                refine xlab (σ := Nat × Int32) (ml := 8) 184 (fun (i, tw) => [(7, .int (nI i)), (6, .int tw), (0, .ref h), (2, .int 1), (3, .int 0), (4, .int r338), (5, .int (nI (nd - 1)))]) (fun (i, tw) => []) (fun (i, tw) => moW h mm kA v g) (fun (i, tw) => (5 * (nd - 1) ≤ i) ∧ (i ≤ 5 * (nd - 1) + rq1)) (fun (i, tw) => 5 * (nd - 1) + rq1 - i) ?_ (5 * (nd - 1), 0) _ _ _ (lv_sub hl [0, 1, 7, 6, 5, 3, 2] rfl) hP hD hS ⟨(show 5 * (nd - 1) ≤ (5 * (nd - 1)) from by first | assumption | omega), (show (5 * (nd - 1)) ≤ 5 * (nd - 1) + rq1 from by first | assumption | omega)⟩
                intro n9 ih354 a9 ls H locs hμ hl hP hD hS hI
                subst hμ
                obtain ⟨i, tw⟩ := a9
                obtain ⟨hi1, hi2⟩ := hI
                have hi1 : 5 * (nd - 1) ≤ i := hi1
                have hi2 : i ≤ 5 * (nd - 1) + rq1 := hi2
                have hl : lv_has ls 8 [(7, .int (nI i)), (6, .int tw), (0, .ref h), (2, .int 1), (3, .int 0), (4, .int r338), (5, .int (nI (nd - 1)))] := hl
                have hP : va_P D xcl (moW h mm kA v g) H := hP
                have hD : va_D A (moW h mm kA v g) := hD
                refine lv_iload hx hb xd_Mo_newRequire_184 (lv_at hl 6 rfl) ?_
                refine xz_lt (a := nd - 1) (tgt := 236) hx hb xd_Mo_newRequire_186 (by decide) (by omega) ?_
                refine lv_iload hx hb xd_Mo_newRequire_189 (lv_at hl 0 rfl) ?_
                refine lv_iconst (v := 5) hx hb xd_Mo_newRequire_191 (by decide) ?_
                refine lv_iload hx hb xd_Mo_newRequire_192 (lv_at hl 6 rfl) ?_
                refine lv_imul hx hb xd_Mo_newRequire_194 ?_
                refine xn_top (y := nI (5 * (nd - 1))) (pk_mul 5 (nd - 1)) ?_
                refine lv_aload_n hx hb xd_Mo_newRequire_195 rfl (lv_at hl 2 rfl) ?_
                refine va_get (D := D) (ci := 4) (v := .ref (mm 12)) (C := xR_Mo) (T := xT_Mo) (N := 31) hx hb hT xi_Mo hown hK.1 hP 0 rfl rfl 17 (by decide) (hT _ xq_12) (fun _ h9 => h9) rfl xd_Mo_newRequire_196 ?_
                refine lv_iload hx hb xd_Mo_newRequire_199 (lv_at hl 6 rfl) ?_
                refine xn_iald (i := nd - 1) hx hb hK.1 hP 13 0 rfl rfl (by omega) (by decide) xd_Mo_newRequire_201 ?_
                refine xn_top (x := (g 12 (nd - 1))) (y := nI rq1) erq1 ?_
                refine lv_iadd hx hb xd_Mo_newRequire_202 ?_
                refine xn_top (y := nI ((5 * (nd - 1)) + rq1)) (nI_add (5 * (nd - 1)) rq1) ?_
                refine xn_ge (a := i) (b := (5 * (nd - 1)) + rq1) (tgt := 236) hx hb xd_Mo_newRequire_203 (by decide) (by omega) (by omega) (fun hc356 => ?_) (fun hc356 => ?_)
                · refine lv_iload hx hb xd_Mo_newRequire_236 (lv_at hl 1 rfl) ?_
                  refine lv_if_eq (tgt := 243) hx hb xd_Mo_newRequire_238 (by decide) (fun hc357 => ?_) (fun hc357 => ?_)
                  · refine lv_aload_n hx hb xd_Mo_newRequire_243 rfl (lv_at hl 2 rfl) ?_
                    have hFc := va_free (wc := (moW h mm kA v g)) hD hS hA [0, 1, 2, 3, 4, 5, 6, 7, 8, 9, 10, 11, 12, 13, 14, 15, 16, 17, 18, 19, 20, 21, 22, 23, 24, 25] rfl
                    refine va_calli (va_runV (As := []) (rest := []) ⟨hx, hb, hml, hown, hT⟩ (xc_Mo_isShut l D kA H.size h mm v g nd (by first | assumption | omega) (by first | assumption | omega)) (cwV 0 hT (wT_V xq_8 xq_9 xq_10 xq_5 xq_7) rfl rfl rfl (by decide +kernel) ⟨Nat.le_of_ble_eq_true rfl, Nat.le_of_ble_eq_true rfl⟩) (x_preV hK hP hD 0 rfl rfl) rfl rfl hl.1 rfl (lv_room (Nat.le_of_ble_eq_true rfl)) xd_Mo_newRequire_244 ⟨Nat.le_of_ble_eq_true rfl, Nat.le_of_ble_eq_true rfl⟩) hS (fun q _ h => hFc q h) hFc (fun r358 u359 t H1 locs ht hvm hp360 hB hz1 hk1 hS => ?_)
                    obtain ⟨hP1, hD1⟩ := hB
                    rw [ht] at hP1
                    have hD1 := hD1.weaken (fun _ _ _ h => hFc _ h)
                    generalize H1 = H at hP1 hS ⊢
                    have hP := hP1
                    have hD := hD1
                    have hP : va_P D xcl (moW h mm kA v g) H := hP
                    have hD : va_D A (moW h mm kA v g) := hD
                    rcases hp360 with ⟨rfl, z361⟩ | ⟨rfl, z362, z363⟩
                    · refine xz_ne (a := 1) (tgt := 261) hx hb xd_Mo_newRequire_247 (by decide) (by omega) (fun _ => ?_) (fun hc364 => absurd hc364 (by omega))
                      refine lv_bipush (v := (-2)) hx hb xd_Mo_newRequire_261 (by decide) ?_
                      exact W.iret (v := (-2)) hx hb hr (fun t ht hW => ⟨⟨(-2), (v, g), rfl, ⟨hMI, rfl, Or.inr (Or.inl rfl)⟩, by rw [ht]; exact hP, hD⟩, hS.F ht⟩) hS.2.2 xd_Mo_newRequire_263
                    · refine xz_ne (a := 0) (tgt := 261) hx hb xd_Mo_newRequire_247 (by decide) (by omega) (fun hc365 => absurd hc365 (by omega)) (fun _ => ?_)
                      refine lv_aload_n hx hb xd_Mo_newRequire_250 rfl (lv_at hl 2 rfl) ?_
                      refine va_get (D := D) (ci := 4) (v := .ref (mm 12)) (C := xR_Mo) (T := xT_Mo) (N := 31) hx hb hT xi_Mo hown hK.1 hP 0 rfl rfl 17 (by decide) (hT _ xq_12) (fun _ h9 => h9) rfl xd_Mo_newRequire_251 ?_
                      refine lv_iload hx hb xd_Mo_newRequire_254 (lv_at hl 6 rfl) ?_
                      refine xn_iald (i := nd - 1) hx hb hK.1 hP 13 0 rfl rfl (by omega) (by decide) xd_Mo_newRequire_256 ?_
                      refine xn_top (x := (g 12 (nd - 1))) (y := nI rq1) erq1 ?_
                      refine lv_iconst (v := 5) hx hb xd_Mo_newRequire_257 (by decide) ?_
                      refine xn_ne (a := rq1) (b := 5) (tgt := 264) hx hb xd_Mo_newRequire_258 (by decide) (by omega) (by omega) (fun hc366 => ?_) (fun hc366 => ?_)
                      · refine lv_aload_n hx hb xd_Mo_newRequire_264 rfl (lv_at hl 2 rfl) ?_
                        refine va_get (D := D) (ci := 4) (v := .ref (mm 13)) (C := xR_Mo) (T := xT_Mo) (N := 31) hx hb hT xi_Mo hown hK.1 hP 0 rfl rfl 18 (by decide) (hT _ xq_13) (fun _ h9 => h9) rfl xd_Mo_newRequire_265 ?_
                        refine lv_iconst (v := 5) hx hb xd_Mo_newRequire_268 (by decide) ?_
                        refine lv_iload hx hb xd_Mo_newRequire_269 (lv_at hl 6 rfl) ?_
                        refine lv_imul hx hb xd_Mo_newRequire_271 ?_
                        refine xn_top (y := nI (5 * (nd - 1))) (pk_mul 5 (nd - 1)) ?_
                        refine lv_aload_n hx hb xd_Mo_newRequire_272 rfl (lv_at hl 2 rfl) ?_
                        refine va_get (D := D) (ci := 4) (v := .ref (mm 12)) (C := xR_Mo) (T := xT_Mo) (N := 31) hx hb hT xi_Mo hown hK.1 hP 0 rfl rfl 17 (by decide) (hT _ xq_12) (fun _ h9 => h9) rfl xd_Mo_newRequire_273 ?_
                        refine lv_iload hx hb xd_Mo_newRequire_276 (lv_at hl 6 rfl) ?_
                        refine xn_iald (i := nd - 1) hx hb hK.1 hP 13 0 rfl rfl (by omega) (by decide) xd_Mo_newRequire_278 ?_
                        refine xn_top (x := (g 12 (nd - 1))) (y := nI rq1) erq1 ?_
                        refine lv_iadd hx hb xd_Mo_newRequire_279 ?_
                        refine xn_top (y := nI ((5 * (nd - 1)) + rq1)) (nI_add (5 * (nd - 1)) rq1) ?_
                        refine lv_iload hx hb xd_Mo_newRequire_280 (lv_at hl 5 rfl) ?_
                        refine xn_iast (i := (5 * (nd - 1)) + rq1) hx hb hK.1 hP hD hS 14 0 rfl rfl (by omega) (by decide) xd_Mo_newRequire_282 (fun H locs hP hD hS => ?_)
                        have hP : va_P D xcl (moW h mm kA v (va_up g 13 (upd (g 13) ((5 * (nd - 1)) + rq1) r338))) H := hP
                        have hD : va_D A (moW h mm kA v (va_up g 13 (upd (g 13) ((5 * (nd - 1)) + rq1) r338))) := hD
                        refine lv_aload_n hx hb xd_Mo_newRequire_283 rfl (lv_at hl 2 rfl) ?_
                        refine va_get (D := D) (ci := 4) (v := .ref (mm 16)) (C := xR_Mo) (T := xT_Mo) (N := 31) hx hb hT xi_Mo hown hK.1 hP 0 rfl rfl 21 (by decide) (hT _ xq_14) (fun _ h9 => h9) rfl xd_Mo_newRequire_284 ?_
                        refine lv_iconst (v := 5) hx hb xd_Mo_newRequire_287 (by decide) ?_
                        refine lv_iload hx hb xd_Mo_newRequire_288 (lv_at hl 6 rfl) ?_
                        refine lv_imul hx hb xd_Mo_newRequire_290 ?_
                        refine xn_top (y := nI (5 * (nd - 1))) (pk_mul 5 (nd - 1)) ?_
                        refine lv_aload_n hx hb xd_Mo_newRequire_291 rfl (lv_at hl 2 rfl) ?_
                        refine va_get (D := D) (ci := 4) (v := .ref (mm 12)) (C := xR_Mo) (T := xT_Mo) (N := 31) hx hb hT xi_Mo hown hK.1 hP 0 rfl rfl 17 (by decide) (hT _ xq_12) (fun _ h9 => h9) rfl xd_Mo_newRequire_292 ?_
                        refine lv_iload hx hb xd_Mo_newRequire_295 (lv_at hl 6 rfl) ?_
                        refine xn_iald (i := nd - 1) hx hb hK.1 hP 13 0 rfl rfl (by omega) (by decide) xd_Mo_newRequire_297 ?_
                        refine xn_top (x := (g 12 (nd - 1))) (y := nI rq1) erq1 ?_
                        refine lv_iadd hx hb xd_Mo_newRequire_298 ?_
                        refine xn_top (y := nI ((5 * (nd - 1)) + rq1)) (nI_add (5 * (nd - 1)) rq1) ?_
                        refine lv_iload_n hx hb xd_Mo_newRequire_299 rfl (lv_at hl 3 rfl) ?_
                        refine xn_zast (i := (5 * (nd - 1)) + rq1) hx hb hK.1 hP hD hS 17 2 rfl rfl (by omega) (by decide) xd_Mo_newRequire_300 (fun H locs hP hD hS => ?_)
                        have hP : va_P D xcl (moW h mm kA v (va_up (va_up g 13 (upd (g 13) ((5 * (nd - 1)) + rq1) r338)) 16 (upd (g 16) ((5 * (nd - 1)) + rq1) (vp_nar .boolean 1)))) H := hP
                        have hD : va_D A (moW h mm kA v (va_up (va_up g 13 (upd (g 13) ((5 * (nd - 1)) + rq1) r338)) 16 (upd (g 16) ((5 * (nd - 1)) + rq1) (vp_nar .boolean 1)))) := hD
                        refine lv_aload_n hx hb xd_Mo_newRequire_301 rfl (lv_at hl 2 rfl) ?_
                        refine va_get (D := D) (ci := 4) (v := .ref (mm 17)) (C := xR_Mo) (T := xT_Mo) (N := 31) hx hb hT xi_Mo hown hK.1 hP 0 rfl rfl 22 (by decide) (hT _ xq_15) (fun _ h9 => h9) rfl xd_Mo_newRequire_302 ?_
                        refine lv_iconst (v := 5) hx hb xd_Mo_newRequire_305 (by decide) ?_
                        refine lv_iload hx hb xd_Mo_newRequire_306 (lv_at hl 6 rfl) ?_
                        refine lv_imul hx hb xd_Mo_newRequire_308 ?_
                        refine xn_top (y := nI (5 * (nd - 1))) (pk_mul 5 (nd - 1)) ?_
                        refine lv_aload_n hx hb xd_Mo_newRequire_309 rfl (lv_at hl 2 rfl) ?_
                        refine va_get (D := D) (ci := 4) (v := .ref (mm 12)) (C := xR_Mo) (T := xT_Mo) (N := 31) hx hb hT xi_Mo hown hK.1 hP 0 rfl rfl 17 (by decide) (hT _ xq_12) (fun _ h9 => h9) rfl xd_Mo_newRequire_310 ?_
                        refine lv_iload hx hb xd_Mo_newRequire_313 (lv_at hl 6 rfl) ?_
                        refine xn_iald (i := nd - 1) hx hb hK.1 hP 13 0 rfl rfl (by omega) (by decide) xd_Mo_newRequire_315 ?_
                        refine xn_top (x := (g 12 (nd - 1))) (y := nI rq1) erq1 ?_
                        refine lv_iadd hx hb xd_Mo_newRequire_316 ?_
                        refine xn_top (y := nI ((5 * (nd - 1)) + rq1)) (nI_add (5 * (nd - 1)) rq1) ?_
                        refine lv_iload_n hx hb xd_Mo_newRequire_317 rfl (lv_at hl 4 rfl) ?_
                        refine xn_zast (i := (5 * (nd - 1)) + rq1) hx hb hK.1 hP hD hS 18 2 rfl rfl (by omega) (by decide) xd_Mo_newRequire_318 (fun H locs hP hD hS => ?_)
                        have hP : va_P D xcl (moW h mm kA v (va_up (va_up (va_up g 13 (upd (g 13) ((5 * (nd - 1)) + rq1) r338)) 16 (upd (g 16) ((5 * (nd - 1)) + rq1) (vp_nar .boolean 1))) 17 (upd (g 17) ((5 * (nd - 1)) + rq1) (vp_nar .boolean 0)))) H := hP
                        have hD : va_D A (moW h mm kA v (va_up (va_up (va_up g 13 (upd (g 13) ((5 * (nd - 1)) + rq1) r338)) 16 (upd (g 16) ((5 * (nd - 1)) + rq1) (vp_nar .boolean 1))) 17 (upd (g 17) ((5 * (nd - 1)) + rq1) (vp_nar .boolean 0)))) := hD
                        refine lv_aload_n hx hb xd_Mo_newRequire_319 rfl (lv_at hl 2 rfl) ?_
                        refine va_get (D := D) (ci := 4) (v := .ref (mm 12)) (C := xR_Mo) (T := xT_Mo) (N := 31) hx hb hT xi_Mo hown hK.1 hP 0 rfl rfl 17 (by decide) (hT _ xq_12) (fun _ h9 => h9) rfl xd_Mo_newRequire_320 ?_
                        refine lv_iload hx hb xd_Mo_newRequire_323 (lv_at hl 6 rfl) ?_
                        refine lv_dup2_11 hx hb xd_Mo_newRequire_325 rfl rfl ?_
                        refine xn_iald (i := nd - 1) hx hb hK.1 hP 13 0 rfl rfl (by omega) (by decide) xd_Mo_newRequire_326 ?_
                        refine xn_top (x := (g 12 (nd - 1))) (y := nI rq1) erq1 ?_
                        refine lv_iconst (v := 1) hx hb xd_Mo_newRequire_327 (by decide) ?_
                        refine lv_iadd hx hb xd_Mo_newRequire_328 ?_
                        refine xn_top (y := nI (rq1 + 1)) (nI_add rq1 1) ?_
                        refine xn_iast (i := nd - 1) hx hb hK.1 hP hD hS 13 0 rfl rfl (by omega) (by decide) xd_Mo_newRequire_329 (fun H locs hP hD hS => ?_)
                        have hP : va_P D xcl (moW h mm kA v (va_up (va_up (va_up (va_up g 12 (upd (g 12) (nd - 1) (nI (rq1 + 1)))) 13 (upd (g 13) ((5 * (nd - 1)) + rq1) r338)) 16 (upd (g 16) ((5 * (nd - 1)) + rq1) (vp_nar .boolean 1))) 17 (upd (g 17) ((5 * (nd - 1)) + rq1) (vp_nar .boolean 0)))) H := hP
                        have hD : va_D A (moW h mm kA v (va_up (va_up (va_up (va_up g 12 (upd (g 12) (nd - 1) (nI (rq1 + 1)))) 13 (upd (g 13) ((5 * (nd - 1)) + rq1) r338)) 16 (upd (g 16) ((5 * (nd - 1)) + rq1) (vp_nar .boolean 1))) 17 (upd (g 17) ((5 * (nd - 1)) + rq1) (vp_nar .boolean 0)))) := hD
                        refine lv_iconst (v := 2) hx hb xd_Mo_newRequire_330 (by decide) ?_
                        exact W.iret (v := 2) hx hb hr (fun t ht hW => ⟨⟨2, (v, (va_up (va_up (va_up (va_up g 12 (upd (g 12) (nd - 1) (nI (rq1 + 1)))) 13 (upd (g 13) ((5 * (nd - 1)) + rq1) r338)) 16 (upd (g 16) ((5 * (nd - 1)) + rq1) (vp_nar .boolean 1))) 17 (upd (g 17) ((5 * (nd - 1)) + rq1) (vp_nar .boolean 0)))), rfl, ⟨MI_g (g := va_up g 12 (upd (g 12) (nd - 1) (nI (rq1 + 1)))) rfl rfl rfl rfl rfl rfl rfl rfl (MI_rq (by omega) hMI), rfl, Or.inr (Or.inr (Or.inr rfl))⟩, by rw [ht]; exact hP, hD⟩, hS.F ht⟩) hS.2.2 xd_Mo_newRequire_331
                      · refine lv_bipush (v := (-2)) hx hb xd_Mo_newRequire_261 (by decide) ?_
                        exact W.iret (v := (-2)) hx hb hr (fun t ht hW => ⟨⟨(-2), (v, g), rfl, ⟨hMI, rfl, Or.inr (Or.inl rfl)⟩, by rw [ht]; exact hP, hD⟩, hS.F ht⟩) hS.2.2 xd_Mo_newRequire_263
                  · refine lv_iconst (v := (-1)) hx hb xd_Mo_newRequire_241 (by decide) ?_
                    exact W.iret (v := (-1)) hx hb hr (fun t ht hW => ⟨⟨(-1), (v, g), rfl, ⟨hMI, rfl, Or.inl rfl⟩, by rw [ht]; exact hP, hD⟩, hS.F ht⟩) hS.2.2 xd_Mo_newRequire_242
                · refine lv_iload hx hb xd_Mo_newRequire_206 (lv_at hl 1 rfl) ?_
                  refine lv_if_ne (tgt := 223) hx hb xd_Mo_newRequire_208 (by decide) (fun hc367 => ?_) (fun hc367 => ?_)
                  · refine lv_iconst (v := 1) hx hb xd_Mo_newRequire_223 (by decide) ?_
                    refine lv_goto (tgt := 228) hx hb xd_Mo_newRequire_224 (by decide) ?_
                    refine lv_istore hx hb xd_Mo_newRequire_228 hl (Nat.le_of_ble_eq_true rfl) rfl (fun ls hl => ?_)
                    have hl : lv_has ls 8 [(6, .int 1), (7, .int (nI i)), (0, .ref h), (2, .int 1), (3, .int 0), (4, .int r338), (5, .int (nI (nd - 1)))] := hl
                    refine lv_iinc (k := 1) (x := (nI i)) (v := (nI (i + 1))) hx hb xd_Mo_newRequire_230 hl rfl (xb_inc i 1) (Nat.le_of_ble_eq_true rfl) rfl (fun ls hl => ?_)
                    have hl : lv_has ls 8 [(7, .int (nI (i + 1))), (6, .int 1), (0, .ref h), (2, .int 1), (3, .int 0), (4, .int r338), (5, .int (nI (nd - 1)))] := hl
                    refine lv_goto (tgt := 184) hx hb xd_Mo_newRequire_233 (by decide) ?_
                    exact ih354 (i + 1, 1) _ _ _ (show 5 * (nd - 1) + rq1 - (i + 1) < 5 * (nd - 1) + rq1 - i by omega) (lv_sub hl [0, 1, 2, 3, 4, 5, 6] rfl) hP hD hS ⟨(show 5 * (nd - 1) ≤ (i + 1) from by first | assumption | omega), (show (i + 1) ≤ 5 * (nd - 1) + rq1 from by first | assumption | omega)⟩
                  · refine lv_aload_n hx hb xd_Mo_newRequire_211 rfl (lv_at hl 2 rfl) ?_
                    refine va_get (D := D) (ci := 4) (v := .ref (mm 13)) (C := xR_Mo) (T := xT_Mo) (N := 31) hx hb hT xi_Mo hown hK.1 hP 0 rfl rfl 18 (by decide) (hT _ xq_13) (fun _ h9 => h9) rfl xd_Mo_newRequire_212 ?_
                    refine lv_iload hx hb xd_Mo_newRequire_215 (lv_at hl 0 rfl) ?_
                    refine xn_iald (i := i) hx hb hK.1 hP 14 0 rfl rfl (by omega) (by decide) xd_Mo_newRequire_217 ?_
                    refine lv_iload hx hb xd_Mo_newRequire_218 (lv_at hl 5 rfl) ?_
                    refine lv_icmp_ne (tgt := 227) hx hb xd_Mo_newRequire_220 (by decide) (fun hc368 => ?_) (fun hc368 => ?_)
                    · refine lv_iconst (v := 0) hx hb xd_Mo_newRequire_227 (by decide) ?_
                      refine lv_istore hx hb xd_Mo_newRequire_228 hl (Nat.le_of_ble_eq_true rfl) rfl (fun ls hl => ?_)
                      have hl : lv_has ls 8 [(6, .int 0), (7, .int (nI i)), (0, .ref h), (2, .int 1), (3, .int 0), (4, .int r338), (5, .int (nI (nd - 1)))] := hl
                      refine lv_iinc (k := 1) (x := (nI i)) (v := (nI (i + 1))) hx hb xd_Mo_newRequire_230 hl rfl (xb_inc i 1) (Nat.le_of_ble_eq_true rfl) rfl (fun ls hl => ?_)
                      have hl : lv_has ls 8 [(7, .int (nI (i + 1))), (6, .int 0), (0, .ref h), (2, .int 1), (3, .int 0), (4, .int r338), (5, .int (nI (nd - 1)))] := hl
                      refine lv_goto (tgt := 184) hx hb xd_Mo_newRequire_233 (by decide) ?_
                      exact ih354 (i + 1, 0) _ _ _ (show 5 * (nd - 1) + rq1 - (i + 1) < 5 * (nd - 1) + rq1 - i by omega) (lv_sub hl [0, 1, 2, 3, 4, 5, 6] rfl) hP hD hS ⟨(show 5 * (nd - 1) ≤ (i + 1) from by first | assumption | omega), (show (i + 1) ≤ 5 * (nd - 1) + rq1 from by first | assumption | omega)⟩
                    · refine lv_iconst (v := 1) hx hb xd_Mo_newRequire_223 (by decide) ?_
                      refine lv_goto (tgt := 228) hx hb xd_Mo_newRequire_224 (by decide) ?_
                      refine lv_istore hx hb xd_Mo_newRequire_228 hl (Nat.le_of_ble_eq_true rfl) rfl (fun ls hl => ?_)
                      have hl : lv_has ls 8 [(6, .int 1), (7, .int (nI i)), (0, .ref h), (2, .int 1), (3, .int 0), (4, .int r338), (5, .int (nI (nd - 1)))] := hl
                      refine lv_iinc (k := 1) (x := (nI i)) (v := (nI (i + 1))) hx hb xd_Mo_newRequire_230 hl rfl (xb_inc i 1) (Nat.le_of_ble_eq_true rfl) rfl (fun ls hl => ?_)
                      have hl : lv_has ls 8 [(7, .int (nI (i + 1))), (6, .int 1), (0, .ref h), (2, .int 1), (3, .int 0), (4, .int r338), (5, .int (nI (nd - 1)))] := hl
                      refine lv_goto (tgt := 184) hx hb xd_Mo_newRequire_233 (by decide) ?_
                      exact ih354 (i + 1, 1) _ _ _ (show 5 * (nd - 1) + rq1 - (i + 1) < 5 * (nd - 1) + rq1 - i by omega) (lv_sub hl [0, 1, 2, 3, 4, 5, 6] rfl) hP hD hS ⟨(show 5 * (nd - 1) ≤ (i + 1) from by first | assumption | omega), (show (i + 1) ≤ 5 * (nd - 1) + rq1 from by first | assumption | omega)⟩
              · refine lv_iconst (v := 1) hx hb xd_Mo_newRequire_171 (by decide) ?_
                refine lv_goto (tgt := 176) hx hb xd_Mo_newRequire_172 (by decide) ?_
                refine lv_istore hx hb xd_Mo_newRequire_176 hl (Nat.le_of_ble_eq_true rfl) rfl (fun ls hl => ?_)
                have hl : lv_has ls 8 [(6, .int 1), (5, .int (nI (nd - 1))), (4, .int r338), (1, .int 2), (3, .int 0), (2, .int 1), (0, .ref h)] := hl
                refine lv_iconst (v := 5) hx hb xd_Mo_newRequire_178 (by decide) ?_
                refine lv_iload hx hb xd_Mo_newRequire_179 (lv_at hl 1 rfl) ?_
                refine lv_imul hx hb xd_Mo_newRequire_181 ?_
                refine xn_top (y := nI (5 * (nd - 1))) (pk_mul 5 (nd - 1)) ?_
                refine lv_istore hx hb xd_Mo_newRequire_182 hl (Nat.le_of_ble_eq_true rfl) rfl (fun ls hl => ?_)
                have hl : lv_has ls 8 [(7, .int (nI (5 * (nd - 1)))), (6, .int 1), (5, .int (nI (nd - 1))), (4, .int r338), (1, .int 2), (3, .int 0), (2, .int 1), (0, .ref h)] := hl
                refine xlab (σ := Nat × Int32) (ml := 8) 184 (fun (i, tw) => [(7, .int (nI i)), (6, .int tw), (0, .ref h), (2, .int 1), (3, .int 0), (4, .int r338), (5, .int (nI (nd - 1)))]) (fun (i, tw) => []) (fun (i, tw) => moW h mm kA v g) (fun (i, tw) => (5 * (nd - 1) ≤ i) ∧ (i ≤ 5 * (nd - 1) + rq1)) (fun (i, tw) => 5 * (nd - 1) + rq1 - i) ?_ (5 * (nd - 1), 1) _ _ _ (lv_sub hl [0, 1, 7, 6, 5, 3, 2] rfl) hP hD hS ⟨(show 5 * (nd - 1) ≤ (5 * (nd - 1)) from by first | assumption | omega), (show (5 * (nd - 1)) ≤ 5 * (nd - 1) + rq1 from by first | assumption | omega)⟩
                intro n9 ih369 a9 ls H locs hμ hl hP hD hS hI
                subst hμ
                obtain ⟨i, tw⟩ := a9
                obtain ⟨hi1, hi2⟩ := hI
                have hi1 : 5 * (nd - 1) ≤ i := hi1
                have hi2 : i ≤ 5 * (nd - 1) + rq1 := hi2
                have hl : lv_has ls 8 [(7, .int (nI i)), (6, .int tw), (0, .ref h), (2, .int 1), (3, .int 0), (4, .int r338), (5, .int (nI (nd - 1)))] := hl
                have hP : va_P D xcl (moW h mm kA v g) H := hP
                have hD : va_D A (moW h mm kA v g) := hD
                refine lv_iload hx hb xd_Mo_newRequire_184 (lv_at hl 6 rfl) ?_
                refine xz_lt (a := nd - 1) (tgt := 236) hx hb xd_Mo_newRequire_186 (by decide) (by omega) ?_
                refine lv_iload hx hb xd_Mo_newRequire_189 (lv_at hl 0 rfl) ?_
                refine lv_iconst (v := 5) hx hb xd_Mo_newRequire_191 (by decide) ?_
                refine lv_iload hx hb xd_Mo_newRequire_192 (lv_at hl 6 rfl) ?_
                refine lv_imul hx hb xd_Mo_newRequire_194 ?_
                refine xn_top (y := nI (5 * (nd - 1))) (pk_mul 5 (nd - 1)) ?_
                refine lv_aload_n hx hb xd_Mo_newRequire_195 rfl (lv_at hl 2 rfl) ?_
                refine va_get (D := D) (ci := 4) (v := .ref (mm 12)) (C := xR_Mo) (T := xT_Mo) (N := 31) hx hb hT xi_Mo hown hK.1 hP 0 rfl rfl 17 (by decide) (hT _ xq_12) (fun _ h9 => h9) rfl xd_Mo_newRequire_196 ?_
                refine lv_iload hx hb xd_Mo_newRequire_199 (lv_at hl 6 rfl) ?_
                refine xn_iald (i := nd - 1) hx hb hK.1 hP 13 0 rfl rfl (by omega) (by decide) xd_Mo_newRequire_201 ?_
                refine xn_top (x := (g 12 (nd - 1))) (y := nI rq1) erq1 ?_
                refine lv_iadd hx hb xd_Mo_newRequire_202 ?_
                refine xn_top (y := nI ((5 * (nd - 1)) + rq1)) (nI_add (5 * (nd - 1)) rq1) ?_
                refine xn_ge (a := i) (b := (5 * (nd - 1)) + rq1) (tgt := 236) hx hb xd_Mo_newRequire_203 (by decide) (by omega) (by omega) (fun hc371 => ?_) (fun hc371 => ?_)
                · refine lv_iload hx hb xd_Mo_newRequire_236 (lv_at hl 1 rfl) ?_
                  refine lv_if_eq (tgt := 243) hx hb xd_Mo_newRequire_238 (by decide) (fun hc372 => ?_) (fun hc372 => ?_)
                  · refine lv_aload_n hx hb xd_Mo_newRequire_243 rfl (lv_at hl 2 rfl) ?_
                    have hFc := va_free (wc := (moW h mm kA v g)) hD hS hA [0, 1, 2, 3, 4, 5, 6, 7, 8, 9, 10, 11, 12, 13, 14, 15, 16, 17, 18, 19, 20, 21, 22, 23, 24, 25] rfl
                    refine va_calli (va_runV (As := []) (rest := []) ⟨hx, hb, hml, hown, hT⟩ (xc_Mo_isShut l D kA H.size h mm v g nd (by first | assumption | omega) (by first | assumption | omega)) (cwV 0 hT (wT_V xq_8 xq_9 xq_10 xq_5 xq_7) rfl rfl rfl (by decide +kernel) ⟨Nat.le_of_ble_eq_true rfl, Nat.le_of_ble_eq_true rfl⟩) (x_preV hK hP hD 0 rfl rfl) rfl rfl hl.1 rfl (lv_room (Nat.le_of_ble_eq_true rfl)) xd_Mo_newRequire_244 ⟨Nat.le_of_ble_eq_true rfl, Nat.le_of_ble_eq_true rfl⟩) hS (fun q _ h => hFc q h) hFc (fun r373 u374 t H1 locs ht hvm hp375 hB hz1 hk1 hS => ?_)
                    obtain ⟨hP1, hD1⟩ := hB
                    rw [ht] at hP1
                    have hD1 := hD1.weaken (fun _ _ _ h => hFc _ h)
                    generalize H1 = H at hP1 hS ⊢
                    have hP := hP1
                    have hD := hD1
                    have hP : va_P D xcl (moW h mm kA v g) H := hP
                    have hD : va_D A (moW h mm kA v g) := hD
                    rcases hp375 with ⟨rfl, z376⟩ | ⟨rfl, z377, z378⟩
                    · refine xz_ne (a := 1) (tgt := 261) hx hb xd_Mo_newRequire_247 (by decide) (by omega) (fun _ => ?_) (fun hc379 => absurd hc379 (by omega))
                      refine lv_bipush (v := (-2)) hx hb xd_Mo_newRequire_261 (by decide) ?_
                      exact W.iret (v := (-2)) hx hb hr (fun t ht hW => ⟨⟨(-2), (v, g), rfl, ⟨hMI, rfl, Or.inr (Or.inl rfl)⟩, by rw [ht]; exact hP, hD⟩, hS.F ht⟩) hS.2.2 xd_Mo_newRequire_263
                    · refine xz_ne (a := 0) (tgt := 261) hx hb xd_Mo_newRequire_247 (by decide) (by omega) (fun hc380 => absurd hc380 (by omega)) (fun _ => ?_)
                      refine lv_aload_n hx hb xd_Mo_newRequire_250 rfl (lv_at hl 2 rfl) ?_
                      refine va_get (D := D) (ci := 4) (v := .ref (mm 12)) (C := xR_Mo) (T := xT_Mo) (N := 31) hx hb hT xi_Mo hown hK.1 hP 0 rfl rfl 17 (by decide) (hT _ xq_12) (fun _ h9 => h9) rfl xd_Mo_newRequire_251 ?_
                      refine lv_iload hx hb xd_Mo_newRequire_254 (lv_at hl 6 rfl) ?_
                      refine xn_iald (i := nd - 1) hx hb hK.1 hP 13 0 rfl rfl (by omega) (by decide) xd_Mo_newRequire_256 ?_
                      refine xn_top (x := (g 12 (nd - 1))) (y := nI rq1) erq1 ?_
                      refine lv_iconst (v := 5) hx hb xd_Mo_newRequire_257 (by decide) ?_
                      refine xn_ne (a := rq1) (b := 5) (tgt := 264) hx hb xd_Mo_newRequire_258 (by decide) (by omega) (by omega) (fun hc381 => ?_) (fun hc381 => ?_)
                      · refine lv_aload_n hx hb xd_Mo_newRequire_264 rfl (lv_at hl 2 rfl) ?_
                        refine va_get (D := D) (ci := 4) (v := .ref (mm 13)) (C := xR_Mo) (T := xT_Mo) (N := 31) hx hb hT xi_Mo hown hK.1 hP 0 rfl rfl 18 (by decide) (hT _ xq_13) (fun _ h9 => h9) rfl xd_Mo_newRequire_265 ?_
                        refine lv_iconst (v := 5) hx hb xd_Mo_newRequire_268 (by decide) ?_
                        refine lv_iload hx hb xd_Mo_newRequire_269 (lv_at hl 6 rfl) ?_
                        refine lv_imul hx hb xd_Mo_newRequire_271 ?_
                        refine xn_top (y := nI (5 * (nd - 1))) (pk_mul 5 (nd - 1)) ?_
                        refine lv_aload_n hx hb xd_Mo_newRequire_272 rfl (lv_at hl 2 rfl) ?_
                        refine va_get (D := D) (ci := 4) (v := .ref (mm 12)) (C := xR_Mo) (T := xT_Mo) (N := 31) hx hb hT xi_Mo hown hK.1 hP 0 rfl rfl 17 (by decide) (hT _ xq_12) (fun _ h9 => h9) rfl xd_Mo_newRequire_273 ?_
                        refine lv_iload hx hb xd_Mo_newRequire_276 (lv_at hl 6 rfl) ?_
                        refine xn_iald (i := nd - 1) hx hb hK.1 hP 13 0 rfl rfl (by omega) (by decide) xd_Mo_newRequire_278 ?_
                        refine xn_top (x := (g 12 (nd - 1))) (y := nI rq1) erq1 ?_
                        refine lv_iadd hx hb xd_Mo_newRequire_279 ?_
                        refine xn_top (y := nI ((5 * (nd - 1)) + rq1)) (nI_add (5 * (nd - 1)) rq1) ?_
                        refine lv_iload hx hb xd_Mo_newRequire_280 (lv_at hl 5 rfl) ?_
                        refine xn_iast (i := (5 * (nd - 1)) + rq1) hx hb hK.1 hP hD hS 14 0 rfl rfl (by omega) (by decide) xd_Mo_newRequire_282 (fun H locs hP hD hS => ?_)
                        have hP : va_P D xcl (moW h mm kA v (va_up g 13 (upd (g 13) ((5 * (nd - 1)) + rq1) r338))) H := hP
                        have hD : va_D A (moW h mm kA v (va_up g 13 (upd (g 13) ((5 * (nd - 1)) + rq1) r338))) := hD
                        refine lv_aload_n hx hb xd_Mo_newRequire_283 rfl (lv_at hl 2 rfl) ?_
                        refine va_get (D := D) (ci := 4) (v := .ref (mm 16)) (C := xR_Mo) (T := xT_Mo) (N := 31) hx hb hT xi_Mo hown hK.1 hP 0 rfl rfl 21 (by decide) (hT _ xq_14) (fun _ h9 => h9) rfl xd_Mo_newRequire_284 ?_
                        refine lv_iconst (v := 5) hx hb xd_Mo_newRequire_287 (by decide) ?_
                        refine lv_iload hx hb xd_Mo_newRequire_288 (lv_at hl 6 rfl) ?_
                        refine lv_imul hx hb xd_Mo_newRequire_290 ?_
                        refine xn_top (y := nI (5 * (nd - 1))) (pk_mul 5 (nd - 1)) ?_
                        refine lv_aload_n hx hb xd_Mo_newRequire_291 rfl (lv_at hl 2 rfl) ?_
                        refine va_get (D := D) (ci := 4) (v := .ref (mm 12)) (C := xR_Mo) (T := xT_Mo) (N := 31) hx hb hT xi_Mo hown hK.1 hP 0 rfl rfl 17 (by decide) (hT _ xq_12) (fun _ h9 => h9) rfl xd_Mo_newRequire_292 ?_
                        refine lv_iload hx hb xd_Mo_newRequire_295 (lv_at hl 6 rfl) ?_
                        refine xn_iald (i := nd - 1) hx hb hK.1 hP 13 0 rfl rfl (by omega) (by decide) xd_Mo_newRequire_297 ?_
                        refine xn_top (x := (g 12 (nd - 1))) (y := nI rq1) erq1 ?_
                        refine lv_iadd hx hb xd_Mo_newRequire_298 ?_
                        refine xn_top (y := nI ((5 * (nd - 1)) + rq1)) (nI_add (5 * (nd - 1)) rq1) ?_
                        refine lv_iload_n hx hb xd_Mo_newRequire_299 rfl (lv_at hl 3 rfl) ?_
                        refine xn_zast (i := (5 * (nd - 1)) + rq1) hx hb hK.1 hP hD hS 17 2 rfl rfl (by omega) (by decide) xd_Mo_newRequire_300 (fun H locs hP hD hS => ?_)
                        have hP : va_P D xcl (moW h mm kA v (va_up (va_up g 13 (upd (g 13) ((5 * (nd - 1)) + rq1) r338)) 16 (upd (g 16) ((5 * (nd - 1)) + rq1) (vp_nar .boolean 1)))) H := hP
                        have hD : va_D A (moW h mm kA v (va_up (va_up g 13 (upd (g 13) ((5 * (nd - 1)) + rq1) r338)) 16 (upd (g 16) ((5 * (nd - 1)) + rq1) (vp_nar .boolean 1)))) := hD
                        refine lv_aload_n hx hb xd_Mo_newRequire_301 rfl (lv_at hl 2 rfl) ?_
                        refine va_get (D := D) (ci := 4) (v := .ref (mm 17)) (C := xR_Mo) (T := xT_Mo) (N := 31) hx hb hT xi_Mo hown hK.1 hP 0 rfl rfl 22 (by decide) (hT _ xq_15) (fun _ h9 => h9) rfl xd_Mo_newRequire_302 ?_
                        refine lv_iconst (v := 5) hx hb xd_Mo_newRequire_305 (by decide) ?_
                        refine lv_iload hx hb xd_Mo_newRequire_306 (lv_at hl 6 rfl) ?_
                        refine lv_imul hx hb xd_Mo_newRequire_308 ?_
                        refine xn_top (y := nI (5 * (nd - 1))) (pk_mul 5 (nd - 1)) ?_
                        refine lv_aload_n hx hb xd_Mo_newRequire_309 rfl (lv_at hl 2 rfl) ?_
                        refine va_get (D := D) (ci := 4) (v := .ref (mm 12)) (C := xR_Mo) (T := xT_Mo) (N := 31) hx hb hT xi_Mo hown hK.1 hP 0 rfl rfl 17 (by decide) (hT _ xq_12) (fun _ h9 => h9) rfl xd_Mo_newRequire_310 ?_
                        refine lv_iload hx hb xd_Mo_newRequire_313 (lv_at hl 6 rfl) ?_
                        refine xn_iald (i := nd - 1) hx hb hK.1 hP 13 0 rfl rfl (by omega) (by decide) xd_Mo_newRequire_315 ?_
                        refine xn_top (x := (g 12 (nd - 1))) (y := nI rq1) erq1 ?_
                        refine lv_iadd hx hb xd_Mo_newRequire_316 ?_
                        refine xn_top (y := nI ((5 * (nd - 1)) + rq1)) (nI_add (5 * (nd - 1)) rq1) ?_
                        refine lv_iload_n hx hb xd_Mo_newRequire_317 rfl (lv_at hl 4 rfl) ?_
                        refine xn_zast (i := (5 * (nd - 1)) + rq1) hx hb hK.1 hP hD hS 18 2 rfl rfl (by omega) (by decide) xd_Mo_newRequire_318 (fun H locs hP hD hS => ?_)
                        have hP : va_P D xcl (moW h mm kA v (va_up (va_up (va_up g 13 (upd (g 13) ((5 * (nd - 1)) + rq1) r338)) 16 (upd (g 16) ((5 * (nd - 1)) + rq1) (vp_nar .boolean 1))) 17 (upd (g 17) ((5 * (nd - 1)) + rq1) (vp_nar .boolean 0)))) H := hP
                        have hD : va_D A (moW h mm kA v (va_up (va_up (va_up g 13 (upd (g 13) ((5 * (nd - 1)) + rq1) r338)) 16 (upd (g 16) ((5 * (nd - 1)) + rq1) (vp_nar .boolean 1))) 17 (upd (g 17) ((5 * (nd - 1)) + rq1) (vp_nar .boolean 0)))) := hD
                        refine lv_aload_n hx hb xd_Mo_newRequire_319 rfl (lv_at hl 2 rfl) ?_
                        refine va_get (D := D) (ci := 4) (v := .ref (mm 12)) (C := xR_Mo) (T := xT_Mo) (N := 31) hx hb hT xi_Mo hown hK.1 hP 0 rfl rfl 17 (by decide) (hT _ xq_12) (fun _ h9 => h9) rfl xd_Mo_newRequire_320 ?_
                        refine lv_iload hx hb xd_Mo_newRequire_323 (lv_at hl 6 rfl) ?_
                        refine lv_dup2_11 hx hb xd_Mo_newRequire_325 rfl rfl ?_
                        refine xn_iald (i := nd - 1) hx hb hK.1 hP 13 0 rfl rfl (by omega) (by decide) xd_Mo_newRequire_326 ?_
                        refine xn_top (x := (g 12 (nd - 1))) (y := nI rq1) erq1 ?_
                        refine lv_iconst (v := 1) hx hb xd_Mo_newRequire_327 (by decide) ?_
                        refine lv_iadd hx hb xd_Mo_newRequire_328 ?_
                        refine xn_top (y := nI (rq1 + 1)) (nI_add rq1 1) ?_
                        refine xn_iast (i := nd - 1) hx hb hK.1 hP hD hS 13 0 rfl rfl (by omega) (by decide) xd_Mo_newRequire_329 (fun H locs hP hD hS => ?_)
                        have hP : va_P D xcl (moW h mm kA v (va_up (va_up (va_up (va_up g 12 (upd (g 12) (nd - 1) (nI (rq1 + 1)))) 13 (upd (g 13) ((5 * (nd - 1)) + rq1) r338)) 16 (upd (g 16) ((5 * (nd - 1)) + rq1) (vp_nar .boolean 1))) 17 (upd (g 17) ((5 * (nd - 1)) + rq1) (vp_nar .boolean 0)))) H := hP
                        have hD : va_D A (moW h mm kA v (va_up (va_up (va_up (va_up g 12 (upd (g 12) (nd - 1) (nI (rq1 + 1)))) 13 (upd (g 13) ((5 * (nd - 1)) + rq1) r338)) 16 (upd (g 16) ((5 * (nd - 1)) + rq1) (vp_nar .boolean 1))) 17 (upd (g 17) ((5 * (nd - 1)) + rq1) (vp_nar .boolean 0)))) := hD
                        refine lv_iconst (v := 2) hx hb xd_Mo_newRequire_330 (by decide) ?_
                        exact W.iret (v := 2) hx hb hr (fun t ht hW => ⟨⟨2, (v, (va_up (va_up (va_up (va_up g 12 (upd (g 12) (nd - 1) (nI (rq1 + 1)))) 13 (upd (g 13) ((5 * (nd - 1)) + rq1) r338)) 16 (upd (g 16) ((5 * (nd - 1)) + rq1) (vp_nar .boolean 1))) 17 (upd (g 17) ((5 * (nd - 1)) + rq1) (vp_nar .boolean 0)))), rfl, ⟨MI_g (g := va_up g 12 (upd (g 12) (nd - 1) (nI (rq1 + 1)))) rfl rfl rfl rfl rfl rfl rfl rfl (MI_rq (by omega) hMI), rfl, Or.inr (Or.inr (Or.inr rfl))⟩, by rw [ht]; exact hP, hD⟩, hS.F ht⟩) hS.2.2 xd_Mo_newRequire_331
                      · refine lv_bipush (v := (-2)) hx hb xd_Mo_newRequire_261 (by decide) ?_
                        exact W.iret (v := (-2)) hx hb hr (fun t ht hW => ⟨⟨(-2), (v, g), rfl, ⟨hMI, rfl, Or.inr (Or.inl rfl)⟩, by rw [ht]; exact hP, hD⟩, hS.F ht⟩) hS.2.2 xd_Mo_newRequire_263
                  · refine lv_iconst (v := (-1)) hx hb xd_Mo_newRequire_241 (by decide) ?_
                    exact W.iret (v := (-1)) hx hb hr (fun t ht hW => ⟨⟨(-1), (v, g), rfl, ⟨hMI, rfl, Or.inl rfl⟩, by rw [ht]; exact hP, hD⟩, hS.F ht⟩) hS.2.2 xd_Mo_newRequire_242
                · refine lv_iload hx hb xd_Mo_newRequire_206 (lv_at hl 1 rfl) ?_
                  refine lv_if_ne (tgt := 223) hx hb xd_Mo_newRequire_208 (by decide) (fun hc382 => ?_) (fun hc382 => ?_)
                  · refine lv_iconst (v := 1) hx hb xd_Mo_newRequire_223 (by decide) ?_
                    refine lv_goto (tgt := 228) hx hb xd_Mo_newRequire_224 (by decide) ?_
                    refine lv_istore hx hb xd_Mo_newRequire_228 hl (Nat.le_of_ble_eq_true rfl) rfl (fun ls hl => ?_)
                    have hl : lv_has ls 8 [(6, .int 1), (7, .int (nI i)), (0, .ref h), (2, .int 1), (3, .int 0), (4, .int r338), (5, .int (nI (nd - 1)))] := hl
                    refine lv_iinc (k := 1) (x := (nI i)) (v := (nI (i + 1))) hx hb xd_Mo_newRequire_230 hl rfl (xb_inc i 1) (Nat.le_of_ble_eq_true rfl) rfl (fun ls hl => ?_)
                    have hl : lv_has ls 8 [(7, .int (nI (i + 1))), (6, .int 1), (0, .ref h), (2, .int 1), (3, .int 0), (4, .int r338), (5, .int (nI (nd - 1)))] := hl
                    refine lv_goto (tgt := 184) hx hb xd_Mo_newRequire_233 (by decide) ?_
                    exact ih369 (i + 1, 1) _ _ _ (show 5 * (nd - 1) + rq1 - (i + 1) < 5 * (nd - 1) + rq1 - i by omega) (lv_sub hl [0, 1, 2, 3, 4, 5, 6] rfl) hP hD hS ⟨(show 5 * (nd - 1) ≤ (i + 1) from by first | assumption | omega), (show (i + 1) ≤ 5 * (nd - 1) + rq1 from by first | assumption | omega)⟩
                  · refine lv_aload_n hx hb xd_Mo_newRequire_211 rfl (lv_at hl 2 rfl) ?_
                    refine va_get (D := D) (ci := 4) (v := .ref (mm 13)) (C := xR_Mo) (T := xT_Mo) (N := 31) hx hb hT xi_Mo hown hK.1 hP 0 rfl rfl 18 (by decide) (hT _ xq_13) (fun _ h9 => h9) rfl xd_Mo_newRequire_212 ?_
                    refine lv_iload hx hb xd_Mo_newRequire_215 (lv_at hl 0 rfl) ?_
                    refine xn_iald (i := i) hx hb hK.1 hP 14 0 rfl rfl (by omega) (by decide) xd_Mo_newRequire_217 ?_
                    refine lv_iload hx hb xd_Mo_newRequire_218 (lv_at hl 5 rfl) ?_
                    refine lv_icmp_ne (tgt := 227) hx hb xd_Mo_newRequire_220 (by decide) (fun hc383 => ?_) (fun hc383 => ?_)
                    · refine lv_iconst (v := 0) hx hb xd_Mo_newRequire_227 (by decide) ?_
                      refine lv_istore hx hb xd_Mo_newRequire_228 hl (Nat.le_of_ble_eq_true rfl) rfl (fun ls hl => ?_)
                      have hl : lv_has ls 8 [(6, .int 0), (7, .int (nI i)), (0, .ref h), (2, .int 1), (3, .int 0), (4, .int r338), (5, .int (nI (nd - 1)))] := hl
                      refine lv_iinc (k := 1) (x := (nI i)) (v := (nI (i + 1))) hx hb xd_Mo_newRequire_230 hl rfl (xb_inc i 1) (Nat.le_of_ble_eq_true rfl) rfl (fun ls hl => ?_)
                      have hl : lv_has ls 8 [(7, .int (nI (i + 1))), (6, .int 0), (0, .ref h), (2, .int 1), (3, .int 0), (4, .int r338), (5, .int (nI (nd - 1)))] := hl
                      refine lv_goto (tgt := 184) hx hb xd_Mo_newRequire_233 (by decide) ?_
                      exact ih369 (i + 1, 0) _ _ _ (show 5 * (nd - 1) + rq1 - (i + 1) < 5 * (nd - 1) + rq1 - i by omega) (lv_sub hl [0, 1, 2, 3, 4, 5, 6] rfl) hP hD hS ⟨(show 5 * (nd - 1) ≤ (i + 1) from by first | assumption | omega), (show (i + 1) ≤ 5 * (nd - 1) + rq1 from by first | assumption | omega)⟩
                    · refine lv_iconst (v := 1) hx hb xd_Mo_newRequire_223 (by decide) ?_
                      refine lv_goto (tgt := 228) hx hb xd_Mo_newRequire_224 (by decide) ?_
                      refine lv_istore hx hb xd_Mo_newRequire_228 hl (Nat.le_of_ble_eq_true rfl) rfl (fun ls hl => ?_)
                      have hl : lv_has ls 8 [(6, .int 1), (7, .int (nI i)), (0, .ref h), (2, .int 1), (3, .int 0), (4, .int r338), (5, .int (nI (nd - 1)))] := hl
                      refine lv_iinc (k := 1) (x := (nI i)) (v := (nI (i + 1))) hx hb xd_Mo_newRequire_230 hl rfl (xb_inc i 1) (Nat.le_of_ble_eq_true rfl) rfl (fun ls hl => ?_)
                      have hl : lv_has ls 8 [(7, .int (nI (i + 1))), (6, .int 1), (0, .ref h), (2, .int 1), (3, .int 0), (4, .int r338), (5, .int (nI (nd - 1)))] := hl
                      refine lv_goto (tgt := 184) hx hb xd_Mo_newRequire_233 (by decide) ?_
                      exact ih369 (i + 1, 1) _ _ _ (show 5 * (nd - 1) + rq1 - (i + 1) < 5 * (nd - 1) + rq1 - i by omega) (lv_sub hl [0, 1, 2, 3, 4, 5, 6] rfl) hP hD hS ⟨(show 5 * (nd - 1) ≤ (i + 1) from by first | assumption | omega), (show (i + 1) ≤ 5 * (nd - 1) + rq1 from by first | assumption | omega)⟩
          · refine lv_iconst (v := (-1)) hx hb xd_Mo_newRequire_144 (by decide) ?_
            exact W.iret (v := (-1)) hx hb hr (fun t ht hW => ⟨⟨(-1), (v, g), rfl, ⟨hMI, rfl, Or.inl rfl⟩, by rw [ht]; exact hP, hD⟩, hS.F ht⟩) hS.2.2 xd_Mo_newRequire_145
      · obtain ⟨b2, e2, hbe2, he2, eb2, ee2⟩ := hws 2 (by omega)
        refine lv_aload_n hx hb xd_Mo_newRequire_70 rfl (lv_at hl 2 rfl) ?_
        refine lv_iload_n hx hb xd_Mo_newRequire_71 rfl (lv_at hl 0 rfl) ?_
        refine lv_bipush (v := 115) hx hb xd_Mo_newRequire_72 (by decide) ?_
        refine lv_bipush (v := 116) hx hb xd_Mo_newRequire_74 (by decide) ?_
        refine lv_bipush (v := 97) hx hb xd_Mo_newRequire_76 (by decide) ?_
        refine lv_bipush (v := 116) hx hb xd_Mo_newRequire_78 (by decide) ?_
        refine lv_bipush (v := 105) hx hb xd_Mo_newRequire_80 (by decide) ?_
        have hFc := va_free (wc := (moW h mm kA v g)) hD hS hA [0, 1, 2, 3, 4, 5, 6, 7, 8, 9, 10, 11, 12, 13, 14, 15, 16, 17, 18, 19, 20, 21, 22, 23, 24, 25] rfl
        refine va_calli (va_runS (As := [.int 115, .int 116, .int 97, .int 116, .int 105]) (rest := [.int 2, .ref h]) ⟨hx, hb, hml, hown, hT⟩ (xc_Mo_code l D kA H.size h mm v g 115 116 97 116 105) (cwS 5 hT (wT_S0 xq_17 xq_18 xq_5 xq_16) rfl rfl rfl (by decide +kernel) ⟨Nat.le_of_ble_eq_true rfl, Nat.le_of_ble_eq_true rfl⟩) (x_preS hK hP hD) rfl rfl hl.1 rfl (lv_room (Nat.le_of_ble_eq_true rfl)) xd_Mo_newRequire_82 ⟨Nat.le_of_ble_eq_true rfl, Nat.le_of_ble_eq_true rfl⟩) hS (fun q _ h => hFc q h) hFc (fun r384 u385 t H1 locs ht hvm hp386 hB hz1 hk1 hS => ?_)
        obtain ⟨hP1, hD1⟩ := hB
        rw [ht] at hP1
        have hD1 := hD1.weaken (fun _ _ _ h => hFc _ h)
        generalize H1 = H at hP1 hS ⊢
        have hP := hP1
        have hD := hD1
        have hP : va_P D xcl (moW h mm kA v g) H := hP
        have hD : va_D A (moW h mm kA v g) := hD
        refine lv_bipush (v := 99) hx hb xd_Mo_newRequire_85 (by decide) ?_
        refine lv_iconst (v := 0) hx hb xd_Mo_newRequire_87 (by decide) ?_
        refine lv_iconst (v := 0) hx hb xd_Mo_newRequire_88 (by decide) ?_
        refine lv_iconst (v := 0) hx hb xd_Mo_newRequire_89 (by decide) ?_
        refine lv_iconst (v := 0) hx hb xd_Mo_newRequire_90 (by decide) ?_
        have hFc := va_free (wc := (moW h mm kA v g)) hD hS hA [0, 1, 2, 3, 4, 5, 6, 7, 8, 9, 10, 11, 12, 13, 14, 15, 16, 17, 18, 19, 20, 21, 22, 23, 24, 25] rfl
        refine va_calli (va_runS (As := [.int 99, .int 0, .int 0, .int 0, .int 0]) (rest := [.int r384, .int 2, .ref h]) ⟨hx, hb, hml, hown, hT⟩ (xc_Mo_code l D kA H.size h mm v g 99 0 0 0 0) (cwS 5 hT (wT_S0 xq_17 xq_18 xq_5 xq_16) rfl rfl rfl (by decide +kernel) ⟨Nat.le_of_ble_eq_true rfl, Nat.le_of_ble_eq_true rfl⟩) (x_preS hK hP hD) rfl rfl hl.1 rfl (lv_room (Nat.le_of_ble_eq_true rfl)) xd_Mo_newRequire_91 ⟨Nat.le_of_ble_eq_true rfl, Nat.le_of_ble_eq_true rfl⟩) hS (fun q _ h => hFc q h) hFc (fun r387 u388 t H1 locs ht hvm hp389 hB hz1 hk1 hS => ?_)
        obtain ⟨hP1, hD1⟩ := hB
        rw [ht] at hP1
        have hD1 := hD1.weaken (fun _ _ _ h => hFc _ h)
        generalize H1 = H at hP1 hS ⊢
        have hP := hP1
        have hD := hD1
        have hP : va_P D xcl (moW h mm kA v g) H := hP
        have hD : va_D A (moW h mm kA v g) := hD
        have hFc := va_free (wc := (moW h mm kA v g)) hD hS hA [0, 1, 2, 3, 4, 5, 6, 7, 8, 9, 10, 11, 12, 13, 14, 15, 16, 17, 18, 19, 20, 21, 22, 23, 24, 25] rfl
        refine va_calli (va_runV (As := [.int 2, .int r384, .int r387]) (rest := []) ⟨hx, hb, hml, hown, hT⟩ (xc_Mo_says l D kA H.size h mm v g 2 b2 e2 r384 r387 (by first | assumption | omega) (by first | assumption | omega) (by first | assumption | omega) (by first | assumption | omega) (by first | assumption | omega) (by first | assumption | omega)) (cwV 3 hT (wT_V xq_20 xq_21 xq_22 xq_5 xq_19) rfl rfl rfl (by decide +kernel) ⟨Nat.le_of_ble_eq_true rfl, Nat.le_of_ble_eq_true rfl⟩) (x_preV hK hP hD 0 rfl rfl) rfl rfl hl.1 rfl (lv_room (Nat.le_of_ble_eq_true rfl)) xd_Mo_newRequire_94 ⟨Nat.le_of_ble_eq_true rfl, Nat.le_of_ble_eq_true rfl⟩) hS (fun q _ h => hFc q h) hFc (fun r390 u391 t H1 locs ht hvm hp392 hB hz1 hk1 hS => ?_)
        obtain ⟨hP1, hD1⟩ := hB
        rw [ht] at hP1
        have hD1 := hD1.weaken (fun _ _ _ h => hFc _ h)
        generalize H1 = H at hP1 hS ⊢
        have hP := hP1
        have hD := hD1
        have hP : va_P D xcl (moW h mm kA v g) H := hP
        have hD : va_D A (moW h mm kA v g) := hD
        rcases hp392 with rfl | rfl
        · refine xz_eq (a := 0) (tgt := 104) hx hb xd_Mo_newRequire_97 (by decide) (by omega) (fun _ => ?_) (fun hc393 => absurd hc393 (by omega))
          refine lv_iconst (v := 0) hx hb xd_Mo_newRequire_104 (by decide) ?_
          refine lv_istore_n hx hb xd_Mo_newRequire_105 rfl hl (Nat.le_of_ble_eq_true rfl) rfl (fun ls hl => ?_)
          have hl : lv_has ls 8 [(3, .int 0), (1, .int 2), (2, .int 1), (0, .ref h)] := hl
          refine lv_iload_n hx hb xd_Mo_newRequire_106 rfl (lv_at hl 0 rfl) ?_
          refine xz_eq (a := 0) (tgt := 116) hx hb xd_Mo_newRequire_107 (by decide) (by omega) (fun _ => ?_) (fun hc394 => absurd hc394 (by omega))
          refine lv_iload_n hx hb xd_Mo_newRequire_116 rfl (lv_at hl 1 rfl) ?_
          refine lv_istore_n hx hb xd_Mo_newRequire_117 rfl hl (Nat.le_of_ble_eq_true rfl) rfl (fun ls hl => ?_)
          have hl : lv_has ls 8 [(1, .int 2), (3, .int 0), (2, .int 1), (0, .ref h)] := hl
          refine lv_aload_n hx hb xd_Mo_newRequire_118 rfl (lv_at hl 3 rfl) ?_
          refine va_get (D := D) (ci := 4) (v := .int (v 3)) (C := xR_Mo) (T := xT_Mo) (N := 31) hx hb hT xi_Mo hown hK.1 hP 0 rfl rfl 4 (by decide) (hT _ xq_0) (fun _ h9 => h9) rfl xd_Mo_newRequire_119 ?_
          refine xn_top (x := (v 3)) (y := nI wn) hwn ?_
          refine lv_iload_n hx hb xd_Mo_newRequire_122 rfl (lv_at hl 0 rfl) ?_
          refine lv_iconst (v := 1) hx hb xd_Mo_newRequire_123 (by decide) ?_
          refine lv_iadd hx hb xd_Mo_newRequire_124 ?_
          refine xn_top (y := nI (3)) (nI_add 2 1) ?_
          refine xn_ne (a := wn) (b := 3) (tgt := 136) hx hb xd_Mo_newRequire_125 (by decide) (by omega) (by omega) (fun hc395 => ?_) (fun hc395 => ?_)
          · refine lv_iconst (v := 0) hx hb xd_Mo_newRequire_136 (by decide) ?_
            refine lv_istore hx hb xd_Mo_newRequire_137 hl (Nat.le_of_ble_eq_true rfl) rfl (fun ls hl => ?_)
            have hl : lv_has ls 8 [(4, .int 0), (1, .int 2), (3, .int 0), (2, .int 1), (0, .ref h)] := hl
            refine lv_iload hx hb xd_Mo_newRequire_139 (lv_at hl 0 rfl) ?_
            refine xz_ne (a := 0) (tgt := 146) hx hb xd_Mo_newRequire_141 (by decide) (by omega) (fun hc396 => absurd hc396 (by omega)) (fun _ => ?_)
            refine lv_iconst (v := (-1)) hx hb xd_Mo_newRequire_144 (by decide) ?_
            exact W.iret (v := (-1)) hx hb hr (fun t ht hW => ⟨⟨(-1), (v, g), rfl, ⟨hMI, rfl, Or.inl rfl⟩, by rw [ht]; exact hP, hD⟩, hS.F ht⟩) hS.2.2 xd_Mo_newRequire_145
          · refine lv_aload_n hx hb xd_Mo_newRequire_128 rfl (lv_at hl 3 rfl) ?_
            refine lv_iload_n hx hb xd_Mo_newRequire_129 rfl (lv_at hl 0 rfl) ?_
            have hFc := va_free (wc := (moW h mm kA v g)) hD hS hA [0, 1, 2, 3, 4, 5, 6, 7, 8, 9, 10, 11, 12, 13, 14, 15, 16, 17, 18, 19, 20, 21, 22, 23, 24, 25] rfl
            refine va_calli (va_runV (As := [.int 2]) (rest := []) ⟨hx, hb, hml, hown, hT⟩ (xc_Mo_nameOf l D kA H.size h mm v g 2 b2 e2 (by first | assumption | omega) (by first | assumption | omega) (by first | assumption | omega) (by first | assumption | omega) (by first | assumption | omega)) (cwV 1 hT (wT_V xq_2 xq_3 xq_4 xq_5 xq_1) rfl rfl rfl (by decide +kernel) ⟨Nat.le_of_ble_eq_true rfl, Nat.le_of_ble_eq_true rfl⟩) (x_preV hK hP hD 0 rfl rfl) rfl rfl hl.1 rfl (lv_room (Nat.le_of_ble_eq_true rfl)) xd_Mo_newRequire_130 ⟨Nat.le_of_ble_eq_true rfl, Nat.le_of_ble_eq_true rfl⟩) hS (fun q _ h => hFc q h) hFc (fun r397 u398 t H1 locs ht hvm hp399 hB hz1 hk1 hS => ?_)
            obtain ⟨hP1, hD1⟩ := hB
            rw [ht] at hP1
            have hD1 := hD1.weaken (fun _ _ _ h => hFc _ h)
            generalize H1 = H at hP1 hS ⊢
            have hP := hP1
            have hD := hD1
            have hP : va_P D xcl (moW h mm kA v g) H := hP
            have hD : va_D A (moW h mm kA v g) := hD
            refine lv_goto (tgt := 137) hx hb xd_Mo_newRequire_133 (by decide) ?_
            refine lv_istore hx hb xd_Mo_newRequire_137 hl (Nat.le_of_ble_eq_true rfl) rfl (fun ls hl => ?_)
            have hl : lv_has ls 8 [(4, .int r397), (1, .int 2), (3, .int 0), (2, .int 1), (0, .ref h)] := hl
            refine lv_iload hx hb xd_Mo_newRequire_139 (lv_at hl 0 rfl) ?_
            refine lv_if_ne (tgt := 146) hx hb xd_Mo_newRequire_141 (by decide) (fun hc400 => ?_) (fun hc400 => ?_)
            · rcases Nat.eq_zero_or_pos nd with hz | hz
              · have hnd0 : v 4 = nI 0 := by rw [hnd, hz]
                refine lv_aload_n hx hb xd_Mo_newRequire_146 rfl (lv_at hl 4 rfl) ?_
                refine va_get (D := D) (ci := 4) (v := .int (v 4)) (C := xR_Mo) (T := xT_Mo) (N := 31) hx hb hT xi_Mo hown hK.1 hP 0 rfl rfl 7 (by decide) (hT _ xq_6) (fun _ h9 => h9) rfl xd_Mo_newRequire_147 ?_
                refine xn_top (x := (v 4)) (y := nI 0) hnd0 ?_
                refine lv_iconst (v := 1) hx hb xd_Mo_newRequire_150 (by decide) ?_
                refine lv_isub hx hb xd_Mo_newRequire_151 ?_
                refine lv_istore hx hb xd_Mo_newRequire_152 hl (Nat.le_of_ble_eq_true rfl) rfl (fun ls hl => ?_)
                have hl : lv_has ls 8 [(5, .int ((nI 0) - 1)), (4, .int r397), (1, .int 2), (3, .int 0), (2, .int 1), (0, .ref h)] := hl
                refine lv_iload hx hb xd_Mo_newRequire_154 (lv_at hl 0 rfl) ?_
                refine lv_if_lt (tgt := 175) hx hb xd_Mo_newRequire_156 (by decide) (fun _ => ?_) (fun hc401 => absurd hc401 (by decide))
                refine lv_iconst (v := 0) hx hb xd_Mo_newRequire_175 (by decide) ?_
                refine lv_istore hx hb xd_Mo_newRequire_176 hl (Nat.le_of_ble_eq_true rfl) rfl (fun ls hl => ?_)
                have hl : lv_has ls 8 [(6, .int 0), (5, .int ((nI 0) - 1)), (4, .int r397), (1, .int 2), (3, .int 0), (2, .int 1), (0, .ref h)] := hl
                refine lv_iconst (v := 5) hx hb xd_Mo_newRequire_178 (by decide) ?_
                refine lv_iload hx hb xd_Mo_newRequire_179 (lv_at hl 1 rfl) ?_
                refine lv_imul hx hb xd_Mo_newRequire_181 ?_
                refine lv_istore hx hb xd_Mo_newRequire_182 hl (Nat.le_of_ble_eq_true rfl) rfl (fun ls hl => ?_)
                have hl : lv_has ls 8 [(7, .int (5 * ((nI 0) - 1))), (6, .int 0), (5, .int ((nI 0) - 1)), (4, .int r397), (1, .int 2), (3, .int 0), (2, .int 1), (0, .ref h)] := hl
                refine lv_iload hx hb xd_Mo_newRequire_184 (lv_at hl 2 rfl) ?_
                refine lv_if_lt (tgt := 236) hx hb xd_Mo_newRequire_186 (by decide) (fun _ => ?_) (fun hc402 => absurd hc402 (by decide))
                refine lv_iload hx hb xd_Mo_newRequire_236 (lv_at hl 1 rfl) ?_
                refine xz_eq (a := 0) (tgt := 243) hx hb xd_Mo_newRequire_238 (by decide) (by omega) (fun _ => ?_) (fun hc403 => absurd hc403 (by omega))
                refine lv_aload_n hx hb xd_Mo_newRequire_243 rfl (lv_at hl 7 rfl) ?_
                have hFc := va_free (wc := (moW h mm kA v g)) hD hS hA [0, 1, 2, 3, 4, 5, 6, 7, 8, 9, 10, 11, 12, 13, 14, 15, 16, 17, 18, 19, 20, 21, 22, 23, 24, 25] rfl
                refine va_calli (va_runV (As := []) (rest := []) ⟨hx, hb, hml, hown, hT⟩ (xc_Mo_isShut l D kA H.size h mm v g nd (by first | assumption | omega) (by first | assumption | omega)) (cwV 0 hT (wT_V xq_8 xq_9 xq_10 xq_5 xq_7) rfl rfl rfl (by decide +kernel) ⟨Nat.le_of_ble_eq_true rfl, Nat.le_of_ble_eq_true rfl⟩) (x_preV hK hP hD 0 rfl rfl) rfl rfl hl.1 rfl (lv_room (Nat.le_of_ble_eq_true rfl)) xd_Mo_newRequire_244 ⟨Nat.le_of_ble_eq_true rfl, Nat.le_of_ble_eq_true rfl⟩) hS (fun q _ h => hFc q h) hFc (fun r404 u405 t H1 locs ht hvm hp406 hB hz1 hk1 hS => ?_)
                obtain ⟨hP1, hD1⟩ := hB
                rw [ht] at hP1
                have hD1 := hD1.weaken (fun _ _ _ h => hFc _ h)
                generalize H1 = H at hP1 hS ⊢
                have hP := hP1
                have hD := hD1
                have hP : va_P D xcl (moW h mm kA v g) H := hP
                have hD : va_D A (moW h mm kA v g) := hD
                rcases hp406 with ⟨rfl, z407⟩ | ⟨rfl, z408, z409⟩
                · refine xz_ne (a := 1) (tgt := 261) hx hb xd_Mo_newRequire_247 (by decide) (by omega) (fun _ => ?_) (fun hc410 => absurd hc410 (by omega))
                  refine lv_bipush (v := (-2)) hx hb xd_Mo_newRequire_261 (by decide) ?_
                  exact W.iret (v := (-2)) hx hb hr (fun t ht hW => ⟨⟨(-2), (v, g), rfl, ⟨hMI, rfl, Or.inr (Or.inl rfl)⟩, by rw [ht]; exact hP, hD⟩, hS.F ht⟩) hS.2.2 xd_Mo_newRequire_263
                · exact absurd hz z408
              · refine lv_aload_n hx hb xd_Mo_newRequire_146 rfl (lv_at hl 4 rfl) ?_
                refine va_get (D := D) (ci := 4) (v := .int (v 4)) (C := xR_Mo) (T := xT_Mo) (N := 31) hx hb hT xi_Mo hown hK.1 hP 0 rfl rfl 7 (by decide) (hT _ xq_6) (fun _ h9 => h9) rfl xd_Mo_newRequire_147 ?_
                refine xn_top (x := (v 4)) (y := nI nd) hnd ?_
                refine lv_iconst (v := 1) hx hb xd_Mo_newRequire_150 (by decide) ?_
                refine lv_isub hx hb xd_Mo_newRequire_151 ?_
                refine xn_top (y := nI (nd - 1)) (pk_sub (a := nd) (b := 1) (by omega)) ?_
                refine lv_istore hx hb xd_Mo_newRequire_152 hl (Nat.le_of_ble_eq_true rfl) rfl (fun ls hl => ?_)
                have hl : lv_has ls 8 [(5, .int (nI (nd - 1))), (4, .int r397), (1, .int 2), (3, .int 0), (2, .int 1), (0, .ref h)] := hl
                refine lv_iload hx hb xd_Mo_newRequire_154 (lv_at hl 0 rfl) ?_
                refine xz_lt (a := nd - 1) (tgt := 175) hx hb xd_Mo_newRequire_156 (by decide) (by omega) ?_
                obtain ⟨rq1, hrq1, erq1⟩ := hrq (nd - 1) (by omega)
                refine lv_aload_n hx hb xd_Mo_newRequire_159 rfl (lv_at hl 5 rfl) ?_
                refine va_get (D := D) (ci := 4) (v := .ref (mm 4)) (C := xR_Mo) (T := xT_Mo) (N := 31) hx hb hT xi_Mo hown hK.1 hP 0 rfl rfl 9 (by decide) (hT _ xq_11) (fun _ h9 => h9) rfl xd_Mo_newRequire_160 ?_
                refine lv_iload hx hb xd_Mo_newRequire_163 (lv_at hl 0 rfl) ?_
                refine xn_iald (i := nd - 1) hx hb hK.1 hP 5 0 rfl rfl (by omega) (by decide) xd_Mo_newRequire_165 ?_
                refine lv_iload hx hb xd_Mo_newRequire_166 (lv_at hl 1 rfl) ?_
                refine lv_icmp_ne (tgt := 175) hx hb xd_Mo_newRequire_168 (by decide) (fun hc412 => ?_) (fun hc412 => ?_)
                · refine lv_iconst (v := 0) hx hb xd_Mo_newRequire_175 (by decide) ?_
                  refine lv_istore hx hb xd_Mo_newRequire_176 hl (Nat.le_of_ble_eq_true rfl) rfl (fun ls hl => ?_)
                  have hl : lv_has ls 8 [(6, .int 0), (5, .int (nI (nd - 1))), (4, .int r397), (1, .int 2), (3, .int 0), (2, .int 1), (0, .ref h)] := hl
                  refine lv_iconst (v := 5) hx hb xd_Mo_newRequire_178 (by decide) ?_
                  refine lv_iload hx hb xd_Mo_newRequire_179 (lv_at hl 1 rfl) ?_
                  refine lv_imul hx hb xd_Mo_newRequire_181 ?_
                  refine xn_top (y := nI (5 * (nd - 1))) (pk_mul 5 (nd - 1)) ?_
                  refine lv_istore hx hb xd_Mo_newRequire_182 hl (Nat.le_of_ble_eq_true rfl) rfl (fun ls hl => ?_)
                  have hl : lv_has ls 8 [(7, .int (nI (5 * (nd - 1)))), (6, .int 0), (5, .int (nI (nd - 1))), (4, .int r397), (1, .int 2), (3, .int 0), (2, .int 1), (0, .ref h)] := hl
                  refine xlab (σ := Nat × Int32) (ml := 8) 184 (fun (i, tw) => [(7, .int (nI i)), (6, .int tw), (0, .ref h), (2, .int 1), (3, .int 0), (4, .int r397), (5, .int (nI (nd - 1)))]) (fun (i, tw) => []) (fun (i, tw) => moW h mm kA v g) (fun (i, tw) => (5 * (nd - 1) ≤ i) ∧ (i ≤ 5 * (nd - 1) + rq1)) (fun (i, tw) => 5 * (nd - 1) + rq1 - i) ?_ (5 * (nd - 1), 0) _ _ _ (lv_sub hl [0, 1, 7, 6, 5, 3, 2] rfl) hP hD hS ⟨(show 5 * (nd - 1) ≤ (5 * (nd - 1)) from by first | assumption | omega), (show (5 * (nd - 1)) ≤ 5 * (nd - 1) + rq1 from by first | assumption | omega)⟩
                  intro n9 ih413 a9 ls H locs hμ hl hP hD hS hI
                  subst hμ
                  obtain ⟨i, tw⟩ := a9
                  obtain ⟨hi1, hi2⟩ := hI
                  have hi1 : 5 * (nd - 1) ≤ i := hi1
                  have hi2 : i ≤ 5 * (nd - 1) + rq1 := hi2
                  have hl : lv_has ls 8 [(7, .int (nI i)), (6, .int tw), (0, .ref h), (2, .int 1), (3, .int 0), (4, .int r397), (5, .int (nI (nd - 1)))] := hl
                  have hP : va_P D xcl (moW h mm kA v g) H := hP
                  have hD : va_D A (moW h mm kA v g) := hD
                  refine lv_iload hx hb xd_Mo_newRequire_184 (lv_at hl 6 rfl) ?_
                  refine xz_lt (a := nd - 1) (tgt := 236) hx hb xd_Mo_newRequire_186 (by decide) (by omega) ?_
                  refine lv_iload hx hb xd_Mo_newRequire_189 (lv_at hl 0 rfl) ?_
                  refine lv_iconst (v := 5) hx hb xd_Mo_newRequire_191 (by decide) ?_
                  refine lv_iload hx hb xd_Mo_newRequire_192 (lv_at hl 6 rfl) ?_
                  refine lv_imul hx hb xd_Mo_newRequire_194 ?_
                  refine xn_top (y := nI (5 * (nd - 1))) (pk_mul 5 (nd - 1)) ?_
                  refine lv_aload_n hx hb xd_Mo_newRequire_195 rfl (lv_at hl 2 rfl) ?_
                  refine va_get (D := D) (ci := 4) (v := .ref (mm 12)) (C := xR_Mo) (T := xT_Mo) (N := 31) hx hb hT xi_Mo hown hK.1 hP 0 rfl rfl 17 (by decide) (hT _ xq_12) (fun _ h9 => h9) rfl xd_Mo_newRequire_196 ?_
                  refine lv_iload hx hb xd_Mo_newRequire_199 (lv_at hl 6 rfl) ?_
                  refine xn_iald (i := nd - 1) hx hb hK.1 hP 13 0 rfl rfl (by omega) (by decide) xd_Mo_newRequire_201 ?_
                  refine xn_top (x := (g 12 (nd - 1))) (y := nI rq1) erq1 ?_
                  refine lv_iadd hx hb xd_Mo_newRequire_202 ?_
                  refine xn_top (y := nI ((5 * (nd - 1)) + rq1)) (nI_add (5 * (nd - 1)) rq1) ?_
                  refine xn_ge (a := i) (b := (5 * (nd - 1)) + rq1) (tgt := 236) hx hb xd_Mo_newRequire_203 (by decide) (by omega) (by omega) (fun hc415 => ?_) (fun hc415 => ?_)
                  · refine lv_iload hx hb xd_Mo_newRequire_236 (lv_at hl 1 rfl) ?_
                    refine lv_if_eq (tgt := 243) hx hb xd_Mo_newRequire_238 (by decide) (fun hc416 => ?_) (fun hc416 => ?_)
                    · refine lv_aload_n hx hb xd_Mo_newRequire_243 rfl (lv_at hl 2 rfl) ?_
                      have hFc := va_free (wc := (moW h mm kA v g)) hD hS hA [0, 1, 2, 3, 4, 5, 6, 7, 8, 9, 10, 11, 12, 13, 14, 15, 16, 17, 18, 19, 20, 21, 22, 23, 24, 25] rfl
                      refine va_calli (va_runV (As := []) (rest := []) ⟨hx, hb, hml, hown, hT⟩ (xc_Mo_isShut l D kA H.size h mm v g nd (by first | assumption | omega) (by first | assumption | omega)) (cwV 0 hT (wT_V xq_8 xq_9 xq_10 xq_5 xq_7) rfl rfl rfl (by decide +kernel) ⟨Nat.le_of_ble_eq_true rfl, Nat.le_of_ble_eq_true rfl⟩) (x_preV hK hP hD 0 rfl rfl) rfl rfl hl.1 rfl (lv_room (Nat.le_of_ble_eq_true rfl)) xd_Mo_newRequire_244 ⟨Nat.le_of_ble_eq_true rfl, Nat.le_of_ble_eq_true rfl⟩) hS (fun q _ h => hFc q h) hFc (fun r417 u418 t H1 locs ht hvm hp419 hB hz1 hk1 hS => ?_)
                      obtain ⟨hP1, hD1⟩ := hB
                      rw [ht] at hP1
                      have hD1 := hD1.weaken (fun _ _ _ h => hFc _ h)
                      generalize H1 = H at hP1 hS ⊢
                      have hP := hP1
                      have hD := hD1
                      have hP : va_P D xcl (moW h mm kA v g) H := hP
                      have hD : va_D A (moW h mm kA v g) := hD
                      rcases hp419 with ⟨rfl, z420⟩ | ⟨rfl, z421, z422⟩
                      · refine xz_ne (a := 1) (tgt := 261) hx hb xd_Mo_newRequire_247 (by decide) (by omega) (fun _ => ?_) (fun hc423 => absurd hc423 (by omega))
                        refine lv_bipush (v := (-2)) hx hb xd_Mo_newRequire_261 (by decide) ?_
                        exact W.iret (v := (-2)) hx hb hr (fun t ht hW => ⟨⟨(-2), (v, g), rfl, ⟨hMI, rfl, Or.inr (Or.inl rfl)⟩, by rw [ht]; exact hP, hD⟩, hS.F ht⟩) hS.2.2 xd_Mo_newRequire_263
                      · refine xz_ne (a := 0) (tgt := 261) hx hb xd_Mo_newRequire_247 (by decide) (by omega) (fun hc424 => absurd hc424 (by omega)) (fun _ => ?_)
                        refine lv_aload_n hx hb xd_Mo_newRequire_250 rfl (lv_at hl 2 rfl) ?_
                        refine va_get (D := D) (ci := 4) (v := .ref (mm 12)) (C := xR_Mo) (T := xT_Mo) (N := 31) hx hb hT xi_Mo hown hK.1 hP 0 rfl rfl 17 (by decide) (hT _ xq_12) (fun _ h9 => h9) rfl xd_Mo_newRequire_251 ?_
                        refine lv_iload hx hb xd_Mo_newRequire_254 (lv_at hl 6 rfl) ?_
                        refine xn_iald (i := nd - 1) hx hb hK.1 hP 13 0 rfl rfl (by omega) (by decide) xd_Mo_newRequire_256 ?_
                        refine xn_top (x := (g 12 (nd - 1))) (y := nI rq1) erq1 ?_
                        refine lv_iconst (v := 5) hx hb xd_Mo_newRequire_257 (by decide) ?_
                        refine xn_ne (a := rq1) (b := 5) (tgt := 264) hx hb xd_Mo_newRequire_258 (by decide) (by omega) (by omega) (fun hc425 => ?_) (fun hc425 => ?_)
                        · refine lv_aload_n hx hb xd_Mo_newRequire_264 rfl (lv_at hl 2 rfl) ?_
                          refine va_get (D := D) (ci := 4) (v := .ref (mm 13)) (C := xR_Mo) (T := xT_Mo) (N := 31) hx hb hT xi_Mo hown hK.1 hP 0 rfl rfl 18 (by decide) (hT _ xq_13) (fun _ h9 => h9) rfl xd_Mo_newRequire_265 ?_
                          refine lv_iconst (v := 5) hx hb xd_Mo_newRequire_268 (by decide) ?_
                          refine lv_iload hx hb xd_Mo_newRequire_269 (lv_at hl 6 rfl) ?_
                          refine lv_imul hx hb xd_Mo_newRequire_271 ?_
                          refine xn_top (y := nI (5 * (nd - 1))) (pk_mul 5 (nd - 1)) ?_
                          refine lv_aload_n hx hb xd_Mo_newRequire_272 rfl (lv_at hl 2 rfl) ?_
                          refine va_get (D := D) (ci := 4) (v := .ref (mm 12)) (C := xR_Mo) (T := xT_Mo) (N := 31) hx hb hT xi_Mo hown hK.1 hP 0 rfl rfl 17 (by decide) (hT _ xq_12) (fun _ h9 => h9) rfl xd_Mo_newRequire_273 ?_
                          refine lv_iload hx hb xd_Mo_newRequire_276 (lv_at hl 6 rfl) ?_
                          refine xn_iald (i := nd - 1) hx hb hK.1 hP 13 0 rfl rfl (by omega) (by decide) xd_Mo_newRequire_278 ?_
                          refine xn_top (x := (g 12 (nd - 1))) (y := nI rq1) erq1 ?_
                          refine lv_iadd hx hb xd_Mo_newRequire_279 ?_
                          refine xn_top (y := nI ((5 * (nd - 1)) + rq1)) (nI_add (5 * (nd - 1)) rq1) ?_
                          refine lv_iload hx hb xd_Mo_newRequire_280 (lv_at hl 5 rfl) ?_
                          refine xn_iast (i := (5 * (nd - 1)) + rq1) hx hb hK.1 hP hD hS 14 0 rfl rfl (by omega) (by decide) xd_Mo_newRequire_282 (fun H locs hP hD hS => ?_)
                          have hP : va_P D xcl (moW h mm kA v (va_up g 13 (upd (g 13) ((5 * (nd - 1)) + rq1) r397))) H := hP
                          have hD : va_D A (moW h mm kA v (va_up g 13 (upd (g 13) ((5 * (nd - 1)) + rq1) r397))) := hD
                          refine lv_aload_n hx hb xd_Mo_newRequire_283 rfl (lv_at hl 2 rfl) ?_
                          refine va_get (D := D) (ci := 4) (v := .ref (mm 16)) (C := xR_Mo) (T := xT_Mo) (N := 31) hx hb hT xi_Mo hown hK.1 hP 0 rfl rfl 21 (by decide) (hT _ xq_14) (fun _ h9 => h9) rfl xd_Mo_newRequire_284 ?_
                          refine lv_iconst (v := 5) hx hb xd_Mo_newRequire_287 (by decide) ?_
                          refine lv_iload hx hb xd_Mo_newRequire_288 (lv_at hl 6 rfl) ?_
                          refine lv_imul hx hb xd_Mo_newRequire_290 ?_
                          refine xn_top (y := nI (5 * (nd - 1))) (pk_mul 5 (nd - 1)) ?_
                          refine lv_aload_n hx hb xd_Mo_newRequire_291 rfl (lv_at hl 2 rfl) ?_
                          refine va_get (D := D) (ci := 4) (v := .ref (mm 12)) (C := xR_Mo) (T := xT_Mo) (N := 31) hx hb hT xi_Mo hown hK.1 hP 0 rfl rfl 17 (by decide) (hT _ xq_12) (fun _ h9 => h9) rfl xd_Mo_newRequire_292 ?_
                          refine lv_iload hx hb xd_Mo_newRequire_295 (lv_at hl 6 rfl) ?_
                          refine xn_iald (i := nd - 1) hx hb hK.1 hP 13 0 rfl rfl (by omega) (by decide) xd_Mo_newRequire_297 ?_
                          refine xn_top (x := (g 12 (nd - 1))) (y := nI rq1) erq1 ?_
                          refine lv_iadd hx hb xd_Mo_newRequire_298 ?_
                          refine xn_top (y := nI ((5 * (nd - 1)) + rq1)) (nI_add (5 * (nd - 1)) rq1) ?_
                          refine lv_iload_n hx hb xd_Mo_newRequire_299 rfl (lv_at hl 3 rfl) ?_
                          refine xn_zast (i := (5 * (nd - 1)) + rq1) hx hb hK.1 hP hD hS 17 2 rfl rfl (by omega) (by decide) xd_Mo_newRequire_300 (fun H locs hP hD hS => ?_)
                          have hP : va_P D xcl (moW h mm kA v (va_up (va_up g 13 (upd (g 13) ((5 * (nd - 1)) + rq1) r397)) 16 (upd (g 16) ((5 * (nd - 1)) + rq1) (vp_nar .boolean 1)))) H := hP
                          have hD : va_D A (moW h mm kA v (va_up (va_up g 13 (upd (g 13) ((5 * (nd - 1)) + rq1) r397)) 16 (upd (g 16) ((5 * (nd - 1)) + rq1) (vp_nar .boolean 1)))) := hD
                          refine lv_aload_n hx hb xd_Mo_newRequire_301 rfl (lv_at hl 2 rfl) ?_
                          refine va_get (D := D) (ci := 4) (v := .ref (mm 17)) (C := xR_Mo) (T := xT_Mo) (N := 31) hx hb hT xi_Mo hown hK.1 hP 0 rfl rfl 22 (by decide) (hT _ xq_15) (fun _ h9 => h9) rfl xd_Mo_newRequire_302 ?_
                          refine lv_iconst (v := 5) hx hb xd_Mo_newRequire_305 (by decide) ?_
                          refine lv_iload hx hb xd_Mo_newRequire_306 (lv_at hl 6 rfl) ?_
                          refine lv_imul hx hb xd_Mo_newRequire_308 ?_
                          refine xn_top (y := nI (5 * (nd - 1))) (pk_mul 5 (nd - 1)) ?_
                          refine lv_aload_n hx hb xd_Mo_newRequire_309 rfl (lv_at hl 2 rfl) ?_
                          refine va_get (D := D) (ci := 4) (v := .ref (mm 12)) (C := xR_Mo) (T := xT_Mo) (N := 31) hx hb hT xi_Mo hown hK.1 hP 0 rfl rfl 17 (by decide) (hT _ xq_12) (fun _ h9 => h9) rfl xd_Mo_newRequire_310 ?_
                          refine lv_iload hx hb xd_Mo_newRequire_313 (lv_at hl 6 rfl) ?_
                          refine xn_iald (i := nd - 1) hx hb hK.1 hP 13 0 rfl rfl (by omega) (by decide) xd_Mo_newRequire_315 ?_
                          refine xn_top (x := (g 12 (nd - 1))) (y := nI rq1) erq1 ?_
                          refine lv_iadd hx hb xd_Mo_newRequire_316 ?_
                          refine xn_top (y := nI ((5 * (nd - 1)) + rq1)) (nI_add (5 * (nd - 1)) rq1) ?_
                          refine lv_iload_n hx hb xd_Mo_newRequire_317 rfl (lv_at hl 4 rfl) ?_
                          refine xn_zast (i := (5 * (nd - 1)) + rq1) hx hb hK.1 hP hD hS 18 2 rfl rfl (by omega) (by decide) xd_Mo_newRequire_318 (fun H locs hP hD hS => ?_)
                          have hP : va_P D xcl (moW h mm kA v (va_up (va_up (va_up g 13 (upd (g 13) ((5 * (nd - 1)) + rq1) r397)) 16 (upd (g 16) ((5 * (nd - 1)) + rq1) (vp_nar .boolean 1))) 17 (upd (g 17) ((5 * (nd - 1)) + rq1) (vp_nar .boolean 0)))) H := hP
                          have hD : va_D A (moW h mm kA v (va_up (va_up (va_up g 13 (upd (g 13) ((5 * (nd - 1)) + rq1) r397)) 16 (upd (g 16) ((5 * (nd - 1)) + rq1) (vp_nar .boolean 1))) 17 (upd (g 17) ((5 * (nd - 1)) + rq1) (vp_nar .boolean 0)))) := hD
                          refine lv_aload_n hx hb xd_Mo_newRequire_319 rfl (lv_at hl 2 rfl) ?_
                          refine va_get (D := D) (ci := 4) (v := .ref (mm 12)) (C := xR_Mo) (T := xT_Mo) (N := 31) hx hb hT xi_Mo hown hK.1 hP 0 rfl rfl 17 (by decide) (hT _ xq_12) (fun _ h9 => h9) rfl xd_Mo_newRequire_320 ?_
                          refine lv_iload hx hb xd_Mo_newRequire_323 (lv_at hl 6 rfl) ?_
                          refine lv_dup2_11 hx hb xd_Mo_newRequire_325 rfl rfl ?_
                          refine xn_iald (i := nd - 1) hx hb hK.1 hP 13 0 rfl rfl (by omega) (by decide) xd_Mo_newRequire_326 ?_
                          refine xn_top (x := (g 12 (nd - 1))) (y := nI rq1) erq1 ?_
                          refine lv_iconst (v := 1) hx hb xd_Mo_newRequire_327 (by decide) ?_
                          refine lv_iadd hx hb xd_Mo_newRequire_328 ?_
                          refine xn_top (y := nI (rq1 + 1)) (nI_add rq1 1) ?_
                          refine xn_iast (i := nd - 1) hx hb hK.1 hP hD hS 13 0 rfl rfl (by omega) (by decide) xd_Mo_newRequire_329 (fun H locs hP hD hS => ?_)
                          have hP : va_P D xcl (moW h mm kA v (va_up (va_up (va_up (va_up g 12 (upd (g 12) (nd - 1) (nI (rq1 + 1)))) 13 (upd (g 13) ((5 * (nd - 1)) + rq1) r397)) 16 (upd (g 16) ((5 * (nd - 1)) + rq1) (vp_nar .boolean 1))) 17 (upd (g 17) ((5 * (nd - 1)) + rq1) (vp_nar .boolean 0)))) H := hP
                          have hD : va_D A (moW h mm kA v (va_up (va_up (va_up (va_up g 12 (upd (g 12) (nd - 1) (nI (rq1 + 1)))) 13 (upd (g 13) ((5 * (nd - 1)) + rq1) r397)) 16 (upd (g 16) ((5 * (nd - 1)) + rq1) (vp_nar .boolean 1))) 17 (upd (g 17) ((5 * (nd - 1)) + rq1) (vp_nar .boolean 0)))) := hD
                          refine lv_iconst (v := 2) hx hb xd_Mo_newRequire_330 (by decide) ?_
                          exact W.iret (v := 2) hx hb hr (fun t ht hW => ⟨⟨2, (v, (va_up (va_up (va_up (va_up g 12 (upd (g 12) (nd - 1) (nI (rq1 + 1)))) 13 (upd (g 13) ((5 * (nd - 1)) + rq1) r397)) 16 (upd (g 16) ((5 * (nd - 1)) + rq1) (vp_nar .boolean 1))) 17 (upd (g 17) ((5 * (nd - 1)) + rq1) (vp_nar .boolean 0)))), rfl, ⟨MI_g (g := va_up g 12 (upd (g 12) (nd - 1) (nI (rq1 + 1)))) rfl rfl rfl rfl rfl rfl rfl rfl (MI_rq (by omega) hMI), rfl, Or.inr (Or.inr (Or.inr rfl))⟩, by rw [ht]; exact hP, hD⟩, hS.F ht⟩) hS.2.2 xd_Mo_newRequire_331
                        · refine lv_bipush (v := (-2)) hx hb xd_Mo_newRequire_261 (by decide) ?_
                          exact W.iret (v := (-2)) hx hb hr (fun t ht hW => ⟨⟨(-2), (v, g), rfl, ⟨hMI, rfl, Or.inr (Or.inl rfl)⟩, by rw [ht]; exact hP, hD⟩, hS.F ht⟩) hS.2.2 xd_Mo_newRequire_263
                    · refine lv_iconst (v := (-1)) hx hb xd_Mo_newRequire_241 (by decide) ?_
                      exact W.iret (v := (-1)) hx hb hr (fun t ht hW => ⟨⟨(-1), (v, g), rfl, ⟨hMI, rfl, Or.inl rfl⟩, by rw [ht]; exact hP, hD⟩, hS.F ht⟩) hS.2.2 xd_Mo_newRequire_242
                  · refine lv_iload hx hb xd_Mo_newRequire_206 (lv_at hl 1 rfl) ?_
                    refine lv_if_ne (tgt := 223) hx hb xd_Mo_newRequire_208 (by decide) (fun hc426 => ?_) (fun hc426 => ?_)
                    · refine lv_iconst (v := 1) hx hb xd_Mo_newRequire_223 (by decide) ?_
                      refine lv_goto (tgt := 228) hx hb xd_Mo_newRequire_224 (by decide) ?_
                      refine lv_istore hx hb xd_Mo_newRequire_228 hl (Nat.le_of_ble_eq_true rfl) rfl (fun ls hl => ?_)
                      have hl : lv_has ls 8 [(6, .int 1), (7, .int (nI i)), (0, .ref h), (2, .int 1), (3, .int 0), (4, .int r397), (5, .int (nI (nd - 1)))] := hl
                      refine lv_iinc (k := 1) (x := (nI i)) (v := (nI (i + 1))) hx hb xd_Mo_newRequire_230 hl rfl (xb_inc i 1) (Nat.le_of_ble_eq_true rfl) rfl (fun ls hl => ?_)
                      have hl : lv_has ls 8 [(7, .int (nI (i + 1))), (6, .int 1), (0, .ref h), (2, .int 1), (3, .int 0), (4, .int r397), (5, .int (nI (nd - 1)))] := hl
                      refine lv_goto (tgt := 184) hx hb xd_Mo_newRequire_233 (by decide) ?_
                      exact ih413 (i + 1, 1) _ _ _ (show 5 * (nd - 1) + rq1 - (i + 1) < 5 * (nd - 1) + rq1 - i by omega) (lv_sub hl [0, 1, 2, 3, 4, 5, 6] rfl) hP hD hS ⟨(show 5 * (nd - 1) ≤ (i + 1) from by first | assumption | omega), (show (i + 1) ≤ 5 * (nd - 1) + rq1 from by first | assumption | omega)⟩
                    · refine lv_aload_n hx hb xd_Mo_newRequire_211 rfl (lv_at hl 2 rfl) ?_
                      refine va_get (D := D) (ci := 4) (v := .ref (mm 13)) (C := xR_Mo) (T := xT_Mo) (N := 31) hx hb hT xi_Mo hown hK.1 hP 0 rfl rfl 18 (by decide) (hT _ xq_13) (fun _ h9 => h9) rfl xd_Mo_newRequire_212 ?_
                      refine lv_iload hx hb xd_Mo_newRequire_215 (lv_at hl 0 rfl) ?_
                      refine xn_iald (i := i) hx hb hK.1 hP 14 0 rfl rfl (by omega) (by decide) xd_Mo_newRequire_217 ?_
                      refine lv_iload hx hb xd_Mo_newRequire_218 (lv_at hl 5 rfl) ?_
                      refine lv_icmp_ne (tgt := 227) hx hb xd_Mo_newRequire_220 (by decide) (fun hc427 => ?_) (fun hc427 => ?_)
                      · refine lv_iconst (v := 0) hx hb xd_Mo_newRequire_227 (by decide) ?_
                        refine lv_istore hx hb xd_Mo_newRequire_228 hl (Nat.le_of_ble_eq_true rfl) rfl (fun ls hl => ?_)
                        have hl : lv_has ls 8 [(6, .int 0), (7, .int (nI i)), (0, .ref h), (2, .int 1), (3, .int 0), (4, .int r397), (5, .int (nI (nd - 1)))] := hl
                        refine lv_iinc (k := 1) (x := (nI i)) (v := (nI (i + 1))) hx hb xd_Mo_newRequire_230 hl rfl (xb_inc i 1) (Nat.le_of_ble_eq_true rfl) rfl (fun ls hl => ?_)
                        have hl : lv_has ls 8 [(7, .int (nI (i + 1))), (6, .int 0), (0, .ref h), (2, .int 1), (3, .int 0), (4, .int r397), (5, .int (nI (nd - 1)))] := hl
                        refine lv_goto (tgt := 184) hx hb xd_Mo_newRequire_233 (by decide) ?_
                        exact ih413 (i + 1, 0) _ _ _ (show 5 * (nd - 1) + rq1 - (i + 1) < 5 * (nd - 1) + rq1 - i by omega) (lv_sub hl [0, 1, 2, 3, 4, 5, 6] rfl) hP hD hS ⟨(show 5 * (nd - 1) ≤ (i + 1) from by first | assumption | omega), (show (i + 1) ≤ 5 * (nd - 1) + rq1 from by first | assumption | omega)⟩
                      · refine lv_iconst (v := 1) hx hb xd_Mo_newRequire_223 (by decide) ?_
                        refine lv_goto (tgt := 228) hx hb xd_Mo_newRequire_224 (by decide) ?_
                        refine lv_istore hx hb xd_Mo_newRequire_228 hl (Nat.le_of_ble_eq_true rfl) rfl (fun ls hl => ?_)
                        have hl : lv_has ls 8 [(6, .int 1), (7, .int (nI i)), (0, .ref h), (2, .int 1), (3, .int 0), (4, .int r397), (5, .int (nI (nd - 1)))] := hl
                        refine lv_iinc (k := 1) (x := (nI i)) (v := (nI (i + 1))) hx hb xd_Mo_newRequire_230 hl rfl (xb_inc i 1) (Nat.le_of_ble_eq_true rfl) rfl (fun ls hl => ?_)
                        have hl : lv_has ls 8 [(7, .int (nI (i + 1))), (6, .int 1), (0, .ref h), (2, .int 1), (3, .int 0), (4, .int r397), (5, .int (nI (nd - 1)))] := hl
                        refine lv_goto (tgt := 184) hx hb xd_Mo_newRequire_233 (by decide) ?_
                        exact ih413 (i + 1, 1) _ _ _ (show 5 * (nd - 1) + rq1 - (i + 1) < 5 * (nd - 1) + rq1 - i by omega) (lv_sub hl [0, 1, 2, 3, 4, 5, 6] rfl) hP hD hS ⟨(show 5 * (nd - 1) ≤ (i + 1) from by first | assumption | omega), (show (i + 1) ≤ 5 * (nd - 1) + rq1 from by first | assumption | omega)⟩
                · refine lv_iconst (v := 1) hx hb xd_Mo_newRequire_171 (by decide) ?_
                  refine lv_goto (tgt := 176) hx hb xd_Mo_newRequire_172 (by decide) ?_
                  refine lv_istore hx hb xd_Mo_newRequire_176 hl (Nat.le_of_ble_eq_true rfl) rfl (fun ls hl => ?_)
                  have hl : lv_has ls 8 [(6, .int 1), (5, .int (nI (nd - 1))), (4, .int r397), (1, .int 2), (3, .int 0), (2, .int 1), (0, .ref h)] := hl
                  refine lv_iconst (v := 5) hx hb xd_Mo_newRequire_178 (by decide) ?_
                  refine lv_iload hx hb xd_Mo_newRequire_179 (lv_at hl 1 rfl) ?_
                  refine lv_imul hx hb xd_Mo_newRequire_181 ?_
                  refine xn_top (y := nI (5 * (nd - 1))) (pk_mul 5 (nd - 1)) ?_
                  refine lv_istore hx hb xd_Mo_newRequire_182 hl (Nat.le_of_ble_eq_true rfl) rfl (fun ls hl => ?_)
                  have hl : lv_has ls 8 [(7, .int (nI (5 * (nd - 1)))), (6, .int 1), (5, .int (nI (nd - 1))), (4, .int r397), (1, .int 2), (3, .int 0), (2, .int 1), (0, .ref h)] := hl
                  refine xlab (σ := Nat × Int32) (ml := 8) 184 (fun (i, tw) => [(7, .int (nI i)), (6, .int tw), (0, .ref h), (2, .int 1), (3, .int 0), (4, .int r397), (5, .int (nI (nd - 1)))]) (fun (i, tw) => []) (fun (i, tw) => moW h mm kA v g) (fun (i, tw) => (5 * (nd - 1) ≤ i) ∧ (i ≤ 5 * (nd - 1) + rq1)) (fun (i, tw) => 5 * (nd - 1) + rq1 - i) ?_ (5 * (nd - 1), 1) _ _ _ (lv_sub hl [0, 1, 7, 6, 5, 3, 2] rfl) hP hD hS ⟨(show 5 * (nd - 1) ≤ (5 * (nd - 1)) from by first | assumption | omega), (show (5 * (nd - 1)) ≤ 5 * (nd - 1) + rq1 from by first | assumption | omega)⟩
                  intro n9 ih428 a9 ls H locs hμ hl hP hD hS hI
                  subst hμ
                  obtain ⟨i, tw⟩ := a9
                  obtain ⟨hi1, hi2⟩ := hI
                  have hi1 : 5 * (nd - 1) ≤ i := hi1
                  have hi2 : i ≤ 5 * (nd - 1) + rq1 := hi2
                  have hl : lv_has ls 8 [(7, .int (nI i)), (6, .int tw), (0, .ref h), (2, .int 1), (3, .int 0), (4, .int r397), (5, .int (nI (nd - 1)))] := hl
                  have hP : va_P D xcl (moW h mm kA v g) H := hP
                  have hD : va_D A (moW h mm kA v g) := hD
                  refine lv_iload hx hb xd_Mo_newRequire_184 (lv_at hl 6 rfl) ?_
                  refine xz_lt (a := nd - 1) (tgt := 236) hx hb xd_Mo_newRequire_186 (by decide) (by omega) ?_
                  refine lv_iload hx hb xd_Mo_newRequire_189 (lv_at hl 0 rfl) ?_
                  refine lv_iconst (v := 5) hx hb xd_Mo_newRequire_191 (by decide) ?_
                  refine lv_iload hx hb xd_Mo_newRequire_192 (lv_at hl 6 rfl) ?_
                  refine lv_imul hx hb xd_Mo_newRequire_194 ?_
                  refine xn_top (y := nI (5 * (nd - 1))) (pk_mul 5 (nd - 1)) ?_
                  refine lv_aload_n hx hb xd_Mo_newRequire_195 rfl (lv_at hl 2 rfl) ?_
                  refine va_get (D := D) (ci := 4) (v := .ref (mm 12)) (C := xR_Mo) (T := xT_Mo) (N := 31) hx hb hT xi_Mo hown hK.1 hP 0 rfl rfl 17 (by decide) (hT _ xq_12) (fun _ h9 => h9) rfl xd_Mo_newRequire_196 ?_
                  refine lv_iload hx hb xd_Mo_newRequire_199 (lv_at hl 6 rfl) ?_
                  refine xn_iald (i := nd - 1) hx hb hK.1 hP 13 0 rfl rfl (by omega) (by decide) xd_Mo_newRequire_201 ?_
                  refine xn_top (x := (g 12 (nd - 1))) (y := nI rq1) erq1 ?_
                  refine lv_iadd hx hb xd_Mo_newRequire_202 ?_
                  refine xn_top (y := nI ((5 * (nd - 1)) + rq1)) (nI_add (5 * (nd - 1)) rq1) ?_
                  refine xn_ge (a := i) (b := (5 * (nd - 1)) + rq1) (tgt := 236) hx hb xd_Mo_newRequire_203 (by decide) (by omega) (by omega) (fun hc430 => ?_) (fun hc430 => ?_)
                  · refine lv_iload hx hb xd_Mo_newRequire_236 (lv_at hl 1 rfl) ?_
                    refine lv_if_eq (tgt := 243) hx hb xd_Mo_newRequire_238 (by decide) (fun hc431 => ?_) (fun hc431 => ?_)
                    · refine lv_aload_n hx hb xd_Mo_newRequire_243 rfl (lv_at hl 2 rfl) ?_
                      have hFc := va_free (wc := (moW h mm kA v g)) hD hS hA [0, 1, 2, 3, 4, 5, 6, 7, 8, 9, 10, 11, 12, 13, 14, 15, 16, 17, 18, 19, 20, 21, 22, 23, 24, 25] rfl
                      refine va_calli (va_runV (As := []) (rest := []) ⟨hx, hb, hml, hown, hT⟩ (xc_Mo_isShut l D kA H.size h mm v g nd (by first | assumption | omega) (by first | assumption | omega)) (cwV 0 hT (wT_V xq_8 xq_9 xq_10 xq_5 xq_7) rfl rfl rfl (by decide +kernel) ⟨Nat.le_of_ble_eq_true rfl, Nat.le_of_ble_eq_true rfl⟩) (x_preV hK hP hD 0 rfl rfl) rfl rfl hl.1 rfl (lv_room (Nat.le_of_ble_eq_true rfl)) xd_Mo_newRequire_244 ⟨Nat.le_of_ble_eq_true rfl, Nat.le_of_ble_eq_true rfl⟩) hS (fun q _ h => hFc q h) hFc (fun r432 u433 t H1 locs ht hvm hp434 hB hz1 hk1 hS => ?_)
                      obtain ⟨hP1, hD1⟩ := hB
                      rw [ht] at hP1
                      have hD1 := hD1.weaken (fun _ _ _ h => hFc _ h)
                      generalize H1 = H at hP1 hS ⊢
                      have hP := hP1
                      have hD := hD1
                      have hP : va_P D xcl (moW h mm kA v g) H := hP
                      have hD : va_D A (moW h mm kA v g) := hD
                      rcases hp434 with ⟨rfl, z435⟩ | ⟨rfl, z436, z437⟩
                      · refine xz_ne (a := 1) (tgt := 261) hx hb xd_Mo_newRequire_247 (by decide) (by omega) (fun _ => ?_) (fun hc438 => absurd hc438 (by omega))
                        refine lv_bipush (v := (-2)) hx hb xd_Mo_newRequire_261 (by decide) ?_
                        exact W.iret (v := (-2)) hx hb hr (fun t ht hW => ⟨⟨(-2), (v, g), rfl, ⟨hMI, rfl, Or.inr (Or.inl rfl)⟩, by rw [ht]; exact hP, hD⟩, hS.F ht⟩) hS.2.2 xd_Mo_newRequire_263
                      · refine xz_ne (a := 0) (tgt := 261) hx hb xd_Mo_newRequire_247 (by decide) (by omega) (fun hc439 => absurd hc439 (by omega)) (fun _ => ?_)
                        refine lv_aload_n hx hb xd_Mo_newRequire_250 rfl (lv_at hl 2 rfl) ?_
                        refine va_get (D := D) (ci := 4) (v := .ref (mm 12)) (C := xR_Mo) (T := xT_Mo) (N := 31) hx hb hT xi_Mo hown hK.1 hP 0 rfl rfl 17 (by decide) (hT _ xq_12) (fun _ h9 => h9) rfl xd_Mo_newRequire_251 ?_
                        refine lv_iload hx hb xd_Mo_newRequire_254 (lv_at hl 6 rfl) ?_
                        refine xn_iald (i := nd - 1) hx hb hK.1 hP 13 0 rfl rfl (by omega) (by decide) xd_Mo_newRequire_256 ?_
                        refine xn_top (x := (g 12 (nd - 1))) (y := nI rq1) erq1 ?_
                        refine lv_iconst (v := 5) hx hb xd_Mo_newRequire_257 (by decide) ?_
                        refine xn_ne (a := rq1) (b := 5) (tgt := 264) hx hb xd_Mo_newRequire_258 (by decide) (by omega) (by omega) (fun hc440 => ?_) (fun hc440 => ?_)
                        · refine lv_aload_n hx hb xd_Mo_newRequire_264 rfl (lv_at hl 2 rfl) ?_
                          refine va_get (D := D) (ci := 4) (v := .ref (mm 13)) (C := xR_Mo) (T := xT_Mo) (N := 31) hx hb hT xi_Mo hown hK.1 hP 0 rfl rfl 18 (by decide) (hT _ xq_13) (fun _ h9 => h9) rfl xd_Mo_newRequire_265 ?_
                          refine lv_iconst (v := 5) hx hb xd_Mo_newRequire_268 (by decide) ?_
                          refine lv_iload hx hb xd_Mo_newRequire_269 (lv_at hl 6 rfl) ?_
                          refine lv_imul hx hb xd_Mo_newRequire_271 ?_
                          refine xn_top (y := nI (5 * (nd - 1))) (pk_mul 5 (nd - 1)) ?_
                          refine lv_aload_n hx hb xd_Mo_newRequire_272 rfl (lv_at hl 2 rfl) ?_
                          refine va_get (D := D) (ci := 4) (v := .ref (mm 12)) (C := xR_Mo) (T := xT_Mo) (N := 31) hx hb hT xi_Mo hown hK.1 hP 0 rfl rfl 17 (by decide) (hT _ xq_12) (fun _ h9 => h9) rfl xd_Mo_newRequire_273 ?_
                          refine lv_iload hx hb xd_Mo_newRequire_276 (lv_at hl 6 rfl) ?_
                          refine xn_iald (i := nd - 1) hx hb hK.1 hP 13 0 rfl rfl (by omega) (by decide) xd_Mo_newRequire_278 ?_
                          refine xn_top (x := (g 12 (nd - 1))) (y := nI rq1) erq1 ?_
                          refine lv_iadd hx hb xd_Mo_newRequire_279 ?_
                          refine xn_top (y := nI ((5 * (nd - 1)) + rq1)) (nI_add (5 * (nd - 1)) rq1) ?_
                          refine lv_iload hx hb xd_Mo_newRequire_280 (lv_at hl 5 rfl) ?_
                          refine xn_iast (i := (5 * (nd - 1)) + rq1) hx hb hK.1 hP hD hS 14 0 rfl rfl (by omega) (by decide) xd_Mo_newRequire_282 (fun H locs hP hD hS => ?_)
                          have hP : va_P D xcl (moW h mm kA v (va_up g 13 (upd (g 13) ((5 * (nd - 1)) + rq1) r397))) H := hP
                          have hD : va_D A (moW h mm kA v (va_up g 13 (upd (g 13) ((5 * (nd - 1)) + rq1) r397))) := hD
                          refine lv_aload_n hx hb xd_Mo_newRequire_283 rfl (lv_at hl 2 rfl) ?_
                          refine va_get (D := D) (ci := 4) (v := .ref (mm 16)) (C := xR_Mo) (T := xT_Mo) (N := 31) hx hb hT xi_Mo hown hK.1 hP 0 rfl rfl 21 (by decide) (hT _ xq_14) (fun _ h9 => h9) rfl xd_Mo_newRequire_284 ?_
                          refine lv_iconst (v := 5) hx hb xd_Mo_newRequire_287 (by decide) ?_
                          refine lv_iload hx hb xd_Mo_newRequire_288 (lv_at hl 6 rfl) ?_
                          refine lv_imul hx hb xd_Mo_newRequire_290 ?_
                          refine xn_top (y := nI (5 * (nd - 1))) (pk_mul 5 (nd - 1)) ?_
                          refine lv_aload_n hx hb xd_Mo_newRequire_291 rfl (lv_at hl 2 rfl) ?_
                          refine va_get (D := D) (ci := 4) (v := .ref (mm 12)) (C := xR_Mo) (T := xT_Mo) (N := 31) hx hb hT xi_Mo hown hK.1 hP 0 rfl rfl 17 (by decide) (hT _ xq_12) (fun _ h9 => h9) rfl xd_Mo_newRequire_292 ?_
                          refine lv_iload hx hb xd_Mo_newRequire_295 (lv_at hl 6 rfl) ?_
                          refine xn_iald (i := nd - 1) hx hb hK.1 hP 13 0 rfl rfl (by omega) (by decide) xd_Mo_newRequire_297 ?_
                          refine xn_top (x := (g 12 (nd - 1))) (y := nI rq1) erq1 ?_
                          refine lv_iadd hx hb xd_Mo_newRequire_298 ?_
                          refine xn_top (y := nI ((5 * (nd - 1)) + rq1)) (nI_add (5 * (nd - 1)) rq1) ?_
                          refine lv_iload_n hx hb xd_Mo_newRequire_299 rfl (lv_at hl 3 rfl) ?_
                          refine xn_zast (i := (5 * (nd - 1)) + rq1) hx hb hK.1 hP hD hS 17 2 rfl rfl (by omega) (by decide) xd_Mo_newRequire_300 (fun H locs hP hD hS => ?_)
                          have hP : va_P D xcl (moW h mm kA v (va_up (va_up g 13 (upd (g 13) ((5 * (nd - 1)) + rq1) r397)) 16 (upd (g 16) ((5 * (nd - 1)) + rq1) (vp_nar .boolean 1)))) H := hP
                          have hD : va_D A (moW h mm kA v (va_up (va_up g 13 (upd (g 13) ((5 * (nd - 1)) + rq1) r397)) 16 (upd (g 16) ((5 * (nd - 1)) + rq1) (vp_nar .boolean 1)))) := hD
                          refine lv_aload_n hx hb xd_Mo_newRequire_301 rfl (lv_at hl 2 rfl) ?_
                          refine va_get (D := D) (ci := 4) (v := .ref (mm 17)) (C := xR_Mo) (T := xT_Mo) (N := 31) hx hb hT xi_Mo hown hK.1 hP 0 rfl rfl 22 (by decide) (hT _ xq_15) (fun _ h9 => h9) rfl xd_Mo_newRequire_302 ?_
                          refine lv_iconst (v := 5) hx hb xd_Mo_newRequire_305 (by decide) ?_
                          refine lv_iload hx hb xd_Mo_newRequire_306 (lv_at hl 6 rfl) ?_
                          refine lv_imul hx hb xd_Mo_newRequire_308 ?_
                          refine xn_top (y := nI (5 * (nd - 1))) (pk_mul 5 (nd - 1)) ?_
                          refine lv_aload_n hx hb xd_Mo_newRequire_309 rfl (lv_at hl 2 rfl) ?_
                          refine va_get (D := D) (ci := 4) (v := .ref (mm 12)) (C := xR_Mo) (T := xT_Mo) (N := 31) hx hb hT xi_Mo hown hK.1 hP 0 rfl rfl 17 (by decide) (hT _ xq_12) (fun _ h9 => h9) rfl xd_Mo_newRequire_310 ?_
                          refine lv_iload hx hb xd_Mo_newRequire_313 (lv_at hl 6 rfl) ?_
                          refine xn_iald (i := nd - 1) hx hb hK.1 hP 13 0 rfl rfl (by omega) (by decide) xd_Mo_newRequire_315 ?_
                          refine xn_top (x := (g 12 (nd - 1))) (y := nI rq1) erq1 ?_
                          refine lv_iadd hx hb xd_Mo_newRequire_316 ?_
                          refine xn_top (y := nI ((5 * (nd - 1)) + rq1)) (nI_add (5 * (nd - 1)) rq1) ?_
                          refine lv_iload_n hx hb xd_Mo_newRequire_317 rfl (lv_at hl 4 rfl) ?_
                          refine xn_zast (i := (5 * (nd - 1)) + rq1) hx hb hK.1 hP hD hS 18 2 rfl rfl (by omega) (by decide) xd_Mo_newRequire_318 (fun H locs hP hD hS => ?_)
                          have hP : va_P D xcl (moW h mm kA v (va_up (va_up (va_up g 13 (upd (g 13) ((5 * (nd - 1)) + rq1) r397)) 16 (upd (g 16) ((5 * (nd - 1)) + rq1) (vp_nar .boolean 1))) 17 (upd (g 17) ((5 * (nd - 1)) + rq1) (vp_nar .boolean 0)))) H := hP
                          have hD : va_D A (moW h mm kA v (va_up (va_up (va_up g 13 (upd (g 13) ((5 * (nd - 1)) + rq1) r397)) 16 (upd (g 16) ((5 * (nd - 1)) + rq1) (vp_nar .boolean 1))) 17 (upd (g 17) ((5 * (nd - 1)) + rq1) (vp_nar .boolean 0)))) := hD
                          refine lv_aload_n hx hb xd_Mo_newRequire_319 rfl (lv_at hl 2 rfl) ?_
                          refine va_get (D := D) (ci := 4) (v := .ref (mm 12)) (C := xR_Mo) (T := xT_Mo) (N := 31) hx hb hT xi_Mo hown hK.1 hP 0 rfl rfl 17 (by decide) (hT _ xq_12) (fun _ h9 => h9) rfl xd_Mo_newRequire_320 ?_
                          refine lv_iload hx hb xd_Mo_newRequire_323 (lv_at hl 6 rfl) ?_
                          refine lv_dup2_11 hx hb xd_Mo_newRequire_325 rfl rfl ?_
                          refine xn_iald (i := nd - 1) hx hb hK.1 hP 13 0 rfl rfl (by omega) (by decide) xd_Mo_newRequire_326 ?_
                          refine xn_top (x := (g 12 (nd - 1))) (y := nI rq1) erq1 ?_
                          refine lv_iconst (v := 1) hx hb xd_Mo_newRequire_327 (by decide) ?_
                          refine lv_iadd hx hb xd_Mo_newRequire_328 ?_
                          refine xn_top (y := nI (rq1 + 1)) (nI_add rq1 1) ?_
                          refine xn_iast (i := nd - 1) hx hb hK.1 hP hD hS 13 0 rfl rfl (by omega) (by decide) xd_Mo_newRequire_329 (fun H locs hP hD hS => ?_)
                          have hP : va_P D xcl (moW h mm kA v (va_up (va_up (va_up (va_up g 12 (upd (g 12) (nd - 1) (nI (rq1 + 1)))) 13 (upd (g 13) ((5 * (nd - 1)) + rq1) r397)) 16 (upd (g 16) ((5 * (nd - 1)) + rq1) (vp_nar .boolean 1))) 17 (upd (g 17) ((5 * (nd - 1)) + rq1) (vp_nar .boolean 0)))) H := hP
                          have hD : va_D A (moW h mm kA v (va_up (va_up (va_up (va_up g 12 (upd (g 12) (nd - 1) (nI (rq1 + 1)))) 13 (upd (g 13) ((5 * (nd - 1)) + rq1) r397)) 16 (upd (g 16) ((5 * (nd - 1)) + rq1) (vp_nar .boolean 1))) 17 (upd (g 17) ((5 * (nd - 1)) + rq1) (vp_nar .boolean 0)))) := hD
                          refine lv_iconst (v := 2) hx hb xd_Mo_newRequire_330 (by decide) ?_
                          exact W.iret (v := 2) hx hb hr (fun t ht hW => ⟨⟨2, (v, (va_up (va_up (va_up (va_up g 12 (upd (g 12) (nd - 1) (nI (rq1 + 1)))) 13 (upd (g 13) ((5 * (nd - 1)) + rq1) r397)) 16 (upd (g 16) ((5 * (nd - 1)) + rq1) (vp_nar .boolean 1))) 17 (upd (g 17) ((5 * (nd - 1)) + rq1) (vp_nar .boolean 0)))), rfl, ⟨MI_g (g := va_up g 12 (upd (g 12) (nd - 1) (nI (rq1 + 1)))) rfl rfl rfl rfl rfl rfl rfl rfl (MI_rq (by omega) hMI), rfl, Or.inr (Or.inr (Or.inr rfl))⟩, by rw [ht]; exact hP, hD⟩, hS.F ht⟩) hS.2.2 xd_Mo_newRequire_331
                        · refine lv_bipush (v := (-2)) hx hb xd_Mo_newRequire_261 (by decide) ?_
                          exact W.iret (v := (-2)) hx hb hr (fun t ht hW => ⟨⟨(-2), (v, g), rfl, ⟨hMI, rfl, Or.inr (Or.inl rfl)⟩, by rw [ht]; exact hP, hD⟩, hS.F ht⟩) hS.2.2 xd_Mo_newRequire_263
                    · refine lv_iconst (v := (-1)) hx hb xd_Mo_newRequire_241 (by decide) ?_
                      exact W.iret (v := (-1)) hx hb hr (fun t ht hW => ⟨⟨(-1), (v, g), rfl, ⟨hMI, rfl, Or.inl rfl⟩, by rw [ht]; exact hP, hD⟩, hS.F ht⟩) hS.2.2 xd_Mo_newRequire_242
                  · refine lv_iload hx hb xd_Mo_newRequire_206 (lv_at hl 1 rfl) ?_
                    refine lv_if_ne (tgt := 223) hx hb xd_Mo_newRequire_208 (by decide) (fun hc441 => ?_) (fun hc441 => ?_)
                    · refine lv_iconst (v := 1) hx hb xd_Mo_newRequire_223 (by decide) ?_
                      refine lv_goto (tgt := 228) hx hb xd_Mo_newRequire_224 (by decide) ?_
                      refine lv_istore hx hb xd_Mo_newRequire_228 hl (Nat.le_of_ble_eq_true rfl) rfl (fun ls hl => ?_)
                      have hl : lv_has ls 8 [(6, .int 1), (7, .int (nI i)), (0, .ref h), (2, .int 1), (3, .int 0), (4, .int r397), (5, .int (nI (nd - 1)))] := hl
                      refine lv_iinc (k := 1) (x := (nI i)) (v := (nI (i + 1))) hx hb xd_Mo_newRequire_230 hl rfl (xb_inc i 1) (Nat.le_of_ble_eq_true rfl) rfl (fun ls hl => ?_)
                      have hl : lv_has ls 8 [(7, .int (nI (i + 1))), (6, .int 1), (0, .ref h), (2, .int 1), (3, .int 0), (4, .int r397), (5, .int (nI (nd - 1)))] := hl
                      refine lv_goto (tgt := 184) hx hb xd_Mo_newRequire_233 (by decide) ?_
                      exact ih428 (i + 1, 1) _ _ _ (show 5 * (nd - 1) + rq1 - (i + 1) < 5 * (nd - 1) + rq1 - i by omega) (lv_sub hl [0, 1, 2, 3, 4, 5, 6] rfl) hP hD hS ⟨(show 5 * (nd - 1) ≤ (i + 1) from by first | assumption | omega), (show (i + 1) ≤ 5 * (nd - 1) + rq1 from by first | assumption | omega)⟩
                    · refine lv_aload_n hx hb xd_Mo_newRequire_211 rfl (lv_at hl 2 rfl) ?_
                      refine va_get (D := D) (ci := 4) (v := .ref (mm 13)) (C := xR_Mo) (T := xT_Mo) (N := 31) hx hb hT xi_Mo hown hK.1 hP 0 rfl rfl 18 (by decide) (hT _ xq_13) (fun _ h9 => h9) rfl xd_Mo_newRequire_212 ?_
                      refine lv_iload hx hb xd_Mo_newRequire_215 (lv_at hl 0 rfl) ?_
                      refine xn_iald (i := i) hx hb hK.1 hP 14 0 rfl rfl (by omega) (by decide) xd_Mo_newRequire_217 ?_
                      refine lv_iload hx hb xd_Mo_newRequire_218 (lv_at hl 5 rfl) ?_
                      refine lv_icmp_ne (tgt := 227) hx hb xd_Mo_newRequire_220 (by decide) (fun hc442 => ?_) (fun hc442 => ?_)
                      · refine lv_iconst (v := 0) hx hb xd_Mo_newRequire_227 (by decide) ?_
                        refine lv_istore hx hb xd_Mo_newRequire_228 hl (Nat.le_of_ble_eq_true rfl) rfl (fun ls hl => ?_)
                        have hl : lv_has ls 8 [(6, .int 0), (7, .int (nI i)), (0, .ref h), (2, .int 1), (3, .int 0), (4, .int r397), (5, .int (nI (nd - 1)))] := hl
                        refine lv_iinc (k := 1) (x := (nI i)) (v := (nI (i + 1))) hx hb xd_Mo_newRequire_230 hl rfl (xb_inc i 1) (Nat.le_of_ble_eq_true rfl) rfl (fun ls hl => ?_)
                        have hl : lv_has ls 8 [(7, .int (nI (i + 1))), (6, .int 0), (0, .ref h), (2, .int 1), (3, .int 0), (4, .int r397), (5, .int (nI (nd - 1)))] := hl
                        refine lv_goto (tgt := 184) hx hb xd_Mo_newRequire_233 (by decide) ?_
                        exact ih428 (i + 1, 0) _ _ _ (show 5 * (nd - 1) + rq1 - (i + 1) < 5 * (nd - 1) + rq1 - i by omega) (lv_sub hl [0, 1, 2, 3, 4, 5, 6] rfl) hP hD hS ⟨(show 5 * (nd - 1) ≤ (i + 1) from by first | assumption | omega), (show (i + 1) ≤ 5 * (nd - 1) + rq1 from by first | assumption | omega)⟩
                      · refine lv_iconst (v := 1) hx hb xd_Mo_newRequire_223 (by decide) ?_
                        refine lv_goto (tgt := 228) hx hb xd_Mo_newRequire_224 (by decide) ?_
                        refine lv_istore hx hb xd_Mo_newRequire_228 hl (Nat.le_of_ble_eq_true rfl) rfl (fun ls hl => ?_)
                        have hl : lv_has ls 8 [(6, .int 1), (7, .int (nI i)), (0, .ref h), (2, .int 1), (3, .int 0), (4, .int r397), (5, .int (nI (nd - 1)))] := hl
                        refine lv_iinc (k := 1) (x := (nI i)) (v := (nI (i + 1))) hx hb xd_Mo_newRequire_230 hl rfl (xb_inc i 1) (Nat.le_of_ble_eq_true rfl) rfl (fun ls hl => ?_)
                        have hl : lv_has ls 8 [(7, .int (nI (i + 1))), (6, .int 1), (0, .ref h), (2, .int 1), (3, .int 0), (4, .int r397), (5, .int (nI (nd - 1)))] := hl
                        refine lv_goto (tgt := 184) hx hb xd_Mo_newRequire_233 (by decide) ?_
                        exact ih428 (i + 1, 1) _ _ _ (show 5 * (nd - 1) + rq1 - (i + 1) < 5 * (nd - 1) + rq1 - i by omega) (lv_sub hl [0, 1, 2, 3, 4, 5, 6] rfl) hP hD hS ⟨(show 5 * (nd - 1) ≤ (i + 1) from by first | assumption | omega), (show (i + 1) ≤ 5 * (nd - 1) + rq1 from by first | assumption | omega)⟩
            · refine lv_iconst (v := (-1)) hx hb xd_Mo_newRequire_144 (by decide) ?_
              exact W.iret (v := (-1)) hx hb hr (fun t ht hW => ⟨⟨(-1), (v, g), rfl, ⟨hMI, rfl, Or.inl rfl⟩, by rw [ht]; exact hP, hD⟩, hS.F ht⟩) hS.2.2 xd_Mo_newRequire_145
        · refine xz_eq (a := 1) (tgt := 104) hx hb xd_Mo_newRequire_97 (by decide) (by omega) (fun hc443 => absurd hc443 (by omega)) (fun _ => ?_)
          refine lv_iconst (v := 1) hx hb xd_Mo_newRequire_100 (by decide) ?_
          refine lv_goto (tgt := 105) hx hb xd_Mo_newRequire_101 (by decide) ?_
          refine lv_istore_n hx hb xd_Mo_newRequire_105 rfl hl (Nat.le_of_ble_eq_true rfl) rfl (fun ls hl => ?_)
          have hl : lv_has ls 8 [(3, .int 1), (1, .int 2), (2, .int 1), (0, .ref h)] := hl
          refine lv_iload_n hx hb xd_Mo_newRequire_106 rfl (lv_at hl 0 rfl) ?_
          refine xz_eq (a := 1) (tgt := 116) hx hb xd_Mo_newRequire_107 (by decide) (by omega) (fun hc444 => absurd hc444 (by omega)) (fun _ => ?_)
          refine lv_iload_n hx hb xd_Mo_newRequire_110 rfl (lv_at hl 1 rfl) ?_
          refine lv_iconst (v := 1) hx hb xd_Mo_newRequire_111 (by decide) ?_
          refine lv_iadd hx hb xd_Mo_newRequire_112 ?_
          refine xn_top (y := nI (3)) (nI_add 2 1) ?_
          refine lv_goto (tgt := 117) hx hb xd_Mo_newRequire_113 (by decide) ?_
          refine lv_istore_n hx hb xd_Mo_newRequire_117 rfl hl (Nat.le_of_ble_eq_true rfl) rfl (fun ls hl => ?_)
          have hl : lv_has ls 8 [(1, .int (nI 3)), (3, .int 1), (2, .int 1), (0, .ref h)] := hl
          refine lv_aload_n hx hb xd_Mo_newRequire_118 rfl (lv_at hl 3 rfl) ?_
          refine va_get (D := D) (ci := 4) (v := .int (v 3)) (C := xR_Mo) (T := xT_Mo) (N := 31) hx hb hT xi_Mo hown hK.1 hP 0 rfl rfl 4 (by decide) (hT _ xq_0) (fun _ h9 => h9) rfl xd_Mo_newRequire_119 ?_
          refine xn_top (x := (v 3)) (y := nI wn) hwn ?_
          refine lv_iload_n hx hb xd_Mo_newRequire_122 rfl (lv_at hl 0 rfl) ?_
          refine lv_iconst (v := 1) hx hb xd_Mo_newRequire_123 (by decide) ?_
          refine lv_iadd hx hb xd_Mo_newRequire_124 ?_
          refine xn_top (y := nI (4)) (nI_add 3 1) ?_
          refine xn_ne (a := wn) (b := 4) (tgt := 136) hx hb xd_Mo_newRequire_125 (by decide) (by omega) (by omega) (fun hc445 => ?_) (fun hc445 => ?_)
          · refine lv_iconst (v := 0) hx hb xd_Mo_newRequire_136 (by decide) ?_
            refine lv_istore hx hb xd_Mo_newRequire_137 hl (Nat.le_of_ble_eq_true rfl) rfl (fun ls hl => ?_)
            have hl : lv_has ls 8 [(4, .int 0), (1, .int (nI 3)), (3, .int 1), (2, .int 1), (0, .ref h)] := hl
            refine lv_iload hx hb xd_Mo_newRequire_139 (lv_at hl 0 rfl) ?_
            refine xz_ne (a := 0) (tgt := 146) hx hb xd_Mo_newRequire_141 (by decide) (by omega) (fun hc446 => absurd hc446 (by omega)) (fun _ => ?_)
            refine lv_iconst (v := (-1)) hx hb xd_Mo_newRequire_144 (by decide) ?_
            exact W.iret (v := (-1)) hx hb hr (fun t ht hW => ⟨⟨(-1), (v, g), rfl, ⟨hMI, rfl, Or.inl rfl⟩, by rw [ht]; exact hP, hD⟩, hS.F ht⟩) hS.2.2 xd_Mo_newRequire_145
          · obtain ⟨b3, e3, hbe3, he3, eb3, ee3⟩ := hws 3 (by omega)
            refine lv_aload_n hx hb xd_Mo_newRequire_128 rfl (lv_at hl 3 rfl) ?_
            refine lv_iload_n hx hb xd_Mo_newRequire_129 rfl (lv_at hl 0 rfl) ?_
            have hFc := va_free (wc := (moW h mm kA v g)) hD hS hA [0, 1, 2, 3, 4, 5, 6, 7, 8, 9, 10, 11, 12, 13, 14, 15, 16, 17, 18, 19, 20, 21, 22, 23, 24, 25] rfl
            refine va_calli (va_runV (As := [.int (nI 3)]) (rest := []) ⟨hx, hb, hml, hown, hT⟩ (xc_Mo_nameOf l D kA H.size h mm v g 3 b3 e3 (by first | assumption | omega) (by first | assumption | omega) (by first | assumption | omega) (by first | assumption | omega) (by first | assumption | omega)) (cwV 1 hT (wT_V xq_2 xq_3 xq_4 xq_5 xq_1) rfl rfl rfl (by decide +kernel) ⟨Nat.le_of_ble_eq_true rfl, Nat.le_of_ble_eq_true rfl⟩) (x_preV hK hP hD 0 rfl rfl) rfl rfl hl.1 rfl (lv_room (Nat.le_of_ble_eq_true rfl)) xd_Mo_newRequire_130 ⟨Nat.le_of_ble_eq_true rfl, Nat.le_of_ble_eq_true rfl⟩) hS (fun q _ h => hFc q h) hFc (fun r447 u448 t H1 locs ht hvm hp449 hB hz1 hk1 hS => ?_)
            obtain ⟨hP1, hD1⟩ := hB
            rw [ht] at hP1
            have hD1 := hD1.weaken (fun _ _ _ h => hFc _ h)
            generalize H1 = H at hP1 hS ⊢
            have hP := hP1
            have hD := hD1
            have hP : va_P D xcl (moW h mm kA v g) H := hP
            have hD : va_D A (moW h mm kA v g) := hD
            refine lv_goto (tgt := 137) hx hb xd_Mo_newRequire_133 (by decide) ?_
            refine lv_istore hx hb xd_Mo_newRequire_137 hl (Nat.le_of_ble_eq_true rfl) rfl (fun ls hl => ?_)
            have hl : lv_has ls 8 [(4, .int r447), (1, .int (nI 3)), (3, .int 1), (2, .int 1), (0, .ref h)] := hl
            refine lv_iload hx hb xd_Mo_newRequire_139 (lv_at hl 0 rfl) ?_
            refine lv_if_ne (tgt := 146) hx hb xd_Mo_newRequire_141 (by decide) (fun hc450 => ?_) (fun hc450 => ?_)
            · rcases Nat.eq_zero_or_pos nd with hz | hz
              · have hnd0 : v 4 = nI 0 := by rw [hnd, hz]
                refine lv_aload_n hx hb xd_Mo_newRequire_146 rfl (lv_at hl 4 rfl) ?_
                refine va_get (D := D) (ci := 4) (v := .int (v 4)) (C := xR_Mo) (T := xT_Mo) (N := 31) hx hb hT xi_Mo hown hK.1 hP 0 rfl rfl 7 (by decide) (hT _ xq_6) (fun _ h9 => h9) rfl xd_Mo_newRequire_147 ?_
                refine xn_top (x := (v 4)) (y := nI 0) hnd0 ?_
                refine lv_iconst (v := 1) hx hb xd_Mo_newRequire_150 (by decide) ?_
                refine lv_isub hx hb xd_Mo_newRequire_151 ?_
                refine lv_istore hx hb xd_Mo_newRequire_152 hl (Nat.le_of_ble_eq_true rfl) rfl (fun ls hl => ?_)
                have hl : lv_has ls 8 [(5, .int ((nI 0) - 1)), (4, .int r447), (1, .int (nI 3)), (3, .int 1), (2, .int 1), (0, .ref h)] := hl
                refine lv_iload hx hb xd_Mo_newRequire_154 (lv_at hl 0 rfl) ?_
                refine lv_if_lt (tgt := 175) hx hb xd_Mo_newRequire_156 (by decide) (fun _ => ?_) (fun hc451 => absurd hc451 (by decide))
                refine lv_iconst (v := 0) hx hb xd_Mo_newRequire_175 (by decide) ?_
                refine lv_istore hx hb xd_Mo_newRequire_176 hl (Nat.le_of_ble_eq_true rfl) rfl (fun ls hl => ?_)
                have hl : lv_has ls 8 [(6, .int 0), (5, .int ((nI 0) - 1)), (4, .int r447), (1, .int (nI 3)), (3, .int 1), (2, .int 1), (0, .ref h)] := hl
                refine lv_iconst (v := 5) hx hb xd_Mo_newRequire_178 (by decide) ?_
                refine lv_iload hx hb xd_Mo_newRequire_179 (lv_at hl 1 rfl) ?_
                refine lv_imul hx hb xd_Mo_newRequire_181 ?_
                refine lv_istore hx hb xd_Mo_newRequire_182 hl (Nat.le_of_ble_eq_true rfl) rfl (fun ls hl => ?_)
                have hl : lv_has ls 8 [(7, .int (5 * ((nI 0) - 1))), (6, .int 0), (5, .int ((nI 0) - 1)), (4, .int r447), (1, .int (nI 3)), (3, .int 1), (2, .int 1), (0, .ref h)] := hl
                refine lv_iload hx hb xd_Mo_newRequire_184 (lv_at hl 2 rfl) ?_
                refine lv_if_lt (tgt := 236) hx hb xd_Mo_newRequire_186 (by decide) (fun _ => ?_) (fun hc452 => absurd hc452 (by decide))
                refine lv_iload hx hb xd_Mo_newRequire_236 (lv_at hl 1 rfl) ?_
                refine xz_eq (a := 0) (tgt := 243) hx hb xd_Mo_newRequire_238 (by decide) (by omega) (fun _ => ?_) (fun hc453 => absurd hc453 (by omega))
                refine lv_aload_n hx hb xd_Mo_newRequire_243 rfl (lv_at hl 7 rfl) ?_
                have hFc := va_free (wc := (moW h mm kA v g)) hD hS hA [0, 1, 2, 3, 4, 5, 6, 7, 8, 9, 10, 11, 12, 13, 14, 15, 16, 17, 18, 19, 20, 21, 22, 23, 24, 25] rfl
                refine va_calli (va_runV (As := []) (rest := []) ⟨hx, hb, hml, hown, hT⟩ (xc_Mo_isShut l D kA H.size h mm v g nd (by first | assumption | omega) (by first | assumption | omega)) (cwV 0 hT (wT_V xq_8 xq_9 xq_10 xq_5 xq_7) rfl rfl rfl (by decide +kernel) ⟨Nat.le_of_ble_eq_true rfl, Nat.le_of_ble_eq_true rfl⟩) (x_preV hK hP hD 0 rfl rfl) rfl rfl hl.1 rfl (lv_room (Nat.le_of_ble_eq_true rfl)) xd_Mo_newRequire_244 ⟨Nat.le_of_ble_eq_true rfl, Nat.le_of_ble_eq_true rfl⟩) hS (fun q _ h => hFc q h) hFc (fun r454 u455 t H1 locs ht hvm hp456 hB hz1 hk1 hS => ?_)
                obtain ⟨hP1, hD1⟩ := hB
                rw [ht] at hP1
                have hD1 := hD1.weaken (fun _ _ _ h => hFc _ h)
                generalize H1 = H at hP1 hS ⊢
                have hP := hP1
                have hD := hD1
                have hP : va_P D xcl (moW h mm kA v g) H := hP
                have hD : va_D A (moW h mm kA v g) := hD
                rcases hp456 with ⟨rfl, z457⟩ | ⟨rfl, z458, z459⟩
                · refine xz_ne (a := 1) (tgt := 261) hx hb xd_Mo_newRequire_247 (by decide) (by omega) (fun _ => ?_) (fun hc460 => absurd hc460 (by omega))
                  refine lv_bipush (v := (-2)) hx hb xd_Mo_newRequire_261 (by decide) ?_
                  exact W.iret (v := (-2)) hx hb hr (fun t ht hW => ⟨⟨(-2), (v, g), rfl, ⟨hMI, rfl, Or.inr (Or.inl rfl)⟩, by rw [ht]; exact hP, hD⟩, hS.F ht⟩) hS.2.2 xd_Mo_newRequire_263
                · exact absurd hz z458
              · refine lv_aload_n hx hb xd_Mo_newRequire_146 rfl (lv_at hl 4 rfl) ?_
                refine va_get (D := D) (ci := 4) (v := .int (v 4)) (C := xR_Mo) (T := xT_Mo) (N := 31) hx hb hT xi_Mo hown hK.1 hP 0 rfl rfl 7 (by decide) (hT _ xq_6) (fun _ h9 => h9) rfl xd_Mo_newRequire_147 ?_
                refine xn_top (x := (v 4)) (y := nI nd) hnd ?_
                refine lv_iconst (v := 1) hx hb xd_Mo_newRequire_150 (by decide) ?_
                refine lv_isub hx hb xd_Mo_newRequire_151 ?_
                refine xn_top (y := nI (nd - 1)) (pk_sub (a := nd) (b := 1) (by omega)) ?_
                refine lv_istore hx hb xd_Mo_newRequire_152 hl (Nat.le_of_ble_eq_true rfl) rfl (fun ls hl => ?_)
                have hl : lv_has ls 8 [(5, .int (nI (nd - 1))), (4, .int r447), (1, .int (nI 3)), (3, .int 1), (2, .int 1), (0, .ref h)] := hl
                refine lv_iload hx hb xd_Mo_newRequire_154 (lv_at hl 0 rfl) ?_
                refine xz_lt (a := nd - 1) (tgt := 175) hx hb xd_Mo_newRequire_156 (by decide) (by omega) ?_
                obtain ⟨rq1, hrq1, erq1⟩ := hrq (nd - 1) (by omega)
                refine lv_aload_n hx hb xd_Mo_newRequire_159 rfl (lv_at hl 5 rfl) ?_
                refine va_get (D := D) (ci := 4) (v := .ref (mm 4)) (C := xR_Mo) (T := xT_Mo) (N := 31) hx hb hT xi_Mo hown hK.1 hP 0 rfl rfl 9 (by decide) (hT _ xq_11) (fun _ h9 => h9) rfl xd_Mo_newRequire_160 ?_
                refine lv_iload hx hb xd_Mo_newRequire_163 (lv_at hl 0 rfl) ?_
                refine xn_iald (i := nd - 1) hx hb hK.1 hP 5 0 rfl rfl (by omega) (by decide) xd_Mo_newRequire_165 ?_
                refine lv_iload hx hb xd_Mo_newRequire_166 (lv_at hl 1 rfl) ?_
                refine lv_icmp_ne (tgt := 175) hx hb xd_Mo_newRequire_168 (by decide) (fun hc462 => ?_) (fun hc462 => ?_)
                · refine lv_iconst (v := 0) hx hb xd_Mo_newRequire_175 (by decide) ?_
                  refine lv_istore hx hb xd_Mo_newRequire_176 hl (Nat.le_of_ble_eq_true rfl) rfl (fun ls hl => ?_)
                  have hl : lv_has ls 8 [(6, .int 0), (5, .int (nI (nd - 1))), (4, .int r447), (1, .int (nI 3)), (3, .int 1), (2, .int 1), (0, .ref h)] := hl
                  refine lv_iconst (v := 5) hx hb xd_Mo_newRequire_178 (by decide) ?_
                  refine lv_iload hx hb xd_Mo_newRequire_179 (lv_at hl 1 rfl) ?_
                  refine lv_imul hx hb xd_Mo_newRequire_181 ?_
                  refine xn_top (y := nI (5 * (nd - 1))) (pk_mul 5 (nd - 1)) ?_
                  refine lv_istore hx hb xd_Mo_newRequire_182 hl (Nat.le_of_ble_eq_true rfl) rfl (fun ls hl => ?_)
                  have hl : lv_has ls 8 [(7, .int (nI (5 * (nd - 1)))), (6, .int 0), (5, .int (nI (nd - 1))), (4, .int r447), (1, .int (nI 3)), (3, .int 1), (2, .int 1), (0, .ref h)] := hl
                  refine xlab (σ := Nat × Int32) (ml := 8) 184 (fun (i, tw) => [(7, .int (nI i)), (6, .int tw), (0, .ref h), (2, .int 1), (3, .int 1), (4, .int r447), (5, .int (nI (nd - 1)))]) (fun (i, tw) => []) (fun (i, tw) => moW h mm kA v g) (fun (i, tw) => (5 * (nd - 1) ≤ i) ∧ (i ≤ 5 * (nd - 1) + rq1)) (fun (i, tw) => 5 * (nd - 1) + rq1 - i) ?_ (5 * (nd - 1), 0) _ _ _ (lv_sub hl [0, 1, 7, 6, 5, 3, 2] rfl) hP hD hS ⟨(show 5 * (nd - 1) ≤ (5 * (nd - 1)) from by first | assumption | omega), (show (5 * (nd - 1)) ≤ 5 * (nd - 1) + rq1 from by first | assumption | omega)⟩
                  intro n9 ih463 a9 ls H locs hμ hl hP hD hS hI
                  subst hμ
                  obtain ⟨i, tw⟩ := a9
                  obtain ⟨hi1, hi2⟩ := hI
                  have hi1 : 5 * (nd - 1) ≤ i := hi1
                  have hi2 : i ≤ 5 * (nd - 1) + rq1 := hi2
                  have hl : lv_has ls 8 [(7, .int (nI i)), (6, .int tw), (0, .ref h), (2, .int 1), (3, .int 1), (4, .int r447), (5, .int (nI (nd - 1)))] := hl
                  have hP : va_P D xcl (moW h mm kA v g) H := hP
                  have hD : va_D A (moW h mm kA v g) := hD
                  refine lv_iload hx hb xd_Mo_newRequire_184 (lv_at hl 6 rfl) ?_
                  refine xz_lt (a := nd - 1) (tgt := 236) hx hb xd_Mo_newRequire_186 (by decide) (by omega) ?_
                  refine lv_iload hx hb xd_Mo_newRequire_189 (lv_at hl 0 rfl) ?_
                  refine lv_iconst (v := 5) hx hb xd_Mo_newRequire_191 (by decide) ?_
                  refine lv_iload hx hb xd_Mo_newRequire_192 (lv_at hl 6 rfl) ?_
                  refine lv_imul hx hb xd_Mo_newRequire_194 ?_
                  refine xn_top (y := nI (5 * (nd - 1))) (pk_mul 5 (nd - 1)) ?_
                  refine lv_aload_n hx hb xd_Mo_newRequire_195 rfl (lv_at hl 2 rfl) ?_
                  refine va_get (D := D) (ci := 4) (v := .ref (mm 12)) (C := xR_Mo) (T := xT_Mo) (N := 31) hx hb hT xi_Mo hown hK.1 hP 0 rfl rfl 17 (by decide) (hT _ xq_12) (fun _ h9 => h9) rfl xd_Mo_newRequire_196 ?_
                  refine lv_iload hx hb xd_Mo_newRequire_199 (lv_at hl 6 rfl) ?_
                  refine xn_iald (i := nd - 1) hx hb hK.1 hP 13 0 rfl rfl (by omega) (by decide) xd_Mo_newRequire_201 ?_
                  refine xn_top (x := (g 12 (nd - 1))) (y := nI rq1) erq1 ?_
                  refine lv_iadd hx hb xd_Mo_newRequire_202 ?_
                  refine xn_top (y := nI ((5 * (nd - 1)) + rq1)) (nI_add (5 * (nd - 1)) rq1) ?_
                  refine xn_ge (a := i) (b := (5 * (nd - 1)) + rq1) (tgt := 236) hx hb xd_Mo_newRequire_203 (by decide) (by omega) (by omega) (fun hc465 => ?_) (fun hc465 => ?_)
                  · refine lv_iload hx hb xd_Mo_newRequire_236 (lv_at hl 1 rfl) ?_
                    refine lv_if_eq (tgt := 243) hx hb xd_Mo_newRequire_238 (by decide) (fun hc466 => ?_) (fun hc466 => ?_)
                    · refine lv_aload_n hx hb xd_Mo_newRequire_243 rfl (lv_at hl 2 rfl) ?_
                      have hFc := va_free (wc := (moW h mm kA v g)) hD hS hA [0, 1, 2, 3, 4, 5, 6, 7, 8, 9, 10, 11, 12, 13, 14, 15, 16, 17, 18, 19, 20, 21, 22, 23, 24, 25] rfl
                      refine va_calli (va_runV (As := []) (rest := []) ⟨hx, hb, hml, hown, hT⟩ (xc_Mo_isShut l D kA H.size h mm v g nd (by first | assumption | omega) (by first | assumption | omega)) (cwV 0 hT (wT_V xq_8 xq_9 xq_10 xq_5 xq_7) rfl rfl rfl (by decide +kernel) ⟨Nat.le_of_ble_eq_true rfl, Nat.le_of_ble_eq_true rfl⟩) (x_preV hK hP hD 0 rfl rfl) rfl rfl hl.1 rfl (lv_room (Nat.le_of_ble_eq_true rfl)) xd_Mo_newRequire_244 ⟨Nat.le_of_ble_eq_true rfl, Nat.le_of_ble_eq_true rfl⟩) hS (fun q _ h => hFc q h) hFc (fun r467 u468 t H1 locs ht hvm hp469 hB hz1 hk1 hS => ?_)
                      obtain ⟨hP1, hD1⟩ := hB
                      rw [ht] at hP1
                      have hD1 := hD1.weaken (fun _ _ _ h => hFc _ h)
                      generalize H1 = H at hP1 hS ⊢
                      have hP := hP1
                      have hD := hD1
                      have hP : va_P D xcl (moW h mm kA v g) H := hP
                      have hD : va_D A (moW h mm kA v g) := hD
                      rcases hp469 with ⟨rfl, z470⟩ | ⟨rfl, z471, z472⟩
                      · refine xz_ne (a := 1) (tgt := 261) hx hb xd_Mo_newRequire_247 (by decide) (by omega) (fun _ => ?_) (fun hc473 => absurd hc473 (by omega))
                        refine lv_bipush (v := (-2)) hx hb xd_Mo_newRequire_261 (by decide) ?_
                        exact W.iret (v := (-2)) hx hb hr (fun t ht hW => ⟨⟨(-2), (v, g), rfl, ⟨hMI, rfl, Or.inr (Or.inl rfl)⟩, by rw [ht]; exact hP, hD⟩, hS.F ht⟩) hS.2.2 xd_Mo_newRequire_263
                      · refine xz_ne (a := 0) (tgt := 261) hx hb xd_Mo_newRequire_247 (by decide) (by omega) (fun hc474 => absurd hc474 (by omega)) (fun _ => ?_)
                        refine lv_aload_n hx hb xd_Mo_newRequire_250 rfl (lv_at hl 2 rfl) ?_
                        refine va_get (D := D) (ci := 4) (v := .ref (mm 12)) (C := xR_Mo) (T := xT_Mo) (N := 31) hx hb hT xi_Mo hown hK.1 hP 0 rfl rfl 17 (by decide) (hT _ xq_12) (fun _ h9 => h9) rfl xd_Mo_newRequire_251 ?_
                        refine lv_iload hx hb xd_Mo_newRequire_254 (lv_at hl 6 rfl) ?_
                        refine xn_iald (i := nd - 1) hx hb hK.1 hP 13 0 rfl rfl (by omega) (by decide) xd_Mo_newRequire_256 ?_
                        refine xn_top (x := (g 12 (nd - 1))) (y := nI rq1) erq1 ?_
                        refine lv_iconst (v := 5) hx hb xd_Mo_newRequire_257 (by decide) ?_
                        refine xn_ne (a := rq1) (b := 5) (tgt := 264) hx hb xd_Mo_newRequire_258 (by decide) (by omega) (by omega) (fun hc475 => ?_) (fun hc475 => ?_)
                        · refine lv_aload_n hx hb xd_Mo_newRequire_264 rfl (lv_at hl 2 rfl) ?_
                          refine va_get (D := D) (ci := 4) (v := .ref (mm 13)) (C := xR_Mo) (T := xT_Mo) (N := 31) hx hb hT xi_Mo hown hK.1 hP 0 rfl rfl 18 (by decide) (hT _ xq_13) (fun _ h9 => h9) rfl xd_Mo_newRequire_265 ?_
                          refine lv_iconst (v := 5) hx hb xd_Mo_newRequire_268 (by decide) ?_
                          refine lv_iload hx hb xd_Mo_newRequire_269 (lv_at hl 6 rfl) ?_
                          refine lv_imul hx hb xd_Mo_newRequire_271 ?_
                          refine xn_top (y := nI (5 * (nd - 1))) (pk_mul 5 (nd - 1)) ?_
                          refine lv_aload_n hx hb xd_Mo_newRequire_272 rfl (lv_at hl 2 rfl) ?_
                          refine va_get (D := D) (ci := 4) (v := .ref (mm 12)) (C := xR_Mo) (T := xT_Mo) (N := 31) hx hb hT xi_Mo hown hK.1 hP 0 rfl rfl 17 (by decide) (hT _ xq_12) (fun _ h9 => h9) rfl xd_Mo_newRequire_273 ?_
                          refine lv_iload hx hb xd_Mo_newRequire_276 (lv_at hl 6 rfl) ?_
                          refine xn_iald (i := nd - 1) hx hb hK.1 hP 13 0 rfl rfl (by omega) (by decide) xd_Mo_newRequire_278 ?_
                          refine xn_top (x := (g 12 (nd - 1))) (y := nI rq1) erq1 ?_
                          refine lv_iadd hx hb xd_Mo_newRequire_279 ?_
                          refine xn_top (y := nI ((5 * (nd - 1)) + rq1)) (nI_add (5 * (nd - 1)) rq1) ?_
                          refine lv_iload hx hb xd_Mo_newRequire_280 (lv_at hl 5 rfl) ?_
                          refine xn_iast (i := (5 * (nd - 1)) + rq1) hx hb hK.1 hP hD hS 14 0 rfl rfl (by omega) (by decide) xd_Mo_newRequire_282 (fun H locs hP hD hS => ?_)
                          have hP : va_P D xcl (moW h mm kA v (va_up g 13 (upd (g 13) ((5 * (nd - 1)) + rq1) r447))) H := hP
                          have hD : va_D A (moW h mm kA v (va_up g 13 (upd (g 13) ((5 * (nd - 1)) + rq1) r447))) := hD
                          refine lv_aload_n hx hb xd_Mo_newRequire_283 rfl (lv_at hl 2 rfl) ?_
                          refine va_get (D := D) (ci := 4) (v := .ref (mm 16)) (C := xR_Mo) (T := xT_Mo) (N := 31) hx hb hT xi_Mo hown hK.1 hP 0 rfl rfl 21 (by decide) (hT _ xq_14) (fun _ h9 => h9) rfl xd_Mo_newRequire_284 ?_
                          refine lv_iconst (v := 5) hx hb xd_Mo_newRequire_287 (by decide) ?_
                          refine lv_iload hx hb xd_Mo_newRequire_288 (lv_at hl 6 rfl) ?_
                          refine lv_imul hx hb xd_Mo_newRequire_290 ?_
                          refine xn_top (y := nI (5 * (nd - 1))) (pk_mul 5 (nd - 1)) ?_
                          refine lv_aload_n hx hb xd_Mo_newRequire_291 rfl (lv_at hl 2 rfl) ?_
                          refine va_get (D := D) (ci := 4) (v := .ref (mm 12)) (C := xR_Mo) (T := xT_Mo) (N := 31) hx hb hT xi_Mo hown hK.1 hP 0 rfl rfl 17 (by decide) (hT _ xq_12) (fun _ h9 => h9) rfl xd_Mo_newRequire_292 ?_
                          refine lv_iload hx hb xd_Mo_newRequire_295 (lv_at hl 6 rfl) ?_
                          refine xn_iald (i := nd - 1) hx hb hK.1 hP 13 0 rfl rfl (by omega) (by decide) xd_Mo_newRequire_297 ?_
                          refine xn_top (x := (g 12 (nd - 1))) (y := nI rq1) erq1 ?_
                          refine lv_iadd hx hb xd_Mo_newRequire_298 ?_
                          refine xn_top (y := nI ((5 * (nd - 1)) + rq1)) (nI_add (5 * (nd - 1)) rq1) ?_
                          refine lv_iload_n hx hb xd_Mo_newRequire_299 rfl (lv_at hl 3 rfl) ?_
                          refine xn_zast (i := (5 * (nd - 1)) + rq1) hx hb hK.1 hP hD hS 17 2 rfl rfl (by omega) (by decide) xd_Mo_newRequire_300 (fun H locs hP hD hS => ?_)
                          have hP : va_P D xcl (moW h mm kA v (va_up (va_up g 13 (upd (g 13) ((5 * (nd - 1)) + rq1) r447)) 16 (upd (g 16) ((5 * (nd - 1)) + rq1) (vp_nar .boolean 1)))) H := hP
                          have hD : va_D A (moW h mm kA v (va_up (va_up g 13 (upd (g 13) ((5 * (nd - 1)) + rq1) r447)) 16 (upd (g 16) ((5 * (nd - 1)) + rq1) (vp_nar .boolean 1)))) := hD
                          refine lv_aload_n hx hb xd_Mo_newRequire_301 rfl (lv_at hl 2 rfl) ?_
                          refine va_get (D := D) (ci := 4) (v := .ref (mm 17)) (C := xR_Mo) (T := xT_Mo) (N := 31) hx hb hT xi_Mo hown hK.1 hP 0 rfl rfl 22 (by decide) (hT _ xq_15) (fun _ h9 => h9) rfl xd_Mo_newRequire_302 ?_
                          refine lv_iconst (v := 5) hx hb xd_Mo_newRequire_305 (by decide) ?_
                          refine lv_iload hx hb xd_Mo_newRequire_306 (lv_at hl 6 rfl) ?_
                          refine lv_imul hx hb xd_Mo_newRequire_308 ?_
                          refine xn_top (y := nI (5 * (nd - 1))) (pk_mul 5 (nd - 1)) ?_
                          refine lv_aload_n hx hb xd_Mo_newRequire_309 rfl (lv_at hl 2 rfl) ?_
                          refine va_get (D := D) (ci := 4) (v := .ref (mm 12)) (C := xR_Mo) (T := xT_Mo) (N := 31) hx hb hT xi_Mo hown hK.1 hP 0 rfl rfl 17 (by decide) (hT _ xq_12) (fun _ h9 => h9) rfl xd_Mo_newRequire_310 ?_
                          refine lv_iload hx hb xd_Mo_newRequire_313 (lv_at hl 6 rfl) ?_
                          refine xn_iald (i := nd - 1) hx hb hK.1 hP 13 0 rfl rfl (by omega) (by decide) xd_Mo_newRequire_315 ?_
                          refine xn_top (x := (g 12 (nd - 1))) (y := nI rq1) erq1 ?_
                          refine lv_iadd hx hb xd_Mo_newRequire_316 ?_
                          refine xn_top (y := nI ((5 * (nd - 1)) + rq1)) (nI_add (5 * (nd - 1)) rq1) ?_
                          refine lv_iload_n hx hb xd_Mo_newRequire_317 rfl (lv_at hl 4 rfl) ?_
                          refine xn_zast (i := (5 * (nd - 1)) + rq1) hx hb hK.1 hP hD hS 18 2 rfl rfl (by omega) (by decide) xd_Mo_newRequire_318 (fun H locs hP hD hS => ?_)
                          have hP : va_P D xcl (moW h mm kA v (va_up (va_up (va_up g 13 (upd (g 13) ((5 * (nd - 1)) + rq1) r447)) 16 (upd (g 16) ((5 * (nd - 1)) + rq1) (vp_nar .boolean 1))) 17 (upd (g 17) ((5 * (nd - 1)) + rq1) (vp_nar .boolean 1)))) H := hP
                          have hD : va_D A (moW h mm kA v (va_up (va_up (va_up g 13 (upd (g 13) ((5 * (nd - 1)) + rq1) r447)) 16 (upd (g 16) ((5 * (nd - 1)) + rq1) (vp_nar .boolean 1))) 17 (upd (g 17) ((5 * (nd - 1)) + rq1) (vp_nar .boolean 1)))) := hD
                          refine lv_aload_n hx hb xd_Mo_newRequire_319 rfl (lv_at hl 2 rfl) ?_
                          refine va_get (D := D) (ci := 4) (v := .ref (mm 12)) (C := xR_Mo) (T := xT_Mo) (N := 31) hx hb hT xi_Mo hown hK.1 hP 0 rfl rfl 17 (by decide) (hT _ xq_12) (fun _ h9 => h9) rfl xd_Mo_newRequire_320 ?_
                          refine lv_iload hx hb xd_Mo_newRequire_323 (lv_at hl 6 rfl) ?_
                          refine lv_dup2_11 hx hb xd_Mo_newRequire_325 rfl rfl ?_
                          refine xn_iald (i := nd - 1) hx hb hK.1 hP 13 0 rfl rfl (by omega) (by decide) xd_Mo_newRequire_326 ?_
                          refine xn_top (x := (g 12 (nd - 1))) (y := nI rq1) erq1 ?_
                          refine lv_iconst (v := 1) hx hb xd_Mo_newRequire_327 (by decide) ?_
                          refine lv_iadd hx hb xd_Mo_newRequire_328 ?_
                          refine xn_top (y := nI (rq1 + 1)) (nI_add rq1 1) ?_
                          refine xn_iast (i := nd - 1) hx hb hK.1 hP hD hS 13 0 rfl rfl (by omega) (by decide) xd_Mo_newRequire_329 (fun H locs hP hD hS => ?_)
                          have hP : va_P D xcl (moW h mm kA v (va_up (va_up (va_up (va_up g 12 (upd (g 12) (nd - 1) (nI (rq1 + 1)))) 13 (upd (g 13) ((5 * (nd - 1)) + rq1) r447)) 16 (upd (g 16) ((5 * (nd - 1)) + rq1) (vp_nar .boolean 1))) 17 (upd (g 17) ((5 * (nd - 1)) + rq1) (vp_nar .boolean 1)))) H := hP
                          have hD : va_D A (moW h mm kA v (va_up (va_up (va_up (va_up g 12 (upd (g 12) (nd - 1) (nI (rq1 + 1)))) 13 (upd (g 13) ((5 * (nd - 1)) + rq1) r447)) 16 (upd (g 16) ((5 * (nd - 1)) + rq1) (vp_nar .boolean 1))) 17 (upd (g 17) ((5 * (nd - 1)) + rq1) (vp_nar .boolean 1)))) := hD
                          refine lv_iconst (v := 2) hx hb xd_Mo_newRequire_330 (by decide) ?_
                          exact W.iret (v := 2) hx hb hr (fun t ht hW => ⟨⟨2, (v, (va_up (va_up (va_up (va_up g 12 (upd (g 12) (nd - 1) (nI (rq1 + 1)))) 13 (upd (g 13) ((5 * (nd - 1)) + rq1) r447)) 16 (upd (g 16) ((5 * (nd - 1)) + rq1) (vp_nar .boolean 1))) 17 (upd (g 17) ((5 * (nd - 1)) + rq1) (vp_nar .boolean 1)))), rfl, ⟨MI_g (g := va_up g 12 (upd (g 12) (nd - 1) (nI (rq1 + 1)))) rfl rfl rfl rfl rfl rfl rfl rfl (MI_rq (by omega) hMI), rfl, Or.inr (Or.inr (Or.inr rfl))⟩, by rw [ht]; exact hP, hD⟩, hS.F ht⟩) hS.2.2 xd_Mo_newRequire_331
                        · refine lv_bipush (v := (-2)) hx hb xd_Mo_newRequire_261 (by decide) ?_
                          exact W.iret (v := (-2)) hx hb hr (fun t ht hW => ⟨⟨(-2), (v, g), rfl, ⟨hMI, rfl, Or.inr (Or.inl rfl)⟩, by rw [ht]; exact hP, hD⟩, hS.F ht⟩) hS.2.2 xd_Mo_newRequire_263
                    · refine lv_iconst (v := (-1)) hx hb xd_Mo_newRequire_241 (by decide) ?_
                      exact W.iret (v := (-1)) hx hb hr (fun t ht hW => ⟨⟨(-1), (v, g), rfl, ⟨hMI, rfl, Or.inl rfl⟩, by rw [ht]; exact hP, hD⟩, hS.F ht⟩) hS.2.2 xd_Mo_newRequire_242
                  · refine lv_iload hx hb xd_Mo_newRequire_206 (lv_at hl 1 rfl) ?_
                    refine lv_if_ne (tgt := 223) hx hb xd_Mo_newRequire_208 (by decide) (fun hc476 => ?_) (fun hc476 => ?_)
                    · refine lv_iconst (v := 1) hx hb xd_Mo_newRequire_223 (by decide) ?_
                      refine lv_goto (tgt := 228) hx hb xd_Mo_newRequire_224 (by decide) ?_
                      refine lv_istore hx hb xd_Mo_newRequire_228 hl (Nat.le_of_ble_eq_true rfl) rfl (fun ls hl => ?_)
                      have hl : lv_has ls 8 [(6, .int 1), (7, .int (nI i)), (0, .ref h), (2, .int 1), (3, .int 1), (4, .int r447), (5, .int (nI (nd - 1)))] := hl
                      refine lv_iinc (k := 1) (x := (nI i)) (v := (nI (i + 1))) hx hb xd_Mo_newRequire_230 hl rfl (xb_inc i 1) (Nat.le_of_ble_eq_true rfl) rfl (fun ls hl => ?_)
                      have hl : lv_has ls 8 [(7, .int (nI (i + 1))), (6, .int 1), (0, .ref h), (2, .int 1), (3, .int 1), (4, .int r447), (5, .int (nI (nd - 1)))] := hl
                      refine lv_goto (tgt := 184) hx hb xd_Mo_newRequire_233 (by decide) ?_
                      exact ih463 (i + 1, 1) _ _ _ (show 5 * (nd - 1) + rq1 - (i + 1) < 5 * (nd - 1) + rq1 - i by omega) (lv_sub hl [0, 1, 2, 3, 4, 5, 6] rfl) hP hD hS ⟨(show 5 * (nd - 1) ≤ (i + 1) from by first | assumption | omega), (show (i + 1) ≤ 5 * (nd - 1) + rq1 from by first | assumption | omega)⟩
                    · refine lv_aload_n hx hb xd_Mo_newRequire_211 rfl (lv_at hl 2 rfl) ?_
                      refine va_get (D := D) (ci := 4) (v := .ref (mm 13)) (C := xR_Mo) (T := xT_Mo) (N := 31) hx hb hT xi_Mo hown hK.1 hP 0 rfl rfl 18 (by decide) (hT _ xq_13) (fun _ h9 => h9) rfl xd_Mo_newRequire_212 ?_
                      refine lv_iload hx hb xd_Mo_newRequire_215 (lv_at hl 0 rfl) ?_
                      refine xn_iald (i := i) hx hb hK.1 hP 14 0 rfl rfl (by omega) (by decide) xd_Mo_newRequire_217 ?_
                      refine lv_iload hx hb xd_Mo_newRequire_218 (lv_at hl 5 rfl) ?_
                      refine lv_icmp_ne (tgt := 227) hx hb xd_Mo_newRequire_220 (by decide) (fun hc477 => ?_) (fun hc477 => ?_)
                      · refine lv_iconst (v := 0) hx hb xd_Mo_newRequire_227 (by decide) ?_
                        refine lv_istore hx hb xd_Mo_newRequire_228 hl (Nat.le_of_ble_eq_true rfl) rfl (fun ls hl => ?_)
                        have hl : lv_has ls 8 [(6, .int 0), (7, .int (nI i)), (0, .ref h), (2, .int 1), (3, .int 1), (4, .int r447), (5, .int (nI (nd - 1)))] := hl
                        refine lv_iinc (k := 1) (x := (nI i)) (v := (nI (i + 1))) hx hb xd_Mo_newRequire_230 hl rfl (xb_inc i 1) (Nat.le_of_ble_eq_true rfl) rfl (fun ls hl => ?_)
                        have hl : lv_has ls 8 [(7, .int (nI (i + 1))), (6, .int 0), (0, .ref h), (2, .int 1), (3, .int 1), (4, .int r447), (5, .int (nI (nd - 1)))] := hl
                        refine lv_goto (tgt := 184) hx hb xd_Mo_newRequire_233 (by decide) ?_
                        exact ih463 (i + 1, 0) _ _ _ (show 5 * (nd - 1) + rq1 - (i + 1) < 5 * (nd - 1) + rq1 - i by omega) (lv_sub hl [0, 1, 2, 3, 4, 5, 6] rfl) hP hD hS ⟨(show 5 * (nd - 1) ≤ (i + 1) from by first | assumption | omega), (show (i + 1) ≤ 5 * (nd - 1) + rq1 from by first | assumption | omega)⟩
                      · refine lv_iconst (v := 1) hx hb xd_Mo_newRequire_223 (by decide) ?_
                        refine lv_goto (tgt := 228) hx hb xd_Mo_newRequire_224 (by decide) ?_
                        refine lv_istore hx hb xd_Mo_newRequire_228 hl (Nat.le_of_ble_eq_true rfl) rfl (fun ls hl => ?_)
                        have hl : lv_has ls 8 [(6, .int 1), (7, .int (nI i)), (0, .ref h), (2, .int 1), (3, .int 1), (4, .int r447), (5, .int (nI (nd - 1)))] := hl
                        refine lv_iinc (k := 1) (x := (nI i)) (v := (nI (i + 1))) hx hb xd_Mo_newRequire_230 hl rfl (xb_inc i 1) (Nat.le_of_ble_eq_true rfl) rfl (fun ls hl => ?_)
                        have hl : lv_has ls 8 [(7, .int (nI (i + 1))), (6, .int 1), (0, .ref h), (2, .int 1), (3, .int 1), (4, .int r447), (5, .int (nI (nd - 1)))] := hl
                        refine lv_goto (tgt := 184) hx hb xd_Mo_newRequire_233 (by decide) ?_
                        exact ih463 (i + 1, 1) _ _ _ (show 5 * (nd - 1) + rq1 - (i + 1) < 5 * (nd - 1) + rq1 - i by omega) (lv_sub hl [0, 1, 2, 3, 4, 5, 6] rfl) hP hD hS ⟨(show 5 * (nd - 1) ≤ (i + 1) from by first | assumption | omega), (show (i + 1) ≤ 5 * (nd - 1) + rq1 from by first | assumption | omega)⟩
                · refine lv_iconst (v := 1) hx hb xd_Mo_newRequire_171 (by decide) ?_
                  refine lv_goto (tgt := 176) hx hb xd_Mo_newRequire_172 (by decide) ?_
                  refine lv_istore hx hb xd_Mo_newRequire_176 hl (Nat.le_of_ble_eq_true rfl) rfl (fun ls hl => ?_)
                  have hl : lv_has ls 8 [(6, .int 1), (5, .int (nI (nd - 1))), (4, .int r447), (1, .int (nI 3)), (3, .int 1), (2, .int 1), (0, .ref h)] := hl
                  refine lv_iconst (v := 5) hx hb xd_Mo_newRequire_178 (by decide) ?_
                  refine lv_iload hx hb xd_Mo_newRequire_179 (lv_at hl 1 rfl) ?_
                  refine lv_imul hx hb xd_Mo_newRequire_181 ?_
                  refine xn_top (y := nI (5 * (nd - 1))) (pk_mul 5 (nd - 1)) ?_
                  refine lv_istore hx hb xd_Mo_newRequire_182 hl (Nat.le_of_ble_eq_true rfl) rfl (fun ls hl => ?_)
                  have hl : lv_has ls 8 [(7, .int (nI (5 * (nd - 1)))), (6, .int 1), (5, .int (nI (nd - 1))), (4, .int r447), (1, .int (nI 3)), (3, .int 1), (2, .int 1), (0, .ref h)] := hl
                  refine xlab (σ := Nat × Int32) (ml := 8) 184 (fun (i, tw) => [(7, .int (nI i)), (6, .int tw), (0, .ref h), (2, .int 1), (3, .int 1), (4, .int r447), (5, .int (nI (nd - 1)))]) (fun (i, tw) => []) (fun (i, tw) => moW h mm kA v g) (fun (i, tw) => (5 * (nd - 1) ≤ i) ∧ (i ≤ 5 * (nd - 1) + rq1)) (fun (i, tw) => 5 * (nd - 1) + rq1 - i) ?_ (5 * (nd - 1), 1) _ _ _ (lv_sub hl [0, 1, 7, 6, 5, 3, 2] rfl) hP hD hS ⟨(show 5 * (nd - 1) ≤ (5 * (nd - 1)) from by first | assumption | omega), (show (5 * (nd - 1)) ≤ 5 * (nd - 1) + rq1 from by first | assumption | omega)⟩
                  intro n9 ih478 a9 ls H locs hμ hl hP hD hS hI
                  subst hμ
                  obtain ⟨i, tw⟩ := a9
                  obtain ⟨hi1, hi2⟩ := hI
                  have hi1 : 5 * (nd - 1) ≤ i := hi1
                  have hi2 : i ≤ 5 * (nd - 1) + rq1 := hi2
                  have hl : lv_has ls 8 [(7, .int (nI i)), (6, .int tw), (0, .ref h), (2, .int 1), (3, .int 1), (4, .int r447), (5, .int (nI (nd - 1)))] := hl
                  have hP : va_P D xcl (moW h mm kA v g) H := hP
                  have hD : va_D A (moW h mm kA v g) := hD
                  refine lv_iload hx hb xd_Mo_newRequire_184 (lv_at hl 6 rfl) ?_
                  refine xz_lt (a := nd - 1) (tgt := 236) hx hb xd_Mo_newRequire_186 (by decide) (by omega) ?_
                  refine lv_iload hx hb xd_Mo_newRequire_189 (lv_at hl 0 rfl) ?_
                  refine lv_iconst (v := 5) hx hb xd_Mo_newRequire_191 (by decide) ?_
                  refine lv_iload hx hb xd_Mo_newRequire_192 (lv_at hl 6 rfl) ?_
                  refine lv_imul hx hb xd_Mo_newRequire_194 ?_
                  refine xn_top (y := nI (5 * (nd - 1))) (pk_mul 5 (nd - 1)) ?_
                  refine lv_aload_n hx hb xd_Mo_newRequire_195 rfl (lv_at hl 2 rfl) ?_
                  refine va_get (D := D) (ci := 4) (v := .ref (mm 12)) (C := xR_Mo) (T := xT_Mo) (N := 31) hx hb hT xi_Mo hown hK.1 hP 0 rfl rfl 17 (by decide) (hT _ xq_12) (fun _ h9 => h9) rfl xd_Mo_newRequire_196 ?_
                  refine lv_iload hx hb xd_Mo_newRequire_199 (lv_at hl 6 rfl) ?_
                  refine xn_iald (i := nd - 1) hx hb hK.1 hP 13 0 rfl rfl (by omega) (by decide) xd_Mo_newRequire_201 ?_
                  refine xn_top (x := (g 12 (nd - 1))) (y := nI rq1) erq1 ?_
                  refine lv_iadd hx hb xd_Mo_newRequire_202 ?_
                  refine xn_top (y := nI ((5 * (nd - 1)) + rq1)) (nI_add (5 * (nd - 1)) rq1) ?_
                  refine xn_ge (a := i) (b := (5 * (nd - 1)) + rq1) (tgt := 236) hx hb xd_Mo_newRequire_203 (by decide) (by omega) (by omega) (fun hc480 => ?_) (fun hc480 => ?_)
                  · refine lv_iload hx hb xd_Mo_newRequire_236 (lv_at hl 1 rfl) ?_
                    refine lv_if_eq (tgt := 243) hx hb xd_Mo_newRequire_238 (by decide) (fun hc481 => ?_) (fun hc481 => ?_)
                    · refine lv_aload_n hx hb xd_Mo_newRequire_243 rfl (lv_at hl 2 rfl) ?_
                      have hFc := va_free (wc := (moW h mm kA v g)) hD hS hA [0, 1, 2, 3, 4, 5, 6, 7, 8, 9, 10, 11, 12, 13, 14, 15, 16, 17, 18, 19, 20, 21, 22, 23, 24, 25] rfl
                      refine va_calli (va_runV (As := []) (rest := []) ⟨hx, hb, hml, hown, hT⟩ (xc_Mo_isShut l D kA H.size h mm v g nd (by first | assumption | omega) (by first | assumption | omega)) (cwV 0 hT (wT_V xq_8 xq_9 xq_10 xq_5 xq_7) rfl rfl rfl (by decide +kernel) ⟨Nat.le_of_ble_eq_true rfl, Nat.le_of_ble_eq_true rfl⟩) (x_preV hK hP hD 0 rfl rfl) rfl rfl hl.1 rfl (lv_room (Nat.le_of_ble_eq_true rfl)) xd_Mo_newRequire_244 ⟨Nat.le_of_ble_eq_true rfl, Nat.le_of_ble_eq_true rfl⟩) hS (fun q _ h => hFc q h) hFc (fun r482 u483 t H1 locs ht hvm hp484 hB hz1 hk1 hS => ?_)
                      obtain ⟨hP1, hD1⟩ := hB
                      rw [ht] at hP1
                      have hD1 := hD1.weaken (fun _ _ _ h => hFc _ h)
                      generalize H1 = H at hP1 hS ⊢
                      have hP := hP1
                      have hD := hD1
                      have hP : va_P D xcl (moW h mm kA v g) H := hP
                      have hD : va_D A (moW h mm kA v g) := hD
                      rcases hp484 with ⟨rfl, z485⟩ | ⟨rfl, z486, z487⟩
                      · refine xz_ne (a := 1) (tgt := 261) hx hb xd_Mo_newRequire_247 (by decide) (by omega) (fun _ => ?_) (fun hc488 => absurd hc488 (by omega))
                        refine lv_bipush (v := (-2)) hx hb xd_Mo_newRequire_261 (by decide) ?_
                        exact W.iret (v := (-2)) hx hb hr (fun t ht hW => ⟨⟨(-2), (v, g), rfl, ⟨hMI, rfl, Or.inr (Or.inl rfl)⟩, by rw [ht]; exact hP, hD⟩, hS.F ht⟩) hS.2.2 xd_Mo_newRequire_263
                      · refine xz_ne (a := 0) (tgt := 261) hx hb xd_Mo_newRequire_247 (by decide) (by omega) (fun hc489 => absurd hc489 (by omega)) (fun _ => ?_)
                        refine lv_aload_n hx hb xd_Mo_newRequire_250 rfl (lv_at hl 2 rfl) ?_
                        refine va_get (D := D) (ci := 4) (v := .ref (mm 12)) (C := xR_Mo) (T := xT_Mo) (N := 31) hx hb hT xi_Mo hown hK.1 hP 0 rfl rfl 17 (by decide) (hT _ xq_12) (fun _ h9 => h9) rfl xd_Mo_newRequire_251 ?_
                        refine lv_iload hx hb xd_Mo_newRequire_254 (lv_at hl 6 rfl) ?_
                        refine xn_iald (i := nd - 1) hx hb hK.1 hP 13 0 rfl rfl (by omega) (by decide) xd_Mo_newRequire_256 ?_
                        refine xn_top (x := (g 12 (nd - 1))) (y := nI rq1) erq1 ?_
                        refine lv_iconst (v := 5) hx hb xd_Mo_newRequire_257 (by decide) ?_
                        refine xn_ne (a := rq1) (b := 5) (tgt := 264) hx hb xd_Mo_newRequire_258 (by decide) (by omega) (by omega) (fun hc490 => ?_) (fun hc490 => ?_)
                        · refine lv_aload_n hx hb xd_Mo_newRequire_264 rfl (lv_at hl 2 rfl) ?_
                          refine va_get (D := D) (ci := 4) (v := .ref (mm 13)) (C := xR_Mo) (T := xT_Mo) (N := 31) hx hb hT xi_Mo hown hK.1 hP 0 rfl rfl 18 (by decide) (hT _ xq_13) (fun _ h9 => h9) rfl xd_Mo_newRequire_265 ?_
                          refine lv_iconst (v := 5) hx hb xd_Mo_newRequire_268 (by decide) ?_
                          refine lv_iload hx hb xd_Mo_newRequire_269 (lv_at hl 6 rfl) ?_
                          refine lv_imul hx hb xd_Mo_newRequire_271 ?_
                          refine xn_top (y := nI (5 * (nd - 1))) (pk_mul 5 (nd - 1)) ?_
                          refine lv_aload_n hx hb xd_Mo_newRequire_272 rfl (lv_at hl 2 rfl) ?_
                          refine va_get (D := D) (ci := 4) (v := .ref (mm 12)) (C := xR_Mo) (T := xT_Mo) (N := 31) hx hb hT xi_Mo hown hK.1 hP 0 rfl rfl 17 (by decide) (hT _ xq_12) (fun _ h9 => h9) rfl xd_Mo_newRequire_273 ?_
                          refine lv_iload hx hb xd_Mo_newRequire_276 (lv_at hl 6 rfl) ?_
                          refine xn_iald (i := nd - 1) hx hb hK.1 hP 13 0 rfl rfl (by omega) (by decide) xd_Mo_newRequire_278 ?_
                          refine xn_top (x := (g 12 (nd - 1))) (y := nI rq1) erq1 ?_
                          refine lv_iadd hx hb xd_Mo_newRequire_279 ?_
                          refine xn_top (y := nI ((5 * (nd - 1)) + rq1)) (nI_add (5 * (nd - 1)) rq1) ?_
                          refine lv_iload hx hb xd_Mo_newRequire_280 (lv_at hl 5 rfl) ?_
                          refine xn_iast (i := (5 * (nd - 1)) + rq1) hx hb hK.1 hP hD hS 14 0 rfl rfl (by omega) (by decide) xd_Mo_newRequire_282 (fun H locs hP hD hS => ?_)
                          have hP : va_P D xcl (moW h mm kA v (va_up g 13 (upd (g 13) ((5 * (nd - 1)) + rq1) r447))) H := hP
                          have hD : va_D A (moW h mm kA v (va_up g 13 (upd (g 13) ((5 * (nd - 1)) + rq1) r447))) := hD
                          refine lv_aload_n hx hb xd_Mo_newRequire_283 rfl (lv_at hl 2 rfl) ?_
                          refine va_get (D := D) (ci := 4) (v := .ref (mm 16)) (C := xR_Mo) (T := xT_Mo) (N := 31) hx hb hT xi_Mo hown hK.1 hP 0 rfl rfl 21 (by decide) (hT _ xq_14) (fun _ h9 => h9) rfl xd_Mo_newRequire_284 ?_
                          refine lv_iconst (v := 5) hx hb xd_Mo_newRequire_287 (by decide) ?_
                          refine lv_iload hx hb xd_Mo_newRequire_288 (lv_at hl 6 rfl) ?_
                          refine lv_imul hx hb xd_Mo_newRequire_290 ?_
                          refine xn_top (y := nI (5 * (nd - 1))) (pk_mul 5 (nd - 1)) ?_
                          refine lv_aload_n hx hb xd_Mo_newRequire_291 rfl (lv_at hl 2 rfl) ?_
                          refine va_get (D := D) (ci := 4) (v := .ref (mm 12)) (C := xR_Mo) (T := xT_Mo) (N := 31) hx hb hT xi_Mo hown hK.1 hP 0 rfl rfl 17 (by decide) (hT _ xq_12) (fun _ h9 => h9) rfl xd_Mo_newRequire_292 ?_
                          refine lv_iload hx hb xd_Mo_newRequire_295 (lv_at hl 6 rfl) ?_
                          refine xn_iald (i := nd - 1) hx hb hK.1 hP 13 0 rfl rfl (by omega) (by decide) xd_Mo_newRequire_297 ?_
                          refine xn_top (x := (g 12 (nd - 1))) (y := nI rq1) erq1 ?_
                          refine lv_iadd hx hb xd_Mo_newRequire_298 ?_
                          refine xn_top (y := nI ((5 * (nd - 1)) + rq1)) (nI_add (5 * (nd - 1)) rq1) ?_
                          refine lv_iload_n hx hb xd_Mo_newRequire_299 rfl (lv_at hl 3 rfl) ?_
                          refine xn_zast (i := (5 * (nd - 1)) + rq1) hx hb hK.1 hP hD hS 17 2 rfl rfl (by omega) (by decide) xd_Mo_newRequire_300 (fun H locs hP hD hS => ?_)
                          have hP : va_P D xcl (moW h mm kA v (va_up (va_up g 13 (upd (g 13) ((5 * (nd - 1)) + rq1) r447)) 16 (upd (g 16) ((5 * (nd - 1)) + rq1) (vp_nar .boolean 1)))) H := hP
                          have hD : va_D A (moW h mm kA v (va_up (va_up g 13 (upd (g 13) ((5 * (nd - 1)) + rq1) r447)) 16 (upd (g 16) ((5 * (nd - 1)) + rq1) (vp_nar .boolean 1)))) := hD
                          refine lv_aload_n hx hb xd_Mo_newRequire_301 rfl (lv_at hl 2 rfl) ?_
                          refine va_get (D := D) (ci := 4) (v := .ref (mm 17)) (C := xR_Mo) (T := xT_Mo) (N := 31) hx hb hT xi_Mo hown hK.1 hP 0 rfl rfl 22 (by decide) (hT _ xq_15) (fun _ h9 => h9) rfl xd_Mo_newRequire_302 ?_
                          refine lv_iconst (v := 5) hx hb xd_Mo_newRequire_305 (by decide) ?_
                          refine lv_iload hx hb xd_Mo_newRequire_306 (lv_at hl 6 rfl) ?_
                          refine lv_imul hx hb xd_Mo_newRequire_308 ?_
                          refine xn_top (y := nI (5 * (nd - 1))) (pk_mul 5 (nd - 1)) ?_
                          refine lv_aload_n hx hb xd_Mo_newRequire_309 rfl (lv_at hl 2 rfl) ?_
                          refine va_get (D := D) (ci := 4) (v := .ref (mm 12)) (C := xR_Mo) (T := xT_Mo) (N := 31) hx hb hT xi_Mo hown hK.1 hP 0 rfl rfl 17 (by decide) (hT _ xq_12) (fun _ h9 => h9) rfl xd_Mo_newRequire_310 ?_
                          refine lv_iload hx hb xd_Mo_newRequire_313 (lv_at hl 6 rfl) ?_
                          refine xn_iald (i := nd - 1) hx hb hK.1 hP 13 0 rfl rfl (by omega) (by decide) xd_Mo_newRequire_315 ?_
                          refine xn_top (x := (g 12 (nd - 1))) (y := nI rq1) erq1 ?_
                          refine lv_iadd hx hb xd_Mo_newRequire_316 ?_
                          refine xn_top (y := nI ((5 * (nd - 1)) + rq1)) (nI_add (5 * (nd - 1)) rq1) ?_
                          refine lv_iload_n hx hb xd_Mo_newRequire_317 rfl (lv_at hl 4 rfl) ?_
                          refine xn_zast (i := (5 * (nd - 1)) + rq1) hx hb hK.1 hP hD hS 18 2 rfl rfl (by omega) (by decide) xd_Mo_newRequire_318 (fun H locs hP hD hS => ?_)
                          have hP : va_P D xcl (moW h mm kA v (va_up (va_up (va_up g 13 (upd (g 13) ((5 * (nd - 1)) + rq1) r447)) 16 (upd (g 16) ((5 * (nd - 1)) + rq1) (vp_nar .boolean 1))) 17 (upd (g 17) ((5 * (nd - 1)) + rq1) (vp_nar .boolean 1)))) H := hP
                          have hD : va_D A (moW h mm kA v (va_up (va_up (va_up g 13 (upd (g 13) ((5 * (nd - 1)) + rq1) r447)) 16 (upd (g 16) ((5 * (nd - 1)) + rq1) (vp_nar .boolean 1))) 17 (upd (g 17) ((5 * (nd - 1)) + rq1) (vp_nar .boolean 1)))) := hD
                          refine lv_aload_n hx hb xd_Mo_newRequire_319 rfl (lv_at hl 2 rfl) ?_
                          refine va_get (D := D) (ci := 4) (v := .ref (mm 12)) (C := xR_Mo) (T := xT_Mo) (N := 31) hx hb hT xi_Mo hown hK.1 hP 0 rfl rfl 17 (by decide) (hT _ xq_12) (fun _ h9 => h9) rfl xd_Mo_newRequire_320 ?_
                          refine lv_iload hx hb xd_Mo_newRequire_323 (lv_at hl 6 rfl) ?_
                          refine lv_dup2_11 hx hb xd_Mo_newRequire_325 rfl rfl ?_
                          refine xn_iald (i := nd - 1) hx hb hK.1 hP 13 0 rfl rfl (by omega) (by decide) xd_Mo_newRequire_326 ?_
                          refine xn_top (x := (g 12 (nd - 1))) (y := nI rq1) erq1 ?_
                          refine lv_iconst (v := 1) hx hb xd_Mo_newRequire_327 (by decide) ?_
                          refine lv_iadd hx hb xd_Mo_newRequire_328 ?_
                          refine xn_top (y := nI (rq1 + 1)) (nI_add rq1 1) ?_
                          refine xn_iast (i := nd - 1) hx hb hK.1 hP hD hS 13 0 rfl rfl (by omega) (by decide) xd_Mo_newRequire_329 (fun H locs hP hD hS => ?_)
                          have hP : va_P D xcl (moW h mm kA v (va_up (va_up (va_up (va_up g 12 (upd (g 12) (nd - 1) (nI (rq1 + 1)))) 13 (upd (g 13) ((5 * (nd - 1)) + rq1) r447)) 16 (upd (g 16) ((5 * (nd - 1)) + rq1) (vp_nar .boolean 1))) 17 (upd (g 17) ((5 * (nd - 1)) + rq1) (vp_nar .boolean 1)))) H := hP
                          have hD : va_D A (moW h mm kA v (va_up (va_up (va_up (va_up g 12 (upd (g 12) (nd - 1) (nI (rq1 + 1)))) 13 (upd (g 13) ((5 * (nd - 1)) + rq1) r447)) 16 (upd (g 16) ((5 * (nd - 1)) + rq1) (vp_nar .boolean 1))) 17 (upd (g 17) ((5 * (nd - 1)) + rq1) (vp_nar .boolean 1)))) := hD
                          refine lv_iconst (v := 2) hx hb xd_Mo_newRequire_330 (by decide) ?_
                          exact W.iret (v := 2) hx hb hr (fun t ht hW => ⟨⟨2, (v, (va_up (va_up (va_up (va_up g 12 (upd (g 12) (nd - 1) (nI (rq1 + 1)))) 13 (upd (g 13) ((5 * (nd - 1)) + rq1) r447)) 16 (upd (g 16) ((5 * (nd - 1)) + rq1) (vp_nar .boolean 1))) 17 (upd (g 17) ((5 * (nd - 1)) + rq1) (vp_nar .boolean 1)))), rfl, ⟨MI_g (g := va_up g 12 (upd (g 12) (nd - 1) (nI (rq1 + 1)))) rfl rfl rfl rfl rfl rfl rfl rfl (MI_rq (by omega) hMI), rfl, Or.inr (Or.inr (Or.inr rfl))⟩, by rw [ht]; exact hP, hD⟩, hS.F ht⟩) hS.2.2 xd_Mo_newRequire_331
                        · refine lv_bipush (v := (-2)) hx hb xd_Mo_newRequire_261 (by decide) ?_
                          exact W.iret (v := (-2)) hx hb hr (fun t ht hW => ⟨⟨(-2), (v, g), rfl, ⟨hMI, rfl, Or.inr (Or.inl rfl)⟩, by rw [ht]; exact hP, hD⟩, hS.F ht⟩) hS.2.2 xd_Mo_newRequire_263
                    · refine lv_iconst (v := (-1)) hx hb xd_Mo_newRequire_241 (by decide) ?_
                      exact W.iret (v := (-1)) hx hb hr (fun t ht hW => ⟨⟨(-1), (v, g), rfl, ⟨hMI, rfl, Or.inl rfl⟩, by rw [ht]; exact hP, hD⟩, hS.F ht⟩) hS.2.2 xd_Mo_newRequire_242
                  · refine lv_iload hx hb xd_Mo_newRequire_206 (lv_at hl 1 rfl) ?_
                    refine lv_if_ne (tgt := 223) hx hb xd_Mo_newRequire_208 (by decide) (fun hc491 => ?_) (fun hc491 => ?_)
                    · refine lv_iconst (v := 1) hx hb xd_Mo_newRequire_223 (by decide) ?_
                      refine lv_goto (tgt := 228) hx hb xd_Mo_newRequire_224 (by decide) ?_
                      refine lv_istore hx hb xd_Mo_newRequire_228 hl (Nat.le_of_ble_eq_true rfl) rfl (fun ls hl => ?_)
                      have hl : lv_has ls 8 [(6, .int 1), (7, .int (nI i)), (0, .ref h), (2, .int 1), (3, .int 1), (4, .int r447), (5, .int (nI (nd - 1)))] := hl
                      refine lv_iinc (k := 1) (x := (nI i)) (v := (nI (i + 1))) hx hb xd_Mo_newRequire_230 hl rfl (xb_inc i 1) (Nat.le_of_ble_eq_true rfl) rfl (fun ls hl => ?_)
                      have hl : lv_has ls 8 [(7, .int (nI (i + 1))), (6, .int 1), (0, .ref h), (2, .int 1), (3, .int 1), (4, .int r447), (5, .int (nI (nd - 1)))] := hl
                      refine lv_goto (tgt := 184) hx hb xd_Mo_newRequire_233 (by decide) ?_
                      exact ih478 (i + 1, 1) _ _ _ (show 5 * (nd - 1) + rq1 - (i + 1) < 5 * (nd - 1) + rq1 - i by omega) (lv_sub hl [0, 1, 2, 3, 4, 5, 6] rfl) hP hD hS ⟨(show 5 * (nd - 1) ≤ (i + 1) from by first | assumption | omega), (show (i + 1) ≤ 5 * (nd - 1) + rq1 from by first | assumption | omega)⟩
                    · refine lv_aload_n hx hb xd_Mo_newRequire_211 rfl (lv_at hl 2 rfl) ?_
                      refine va_get (D := D) (ci := 4) (v := .ref (mm 13)) (C := xR_Mo) (T := xT_Mo) (N := 31) hx hb hT xi_Mo hown hK.1 hP 0 rfl rfl 18 (by decide) (hT _ xq_13) (fun _ h9 => h9) rfl xd_Mo_newRequire_212 ?_
                      refine lv_iload hx hb xd_Mo_newRequire_215 (lv_at hl 0 rfl) ?_
                      refine xn_iald (i := i) hx hb hK.1 hP 14 0 rfl rfl (by omega) (by decide) xd_Mo_newRequire_217 ?_
                      refine lv_iload hx hb xd_Mo_newRequire_218 (lv_at hl 5 rfl) ?_
                      refine lv_icmp_ne (tgt := 227) hx hb xd_Mo_newRequire_220 (by decide) (fun hc492 => ?_) (fun hc492 => ?_)
                      · refine lv_iconst (v := 0) hx hb xd_Mo_newRequire_227 (by decide) ?_
                        refine lv_istore hx hb xd_Mo_newRequire_228 hl (Nat.le_of_ble_eq_true rfl) rfl (fun ls hl => ?_)
                        have hl : lv_has ls 8 [(6, .int 0), (7, .int (nI i)), (0, .ref h), (2, .int 1), (3, .int 1), (4, .int r447), (5, .int (nI (nd - 1)))] := hl
                        refine lv_iinc (k := 1) (x := (nI i)) (v := (nI (i + 1))) hx hb xd_Mo_newRequire_230 hl rfl (xb_inc i 1) (Nat.le_of_ble_eq_true rfl) rfl (fun ls hl => ?_)
                        have hl : lv_has ls 8 [(7, .int (nI (i + 1))), (6, .int 0), (0, .ref h), (2, .int 1), (3, .int 1), (4, .int r447), (5, .int (nI (nd - 1)))] := hl
                        refine lv_goto (tgt := 184) hx hb xd_Mo_newRequire_233 (by decide) ?_
                        exact ih478 (i + 1, 0) _ _ _ (show 5 * (nd - 1) + rq1 - (i + 1) < 5 * (nd - 1) + rq1 - i by omega) (lv_sub hl [0, 1, 2, 3, 4, 5, 6] rfl) hP hD hS ⟨(show 5 * (nd - 1) ≤ (i + 1) from by first | assumption | omega), (show (i + 1) ≤ 5 * (nd - 1) + rq1 from by first | assumption | omega)⟩
                      · refine lv_iconst (v := 1) hx hb xd_Mo_newRequire_223 (by decide) ?_
                        refine lv_goto (tgt := 228) hx hb xd_Mo_newRequire_224 (by decide) ?_
                        refine lv_istore hx hb xd_Mo_newRequire_228 hl (Nat.le_of_ble_eq_true rfl) rfl (fun ls hl => ?_)
                        have hl : lv_has ls 8 [(6, .int 1), (7, .int (nI i)), (0, .ref h), (2, .int 1), (3, .int 1), (4, .int r447), (5, .int (nI (nd - 1)))] := hl
                        refine lv_iinc (k := 1) (x := (nI i)) (v := (nI (i + 1))) hx hb xd_Mo_newRequire_230 hl rfl (xb_inc i 1) (Nat.le_of_ble_eq_true rfl) rfl (fun ls hl => ?_)
                        have hl : lv_has ls 8 [(7, .int (nI (i + 1))), (6, .int 1), (0, .ref h), (2, .int 1), (3, .int 1), (4, .int r447), (5, .int (nI (nd - 1)))] := hl
                        refine lv_goto (tgt := 184) hx hb xd_Mo_newRequire_233 (by decide) ?_
                        exact ih478 (i + 1, 1) _ _ _ (show 5 * (nd - 1) + rq1 - (i + 1) < 5 * (nd - 1) + rq1 - i by omega) (lv_sub hl [0, 1, 2, 3, 4, 5, 6] rfl) hP hD hS ⟨(show 5 * (nd - 1) ≤ (i + 1) from by first | assumption | omega), (show (i + 1) ≤ 5 * (nd - 1) + rq1 from by first | assumption | omega)⟩
            · refine lv_iconst (v := (-1)) hx hb xd_Mo_newRequire_144 (by decide) ?_
              exact W.iret (v := (-1)) hx hb hr (fun t ht hW => ⟨⟨(-1), (v, g), rfl, ⟨hMI, rfl, Or.inl rfl⟩, by rw [ht]; exact hP, hD⟩, hS.F ht⟩) hS.2.2 xd_Mo_newRequire_145
